def lx_sc (g : fw_G) (b Ls : Nat) (xs : Nat → Int32) : Prop := va_X b Ls xs g.2.2.2.1 g.2.2.2.1.heap ∧ b < g.2.2.2.1.heap.size ∧ Ls ≤ 4096
theorem fr_sld {g : fw_G} {M : fw_M} {Post : fw_O → fw_W → Prop} {nc ns : Nat} {w : fw_W} {pc : Nat} {L : List (Nat × Value)} {rest : List Value} {b Ls k : Nat} {xs : Nat → Int32} (hsc : lx_sc g b Ls xs) (hd : decode M.2.1 pc = .ok (.iaload, 1)) (hk : k < Ls) (kk : fw_R g M Post nc ns w (pc + 1) L (.int (xs k) :: rest)) : fw_R g M Post nc ns w pc L (.int (nI k) :: .ref b :: rest) := by
  intro hg s m args below meth c H locs cells slots ls cx hB hH hS h1 h2 hl
  have kk := kk hg s m args below meth c H locs cells slots ls cx hB hH hS h1 h2 hl
  obtain ⟨q1, q2, q3⟩ := hsc
  exact va_sld hg.1 cx.2.2.2.2.1 (va_X.moved cx.1.alike q1) q2 (fun z => Nat.not_le.mpr q2 z) hS (vp_in_nI hk (by omega)) hd (by rw [nI_clamp (by omega)]; exact kk)
theorem fr_slen {g : fw_G} {M : fw_M} {Post : fw_O → fw_W → Prop} {nc ns : Nat} {w : fw_W} {pc : Nat} {L : List (Nat × Value)} {rest : List Value} {b Ls : Nat} {xs : Nat → Int32} (hsc : lx_sc g b Ls xs) (hd : decode M.2.1 pc = .ok (.arraylength, 1)) (kk : fw_R g M Post nc ns w (pc + 1) L (.int (nI Ls) :: rest)) : fw_R g M Post nc ns w pc L (.ref b :: rest) := by
  intro hg s m args below meth c H locs cells slots ls cx hB hH hS h1 h2 hl
  have kk := kk hg s m args below meth c H locs cells slots ls cx hB hH hS h1 h2 hl
  obtain ⟨q1, q2, q3⟩ := hsc
  exact va_slen hg.1 cx.2.2.2.2.1 (va_X.moved cx.1.alike q1) q2 (fun z => Nat.not_le.mpr q2 z) hS hd kk
def lx_I (g : fw_G) (A : fs_A) (mo : Nat) (ar : Nat → Nat) (out : Nat) (S : fs_S) (w : fw_W) : Prop := fs_X g A S w ∧ fm_ad mo ar ∧ (∃ f, w out = some (lx_lo g f)) ∧ ∃ th so pl po F, w mo = some (.inr (5, fm_fs ar (th, S.1, S.2.1, so, pl, po))) ∧ (∀ j, j < 16 → w (ar j) = some (fm_ar g j (F j))) ∧ fm_c S.1 S.2.1 S.2.2.1 S.2.2.2.1 S.2.2.2.2 F
theorem lx_next {g : fw_G} {A : fs_A} {mo : Nat} {ar : Nat → Nat} {out : Nat} {S2 : fs_S} {u : fw_W} {Q : fm_Q} {F F2 : fm_F} {f : Nat → Int64} {th so pl po : Int32} (hX : fs_X g A S2 u) (hA : fm_ad mo ar) (hmo : u mo = some (.inr (5, fm_fs ar Q))) (harr : ∀ j, j < 16 → u (ar j) = some (fm_ar g j (F j))) (hout : u out = some (lx_lo g f)) (hc2 : fm_c S2.1 S2.2.1 S2.2.2.1 S2.2.2.2.1 S2.2.2.2.2 F2) :
    lx_I g A mo ar out S2 (fm_W g u mo ar (th, S2.1, S2.2.1, so, pl, po) F2) ∧ fm_W g u mo ar (th, S2.1, S2.2.1, so, pl, po) F2 out = some (lx_lo g f) := by
  have key : ∀ b e, u b = some e → (∀ fs, e ≠ .inr (5, fs)) → (∀ c n f, e ≠ .inl (c, n, .inl f)) → fm_W g u mo ar (th, S2.1, S2.2.1, so, pl, po) F2 b = some e := by
    intro b e hb h1 h2
    rw [fm_out (fun z => ?_) (fun j hj z => ?_)]
    · exact hb
    · subst z; rw [hmo] at hb; cases hb; exact h1 _ rfl
    · subst z; rw [harr j hj] at hb; cases hb; exact h2 _ _ _ rfl
  have ho := key out _ hout (fun fs z => by cases z) (fun c n f z => by cases z)
  exact ⟨⟨fs_X_nk (fun b e hb hk => key b e hb hk.1 hk.2.1) hX, hA, ⟨f, ho⟩, th, so, pl, po, F2, fm_mo, fun j hj => fm_at hA hj, hc2⟩, ho⟩
theorem lx_self {u : fw_W} {g : fw_G} {mo : Nat} {ar : Nat → Nat} {w : fw_W} {Q : fm_Q} {F : fm_F} (hmk : ∀ b e, w b = some e → fm_mk e → u b = some e) (hmo : w mo = some (.inr (5, fm_fs ar Q))) (harr : ∀ j, j < 16 → w (ar j) = some (fm_ar g j (F j))) : u mo = some (.inr (5, fm_fs ar Q)) ∧ (∀ j, j < 16 → u (ar j) = some (fm_ar g j (F j))) :=
  ⟨hmk _ _ hmo (Or.inl ⟨_, rfl⟩), fun j hj => hmk _ _ (harr j hj) (Or.inr ⟨_, _, _, rfl⟩)⟩
theorem lx_31 (x : Int32) : ∃ j, j < 32 ∧ x &&& 31 = nI j := by
  refine ⟨(x.toBitVec &&& 31#32).toNat, ?_, ?_⟩
  · rw [BitVec.toNat_and]
    exact Nat.lt_of_le_of_lt Nat.and_le_right (by decide)
  · apply Int32.toBitVec.inj
    show x.toBitVec &&& 31#32 = BitVec.ofNat 32 _
    rw [BitVec.ofNat_toNat, BitVec.setWidth_eq]
theorem lx_neg : ∀ m, m < 8 → nI m - 8 < 0 := by decide +kernel
theorem lx_le {Ls i : Nat} (hL : Ls ≤ 4096) (hi : i < 2 ^ 31) (h : ¬ nI Ls - 8 < nI i) : i + 8 ≤ Ls := by
  by_cases h8 : Ls < 8
  · exact absurd (Int32.lt_of_lt_of_le (lx_neg Ls h8) (fm_ge hi)) h
  · have e : nI Ls - 8 = nI (Ls - 8) := ni_sub (b := 8) (by omega)
    rw [e] at h
    have := mt (ni_lt (by omega) hi).mpr h
    omega
theorem lx_least {P : Nat → Prop} : (∃ k, P k) → ∃ k, P k ∧ ∀ j, j < k → ¬ P j := by
  rintro ⟨k, hk⟩
  induction k using Nat.strongRecOn with
  | _ k ih =>
    by_cases h : ∃ j, j < k ∧ P j
    · obtain ⟨j, h1, h2⟩ := h
      exact ih j h1 h2
    · exact ⟨k, hk, fun j hj hp => h ⟨j, hj, hp⟩⟩
theorem fi_8 (k : Nat) : nI k + Int32.ofInt 8 = nI (k + 8) := ni_add k 8
theorem j_step {g : fw_G} {w : fw_W} {o gr a1 a2 a3 a4 na us n : Nat} {hu hg : Nat → Nat → Bool} {nd : fs_D} (hX : fs_X g (o, gr, a1, a2, a3, a4, na) (us, n, hu, hg, nd) w) {mo : Nat} {ar : Nat → Nat} (hA : fm_ad mo ar) {F : fm_F} (hc : fm_c us n hu hg nd F) : ∃ (v : Int32) (S2 : fs_S), fw_R g m_FR_step (fs_P g (o, gr, a1, a2, a3, a4, na) w (.inl (some (.int v))) S2) 0 0 w 0 [(0, .ref o)] [] ∧ ∀ (w0 : fw_W) (th so pl po : Int32), fw_R g m_MO_step (fm_P g w0 mo ar (.int v) 0 S2) 0 0 (fm_W g w0 mo ar (th, us, n, so, pl, po) F) 0 [(0, .ref mo)] [] := by
  by_cases h : ∃ k, ∃ N, nd k = some N ∧ N.2.2.2.2.1 = true
  · obtain ⟨k, ⟨N, hk, hs⟩, hno⟩ := lx_least h
    have h2 : ∀ j M, j < k → nd j = some M → M.2.2.2.2.1 = false := fun j M hj hM => by
      cases e : M.2.2.2.2.1 with
      | false => rfl
      | true => exact absurd ⟨M, hM, e⟩ (hno j hj)
    exact ⟨_, _, p_FR_step_y hX hk hs h2, fun w0 th so pl po => p_MO_step_y hA hc (fm_S_of hX) hk hs h2⟩
  · have h2 : ∀ j M, nd j = some M → M.2.2.2.2.1 = false := fun j M hM => by
      cases e : M.2.2.2.2.1 with
      | false => rfl
      | true => exact absurd ⟨j, M, hM, e⟩ h
    exact ⟨_, _, p_FR_step_n hX h2, fun w0 th so pl po => p_MO_step_n hA hc (fm_S_of hX) h2⟩
theorem j_stale {g : fw_G} {w : fw_W} {o gr a1 a2 a3 a4 na us n : Nat} {hu hg : Nat → Nat → Bool} {nd : fs_D} (hX : fs_X g (o, gr, a1, a2, a3, a4, na) (us, n, hu, hg, nd) w) {mo : Nat} {ar : Nat → Nat} (hA : fm_ad mo ar) {F : fm_F} (hc : fm_c us n hu hg nd F) : ∃ (v : Int32) (S2 : fs_S), fw_R g m_FR_stale (fs_P g (o, gr, a1, a2, a3, a4, na) w (.inl (some (.int v))) S2) 0 0 w 0 [(0, .ref o)] [] ∧ ∀ (w0 : fw_W) (th so pl po : Int32), fw_R g m_MO_stale (fm_P g w0 mo ar (.int v) 0 S2) 0 0 (fm_W g w0 mo ar (th, us, n, so, pl, po) F) 0 [(0, .ref mo)] [] := by
  exact ⟨_, _, p_FR_stale_ok hX, fun w0 th so pl po => p_MO_stale_ok hA hc (fm_S_of hX)⟩
theorem l_user {g : fw_G} {Post : fw_O → fw_W → Prop} {nc ns : Nat} {b Ls : Nat} {xs : Nat → Int32} (hsc : lx_sc g b Ls xs) {o gr a1 a2 a3 a4 na mo out : Nat} {ar : Nat → Nat} {S : fs_S} {w : fw_W} (hI : lx_I g (o, gr, a1, a2, a3, a4, na) mo ar out S w) {i : Nat} (hi : i + 8 ≤ Ls) (kk : ∀ S2 u, lx_I g (o, gr, a1, a2, a3, a4, na) mo ar out S2 u → fw_R g m_LW_law Post nc ns u 1665 [(0, .ref b), (1, .ref o), (2, .ref mo), (3, .ref out), (4, .int (nI i))] []) : fw_R g m_LW_law Post (nc + 10) (ns + 72) w 140 [(0, .ref b), (1, .ref o), (2, .ref mo), (3, .ref out), (4, .int (nI i))] [] := by
  obtain ⟨us, n, hu, hg, nd⟩ := S
  obtain ⟨hX, hA, ⟨f, hout⟩, th, so, pl, po, F, hmo, harr, hc⟩ := hI
  have hL := hsc.2.2
  obtain ⟨c, v, S2, hW, hM⟩ := j_user hX hout hA hc 
  refine fr_nc (nc2 := nc + 1) (ns2 := ns + 6) (by omega) (by omega) ?_
  refine fr_aload_n (pc := 140) d_LW_law_140 rfl rfl ?_
  refine fr_aload_n (pc := 141) d_LW_law_141 rfl rfl ?_
  refine fr_calls (pc := 142) (nc := nc) (ns := ns) (N := m_LW_user) (rest := []) (as := [.ref o, .ref out]) d_LW_law_142 k_LW_user lk_LW_86 sc_LW_user np_LW_user ⟨by decide, by decide, Nat.le_of_ble_eq_true rfl⟩ (Nat.le_of_ble_eq_true rfl) hW (fun v1 u h9 => ?_) (fun C u h9 => by obtain ⟨h1, -⟩ := h9; cases h1) rfl
  obtain ⟨h1, hX2, hmk, f2, ho2, hf2⟩ := h9
  cases h1
  obtain ⟨hmo2, harr2⟩ := lx_self hmk hmo harr
  have eu := fs_X_of_fm hmo2 harr2
  rw [eu]
  refine fr_istore (pc := 145) (L2 := [(0, .ref b), (1, .ref o), (2, .ref mo), (3, .ref out), (4, .int (nI i)), (5, .int c)]) d_LW_law_145 (by decide) rfl ?_
  refine fr_aload_n (pc := 147) d_LW_law_147 rfl rfl ?_
  refine fr_callV (pc := 148) (nc := nc) (ns := ns) (N := m_MO_user) (rest := []) (as := []) d_LW_law_148 vc_LW_91 ⟨by decide, by decide, Nat.le_of_ble_eq_true rfl⟩ (Nat.le_of_ble_eq_true rfl) fm_mo (hM u th so pl po) rfl (fun v1 u2 h9 => ?_) (fun C u h9 => by obtain ⟨h1, -⟩ := h9; cases h1)
  obtain ⟨h1, so2, pl2, po2, F2, rfl, hc2⟩ := h9
  cases h1
  obtain ⟨hI2, ho3⟩ := lx_next (th := c) (so := so2) (pl := pl2) (po := po2) hX2 hA hmo2 harr2 ho2 hc2
  refine fr_istore (pc := 151) (L2 := [(0, .ref b), (1, .ref o), (2, .ref mo), (3, .ref out), (4, .int (nI i)), (5, .int c), (6, .int v)]) d_LW_law_151 (by decide) rfl ?_
  refine fr_aload_n (pc := 153) d_LW_law_153 rfl rfl ?_
  refine fr_callv_p (pc := 154) (nc := nc) (ns := ns) (N := m_MO_thrown) (rest := []) (as := []) d_LW_law_154 vc_LW_92 ⟨by decide, by decide, Nat.le_of_ble_eq_true rfl⟩ (Nat.le_of_ble_eq_true rfl) fm_mo (c_MO_thrown hA) rfl ?_
  refine fr_iload (pc := 157) d_LW_law_157 rfl ?_
  refine fr_icmp_eq (pc := 159) (tgt := 164) d_LW_law_159 (by decide) (fun _ => ?_) (fun z => absurd rfl z)
  refine fr_iload (pc := 164) d_LW_law_164 rfl ?_
  refine fr_if_ne (pc := 166) (tgt := 181) d_LW_law_166 (by decide) (fun z => ?_) (fun z => ?_)
  · refine fr_goto (pc := 181) (tgt := 1665) d_LW_law_181 (by decide) ?_
    exact fr_Ld (fr_Ld (kk S2 _ hI2))
  · refine fr_aload_n (pc := 169) d_LW_law_169 rfl rfl ?_
    refine fr_iconst (pc := 170) (v := 0) d_LW_law_170 (by decide) ?_
    refine fr_laldN (pc := 171) (n := 1) (k := 0) d_LW_law_171 ho3 (by omega) (by omega) ?_
    refine fr_iload (pc := 172) d_LW_law_172 rfl ?_
    refine fr_i2l (pc := 174) d_LW_law_174 rfl ?_
    refine fr_lcmp (pc := 175) d_LW_law_175 ?_
    refine fr_st (st2 := [.int 0]) (by rw [(bb_cmp2 _ _).mpr (hf2 z)]) ?_
    refine fr_if_eq (pc := 176) (tgt := 181) d_LW_law_176 (by decide) (fun _ => ?_) (fun z => absurd rfl z)
    refine fr_goto (pc := 181) (tgt := 1665) d_LW_law_181 (by decide) ?_
    exact fr_Ld (fr_Ld (kk S2 _ hI2))
theorem l_group {g : fw_G} {Post : fw_O → fw_W → Prop} {nc ns : Nat} {b Ls : Nat} {xs : Nat → Int32} (hsc : lx_sc g b Ls xs) {o gr a1 a2 a3 a4 na mo out : Nat} {ar : Nat → Nat} {S : fs_S} {w : fw_W} (hI : lx_I g (o, gr, a1, a2, a3, a4, na) mo ar out S w) {i : Nat} (hi : i + 8 ≤ Ls) (kk : ∀ S2 u, lx_I g (o, gr, a1, a2, a3, a4, na) mo ar out S2 u → fw_R g m_LW_law Post nc ns u 1665 [(0, .ref b), (1, .ref o), (2, .ref mo), (3, .ref out), (4, .int (nI i))] []) : fw_R g m_LW_law Post (nc + 10) (ns + 72) w 184 [(0, .ref b), (1, .ref o), (2, .ref mo), (3, .ref out), (4, .int (nI i))] [] := by
  obtain ⟨us, n, hu, hg, nd⟩ := S
  obtain ⟨hX, hA, ⟨f, hout⟩, th, so, pl, po, F, hmo, harr, hc⟩ := hI
  have hL := hsc.2.2
  obtain ⟨c, v, S2, hW, hM⟩ := j_group hX hout hA hc 
  refine fr_nc (nc2 := nc + 1) (ns2 := ns + 6) (by omega) (by omega) ?_
  refine fr_aload_n (pc := 184) d_LW_law_184 rfl rfl ?_
  refine fr_aload_n (pc := 185) d_LW_law_185 rfl rfl ?_
  refine fr_calls (pc := 186) (nc := nc) (ns := ns) (N := m_LW_group) (rest := []) (as := [.ref o, .ref out]) d_LW_law_186 k_LW_group lk_LW_95 sc_LW_group np_LW_group ⟨by decide, by decide, Nat.le_of_ble_eq_true rfl⟩ (Nat.le_of_ble_eq_true rfl) hW (fun v1 u h9 => ?_) (fun C u h9 => by obtain ⟨h1, -⟩ := h9; cases h1) rfl
  obtain ⟨h1, hX2, hmk, f2, ho2, hf2⟩ := h9
  cases h1
  obtain ⟨hmo2, harr2⟩ := lx_self hmk hmo harr
  have eu := fs_X_of_fm hmo2 harr2
  rw [eu]
  refine fr_istore (pc := 189) (L2 := [(0, .ref b), (1, .ref o), (2, .ref mo), (3, .ref out), (4, .int (nI i)), (5, .int c)]) d_LW_law_189 (by decide) rfl ?_
  refine fr_aload_n (pc := 191) d_LW_law_191 rfl rfl ?_
  refine fr_callV (pc := 192) (nc := nc) (ns := ns) (N := m_MO_group) (rest := []) (as := []) d_LW_law_192 vc_LW_97 ⟨by decide, by decide, Nat.le_of_ble_eq_true rfl⟩ (Nat.le_of_ble_eq_true rfl) fm_mo (hM u th so pl po) rfl (fun v1 u2 h9 => ?_) (fun C u h9 => by obtain ⟨h1, -⟩ := h9; cases h1)
  obtain ⟨h1, so2, pl2, po2, F2, rfl, hc2⟩ := h9
  cases h1
  obtain ⟨hI2, ho3⟩ := lx_next (th := c) (so := so2) (pl := pl2) (po := po2) hX2 hA hmo2 harr2 ho2 hc2
  refine fr_istore (pc := 195) (L2 := [(0, .ref b), (1, .ref o), (2, .ref mo), (3, .ref out), (4, .int (nI i)), (5, .int c), (6, .int v)]) d_LW_law_195 (by decide) rfl ?_
  refine fr_aload_n (pc := 197) d_LW_law_197 rfl rfl ?_
  refine fr_callv_p (pc := 198) (nc := nc) (ns := ns) (N := m_MO_thrown) (rest := []) (as := []) d_LW_law_198 vc_LW_92 ⟨by decide, by decide, Nat.le_of_ble_eq_true rfl⟩ (Nat.le_of_ble_eq_true rfl) fm_mo (c_MO_thrown hA) rfl ?_
  refine fr_iload (pc := 201) d_LW_law_201 rfl ?_
  refine fr_icmp_eq (pc := 203) (tgt := 208) d_LW_law_203 (by decide) (fun _ => ?_) (fun z => absurd rfl z)
  refine fr_iload (pc := 208) d_LW_law_208 rfl ?_
  refine fr_if_ne (pc := 210) (tgt := 225) d_LW_law_210 (by decide) (fun z => ?_) (fun z => ?_)
  · refine fr_goto (pc := 225) (tgt := 1665) d_LW_law_225 (by decide) ?_
    exact fr_Ld (fr_Ld (kk S2 _ hI2))
  · refine fr_aload_n (pc := 213) d_LW_law_213 rfl rfl ?_
    refine fr_iconst (pc := 214) (v := 0) d_LW_law_214 (by decide) ?_
    refine fr_laldN (pc := 215) (n := 1) (k := 0) d_LW_law_215 ho3 (by omega) (by omega) ?_
    refine fr_iload (pc := 216) d_LW_law_216 rfl ?_
    refine fr_i2l (pc := 218) d_LW_law_218 rfl ?_
    refine fr_lcmp (pc := 219) d_LW_law_219 ?_
    refine fr_st (st2 := [.int 0]) (by rw [(bb_cmp2 _ _).mpr (hf2 z)]) ?_
    refine fr_if_eq (pc := 220) (tgt := 225) d_LW_law_220 (by decide) (fun _ => ?_) (fun z => absurd rfl z)
    refine fr_goto (pc := 225) (tgt := 1665) d_LW_law_225 (by decide) ?_
    exact fr_Ld (fr_Ld (kk S2 _ hI2))
theorem l_join {g : fw_G} {Post : fw_O → fw_W → Prop} {nc ns : Nat} {b Ls : Nat} {xs : Nat → Int32} (hsc : lx_sc g b Ls xs) {o gr a1 a2 a3 a4 na mo out : Nat} {ar : Nat → Nat} {S : fs_S} {w : fw_W} (hI : lx_I g (o, gr, a1, a2, a3, a4, na) mo ar out S w) {i : Nat} (hi : i + 8 ≤ Ls) (kk : ∀ S2 u, lx_I g (o, gr, a1, a2, a3, a4, na) mo ar out S2 u → fw_R g m_LW_law Post nc ns u 1665 [(0, .ref b), (1, .ref o), (2, .ref mo), (3, .ref out), (4, .int (nI i))] []) : fw_R g m_LW_law Post (nc + 10) (ns + 72) w 228 [(0, .ref b), (1, .ref o), (2, .ref mo), (3, .ref out), (4, .int (nI i))] [] := by
  obtain ⟨us, n, hu, hg, nd⟩ := S
  obtain ⟨hX, hA, ⟨f, hout⟩, th, so, pl, po, F, hmo, harr, hc⟩ := hI
  have hL := hsc.2.2
  obtain ⟨c, v, S2, hW, hM⟩ := j_join hX hout hA hc (xs (i + 1)) (xs (i + 2)) (decide (xs (i + 3) ≠ 0))
  refine fr_nc (nc2 := nc + 4) (ns2 := ns + 24) (by omega) (by omega) ?_
  refine fr_aload_n (pc := 228) d_LW_law_228 rfl rfl ?_
  refine fr_aload_n (pc := 229) d_LW_law_229 rfl rfl ?_
  refine fr_iload (pc := 230) d_LW_law_230 rfl ?_
  refine fr_iconst (pc := 232) (v := 1) d_LW_law_232 (by decide) ?_
  refine fr_iaddN (pc := 233) (a := i) (b := 1) d_LW_law_233 ?_
  refine fr_sld (pc := 234) (k := (i + 1)) hsc d_LW_law_234 (by omega) ?_
  refine fr_aload_n (pc := 235) d_LW_law_235 rfl rfl ?_
  refine fr_iload (pc := 236) d_LW_law_236 rfl ?_
  refine fr_iconst (pc := 238) (v := 2) d_LW_law_238 (by decide) ?_
  refine fr_iaddN (pc := 239) (a := i) (b := 2) d_LW_law_239 ?_
  refine fr_sld (pc := 240) (k := (i + 2)) hsc d_LW_law_240 (by omega) ?_
  refine fr_aload_n (pc := 241) d_LW_law_241 rfl rfl ?_
  refine fr_iload (pc := 242) d_LW_law_242 rfl ?_
  refine fr_iconst (pc := 244) (v := 3) d_LW_law_244 (by decide) ?_
  refine fr_iaddN (pc := 245) (a := i) (b := 3) d_LW_law_245 ?_
  refine fr_sld (pc := 246) (k := (i + 3)) hsc d_LW_law_246 (by omega) ?_
  refine fr_nz (pc := 247) 250 251 254 rfl rfl rfl d_LW_law_247 d_LW_law_250 d_LW_law_251 d_LW_law_254 ?_
  refine fr_aload_n (pc := 255) d_LW_law_255 rfl rfl ?_
  refine fr_calls (pc := 256) (nc := nc) (ns := ns) (N := m_LW_join) (rest := []) (as := [.ref o, .int (xs (i + 1)), .int (xs (i + 2)), .int (bI (decide ((xs (i + 3)) ≠ 0))), .ref out]) d_LW_law_256 k_LW_join lk_LW_98 sc_LW_join np_LW_join ⟨by decide, by decide, Nat.le_of_ble_eq_true rfl⟩ (Nat.le_of_ble_eq_true rfl) hW (fun v1 u h9 => ?_) (fun C u h9 => by obtain ⟨h1, -⟩ := h9; cases h1) rfl
  obtain ⟨h1, hX2, hmk, f2, ho2, hf2⟩ := h9
  cases h1
  obtain ⟨hmo2, harr2⟩ := lx_self hmk hmo harr
  have eu := fs_X_of_fm hmo2 harr2
  rw [eu]
  refine fr_istore (pc := 259) (L2 := [(0, .ref b), (1, .ref o), (2, .ref mo), (3, .ref out), (4, .int (nI i)), (5, .int c)]) d_LW_law_259 (by decide) rfl ?_
  refine fr_aload_n (pc := 261) d_LW_law_261 rfl rfl ?_
  refine fr_aload_n (pc := 262) d_LW_law_262 rfl rfl ?_
  refine fr_iload (pc := 263) d_LW_law_263 rfl ?_
  refine fr_iconst (pc := 265) (v := 1) d_LW_law_265 (by decide) ?_
  refine fr_iaddN (pc := 266) (a := i) (b := 1) d_LW_law_266 ?_
  refine fr_sld (pc := 267) (k := (i + 1)) hsc d_LW_law_267 (by omega) ?_
  refine fr_aload_n (pc := 268) d_LW_law_268 rfl rfl ?_
  refine fr_iload (pc := 269) d_LW_law_269 rfl ?_
  refine fr_iconst (pc := 271) (v := 2) d_LW_law_271 (by decide) ?_
  refine fr_iaddN (pc := 272) (a := i) (b := 2) d_LW_law_272 ?_
  refine fr_sld (pc := 273) (k := (i + 2)) hsc d_LW_law_273 (by omega) ?_
  refine fr_aload_n (pc := 274) d_LW_law_274 rfl rfl ?_
  refine fr_iload (pc := 275) d_LW_law_275 rfl ?_
  refine fr_iconst (pc := 277) (v := 3) d_LW_law_277 (by decide) ?_
  refine fr_iaddN (pc := 278) (a := i) (b := 3) d_LW_law_278 ?_
  refine fr_sld (pc := 279) (k := (i + 3)) hsc d_LW_law_279 (by omega) ?_
  refine fr_nz (pc := 280) 283 284 287 rfl rfl rfl d_LW_law_280 d_LW_law_283 d_LW_law_284 d_LW_law_287 ?_
  refine fr_callV (pc := 288) (nc := nc) (ns := ns) (N := m_MO_join) (rest := []) (as := [.int (xs (i + 1)), .int (xs (i + 2)), .int (bI (decide ((xs (i + 3)) ≠ 0)))]) d_LW_law_288 vc_LW_101 ⟨by decide, by decide, Nat.le_of_ble_eq_true rfl⟩ (Nat.le_of_ble_eq_true rfl) fm_mo (hM u th so pl po) rfl (fun v1 u2 h9 => ?_) (fun C u h9 => by obtain ⟨h1, -⟩ := h9; cases h1)
  obtain ⟨h1, so2, pl2, po2, F2, rfl, hc2⟩ := h9
  cases h1
  obtain ⟨hI2, ho3⟩ := lx_next (th := c) (so := so2) (pl := pl2) (po := po2) hX2 hA hmo2 harr2 ho2 hc2
  refine fr_istore (pc := 291) (L2 := [(0, .ref b), (1, .ref o), (2, .ref mo), (3, .ref out), (4, .int (nI i)), (5, .int c), (6, .int (bI v))]) d_LW_law_291 (by decide) rfl ?_
  refine fr_aload_n (pc := 293) d_LW_law_293 rfl rfl ?_
  refine fr_callv_p (pc := 294) (nc := nc) (ns := ns) (N := m_MO_thrown) (rest := []) (as := []) d_LW_law_294 vc_LW_92 ⟨by decide, by decide, Nat.le_of_ble_eq_true rfl⟩ (Nat.le_of_ble_eq_true rfl) fm_mo (c_MO_thrown hA) rfl ?_
  refine fr_iload (pc := 297) d_LW_law_297 rfl ?_
  refine fr_icmp_eq (pc := 299) (tgt := 304) d_LW_law_299 (by decide) (fun _ => ?_) (fun z => absurd rfl z)
  refine fr_iload (pc := 304) d_LW_law_304 rfl ?_
  refine fr_if_ne (pc := 306) (tgt := 328) d_LW_law_306 (by decide) (fun z => ?_) (fun z => ?_)
  · refine fr_goto (pc := 328) (tgt := 1665) d_LW_law_328 (by decide) ?_
    exact fr_Ld (fr_Ld (kk S2 _ hI2))
  · refine fr_aload_n (pc := 309) d_LW_law_309 rfl rfl ?_
    refine fr_iconst (pc := 310) (v := 0) d_LW_law_310 (by decide) ?_
    refine fr_laldN (pc := 311) (n := 1) (k := 0) d_LW_law_311 ho3 (by omega) (by omega) ?_
    refine fr_iload (pc := 312) d_LW_law_312 rfl ?_
    refine fr_nzl (pc := 314) 317 318 321 rfl rfl rfl d_LW_law_314 d_LW_law_317 d_LW_law_318 d_LW_law_321 ?_
    refine fr_lcmp (pc := 322) d_LW_law_322 ?_
    refine fr_st (st2 := [.int 0]) (by rw [(bb_cmp2 _ _).mpr (hf2 z)]) ?_
    refine fr_if_eq (pc := 323) (tgt := 328) d_LW_law_323 (by decide) (fun _ => ?_) (fun z => absurd rfl z)
    refine fr_goto (pc := 328) (tgt := 1665) d_LW_law_328 (by decide) ?_
    exact fr_Ld (fr_Ld (kk S2 _ hI2))
theorem l_leave {g : fw_G} {Post : fw_O → fw_W → Prop} {nc ns : Nat} {b Ls : Nat} {xs : Nat → Int32} (hsc : lx_sc g b Ls xs) {o gr a1 a2 a3 a4 na mo out : Nat} {ar : Nat → Nat} {S : fs_S} {w : fw_W} (hI : lx_I g (o, gr, a1, a2, a3, a4, na) mo ar out S w) {i : Nat} (hi : i + 8 ≤ Ls) (kk : ∀ S2 u, lx_I g (o, gr, a1, a2, a3, a4, na) mo ar out S2 u → fw_R g m_LW_law Post nc ns u 1665 [(0, .ref b), (1, .ref o), (2, .ref mo), (3, .ref out), (4, .int (nI i))] []) : fw_R g m_LW_law Post (nc + 10) (ns + 72) w 331 [(0, .ref b), (1, .ref o), (2, .ref mo), (3, .ref out), (4, .int (nI i))] [] := by
  obtain ⟨us, n, hu, hg, nd⟩ := S
  obtain ⟨hX, hA, ⟨f, hout⟩, th, so, pl, po, F, hmo, harr, hc⟩ := hI
  have hL := hsc.2.2
  obtain ⟨c, v, S2, hW, hM⟩ := j_leave hX hout hA hc (xs (i + 1)) (xs (i + 2)) (decide (xs (i + 3) ≠ 0))
  refine fr_nc (nc2 := nc + 3) (ns2 := ns + 18) (by omega) (by omega) ?_
  refine fr_aload_n (pc := 331) d_LW_law_331 rfl rfl ?_
  refine fr_aload_n (pc := 332) d_LW_law_332 rfl rfl ?_
  refine fr_iload (pc := 333) d_LW_law_333 rfl ?_
  refine fr_iconst (pc := 335) (v := 1) d_LW_law_335 (by decide) ?_
  refine fr_iaddN (pc := 336) (a := i) (b := 1) d_LW_law_336 ?_
  refine fr_sld (pc := 337) (k := (i + 1)) hsc d_LW_law_337 (by omega) ?_
  refine fr_aload_n (pc := 338) d_LW_law_338 rfl rfl ?_
  refine fr_iload (pc := 339) d_LW_law_339 rfl ?_
  refine fr_iconst (pc := 341) (v := 2) d_LW_law_341 (by decide) ?_
  refine fr_iaddN (pc := 342) (a := i) (b := 2) d_LW_law_342 ?_
  refine fr_sld (pc := 343) (k := (i + 2)) hsc d_LW_law_343 (by omega) ?_
  refine fr_aload_n (pc := 344) d_LW_law_344 rfl rfl ?_
  refine fr_iload (pc := 345) d_LW_law_345 rfl ?_
  refine fr_iconst (pc := 347) (v := 3) d_LW_law_347 (by decide) ?_
  refine fr_iaddN (pc := 348) (a := i) (b := 3) d_LW_law_348 ?_
  refine fr_sld (pc := 349) (k := (i + 3)) hsc d_LW_law_349 (by omega) ?_
  refine fr_nz (pc := 350) 353 354 357 rfl rfl rfl d_LW_law_350 d_LW_law_353 d_LW_law_354 d_LW_law_357 ?_
  refine fr_aload_n (pc := 358) d_LW_law_358 rfl rfl ?_
  refine fr_calls (pc := 359) (nc := nc) (ns := ns) (N := m_LW_leave) (rest := []) (as := [.ref o, .int (xs (i + 1)), .int (xs (i + 2)), .int (bI (decide ((xs (i + 3)) ≠ 0))), .ref out]) d_LW_law_359 k_LW_leave lk_LW_102 sc_LW_leave np_LW_leave ⟨by decide, by decide, Nat.le_of_ble_eq_true rfl⟩ (Nat.le_of_ble_eq_true rfl) hW (fun v1 u h9 => ?_) (fun C u h9 => by obtain ⟨h1, -⟩ := h9; cases h1) rfl
  obtain ⟨h1, hX2, hmk, f2, ho2, hf2⟩ := h9
  cases h1
  obtain ⟨hmo2, harr2⟩ := lx_self hmk hmo harr
  have eu := fs_X_of_fm hmo2 harr2
  rw [eu]
  refine fr_istore (pc := 362) (L2 := [(0, .ref b), (1, .ref o), (2, .ref mo), (3, .ref out), (4, .int (nI i)), (5, .int c)]) d_LW_law_362 (by decide) rfl ?_
  refine fr_aload_n (pc := 364) d_LW_law_364 rfl rfl ?_
  refine fr_aload_n (pc := 365) d_LW_law_365 rfl rfl ?_
  refine fr_iload (pc := 366) d_LW_law_366 rfl ?_
  refine fr_iconst (pc := 368) (v := 1) d_LW_law_368 (by decide) ?_
  refine fr_iaddN (pc := 369) (a := i) (b := 1) d_LW_law_369 ?_
  refine fr_sld (pc := 370) (k := (i + 1)) hsc d_LW_law_370 (by omega) ?_
  refine fr_aload_n (pc := 371) d_LW_law_371 rfl rfl ?_
  refine fr_iload (pc := 372) d_LW_law_372 rfl ?_
  refine fr_iconst (pc := 374) (v := 2) d_LW_law_374 (by decide) ?_
  refine fr_iaddN (pc := 375) (a := i) (b := 2) d_LW_law_375 ?_
  refine fr_sld (pc := 376) (k := (i + 2)) hsc d_LW_law_376 (by omega) ?_
  refine fr_aload_n (pc := 377) d_LW_law_377 rfl rfl ?_
  refine fr_iload (pc := 378) d_LW_law_378 rfl ?_
  refine fr_iconst (pc := 380) (v := 3) d_LW_law_380 (by decide) ?_
  refine fr_iaddN (pc := 381) (a := i) (b := 3) d_LW_law_381 ?_
  refine fr_sld (pc := 382) (k := (i + 3)) hsc d_LW_law_382 (by omega) ?_
  refine fr_nz (pc := 383) 386 387 390 rfl rfl rfl d_LW_law_383 d_LW_law_386 d_LW_law_387 d_LW_law_390 ?_
  refine fr_callV (pc := 391) (nc := nc) (ns := ns) (N := m_MO_leave) (rest := []) (as := [.int (xs (i + 1)), .int (xs (i + 2)), .int (bI (decide ((xs (i + 3)) ≠ 0)))]) d_LW_law_391 vc_LW_104 ⟨by decide, by decide, Nat.le_of_ble_eq_true rfl⟩ (Nat.le_of_ble_eq_true rfl) fm_mo (hM u th so pl po) rfl (fun v1 u2 h9 => ?_) (fun C u h9 => by obtain ⟨h1, -⟩ := h9; cases h1)
  obtain ⟨h1, so2, pl2, po2, F2, rfl, hc2⟩ := h9
  cases h1
  obtain ⟨hI2, ho3⟩ := lx_next (th := c) (so := so2) (pl := pl2) (po := po2) hX2 hA hmo2 harr2 ho2 hc2
  refine fr_istore (pc := 394) (L2 := [(0, .ref b), (1, .ref o), (2, .ref mo), (3, .ref out), (4, .int (nI i)), (5, .int c), (6, .int (bI v))]) d_LW_law_394 (by decide) rfl ?_
  refine fr_aload_n (pc := 396) d_LW_law_396 rfl rfl ?_
  refine fr_callv_p (pc := 397) (nc := nc) (ns := ns) (N := m_MO_thrown) (rest := []) (as := []) d_LW_law_397 vc_LW_92 ⟨by decide, by decide, Nat.le_of_ble_eq_true rfl⟩ (Nat.le_of_ble_eq_true rfl) fm_mo (c_MO_thrown hA) rfl ?_
  refine fr_iload (pc := 400) d_LW_law_400 rfl ?_
  refine fr_icmp_eq (pc := 402) (tgt := 407) d_LW_law_402 (by decide) (fun _ => ?_) (fun z => absurd rfl z)
  refine fr_iload (pc := 407) d_LW_law_407 rfl ?_
  refine fr_if_ne (pc := 409) (tgt := 431) d_LW_law_409 (by decide) (fun z => ?_) (fun z => ?_)
  · refine fr_goto (pc := 431) (tgt := 1665) d_LW_law_431 (by decide) ?_
    exact fr_Ld (fr_Ld (kk S2 _ hI2))
  · refine fr_aload_n (pc := 412) d_LW_law_412 rfl rfl ?_
    refine fr_iconst (pc := 413) (v := 0) d_LW_law_413 (by decide) ?_
    refine fr_laldN (pc := 414) (n := 1) (k := 0) d_LW_law_414 ho3 (by omega) (by omega) ?_
    refine fr_iload (pc := 415) d_LW_law_415 rfl ?_
    refine fr_nzl (pc := 417) 420 421 424 rfl rfl rfl d_LW_law_417 d_LW_law_420 d_LW_law_421 d_LW_law_424 ?_
    refine fr_lcmp (pc := 425) d_LW_law_425 ?_
    refine fr_st (st2 := [.int 0]) (by rw [(bb_cmp2 _ _).mpr (hf2 z)]) ?_
    refine fr_if_eq (pc := 426) (tgt := 431) d_LW_law_426 (by decide) (fun _ => ?_) (fun z => absurd rfl z)
    refine fr_goto (pc := 431) (tgt := 1665) d_LW_law_431 (by decide) ?_
    exact fr_Ld (fr_Ld (kk S2 _ hI2))
theorem l_node {g : fw_G} {Post : fw_O → fw_W → Prop} {nc ns : Nat} {b Ls : Nat} {xs : Nat → Int32} (hsc : lx_sc g b Ls xs) {o gr a1 a2 a3 a4 na mo out : Nat} {ar : Nat → Nat} {S : fs_S} {w : fw_W} (hI : lx_I g (o, gr, a1, a2, a3, a4, na) mo ar out S w) {i : Nat} (hi : i + 8 ≤ Ls) (kk : ∀ S2 u, lx_I g (o, gr, a1, a2, a3, a4, na) mo ar out S2 u → fw_R g m_LW_law Post nc ns u 1665 [(0, .ref b), (1, .ref o), (2, .ref mo), (3, .ref out), (4, .int (nI i))] []) : fw_R g m_LW_law Post (nc + 10) (ns + 72) w 434 [(0, .ref b), (1, .ref o), (2, .ref mo), (3, .ref out), (4, .int (nI i))] [] := by
  obtain ⟨us, n, hu, hg, nd⟩ := S
  obtain ⟨hX, hA, ⟨f, hout⟩, th, so, pl, po, F, hmo, harr, hc⟩ := hI
  have hL := hsc.2.2
  obtain ⟨c, v, S2, hW, hM⟩ := j_node hX hout hA hc (xs (i + 1)) (decide (xs (i + 2) ≠ 0)) (xs (i + 3))
  refine fr_nc (nc2 := nc + 7) (ns2 := ns + 40) (by omega) (by omega) ?_
  refine fr_aload_n (pc := 434) d_LW_law_434 rfl rfl ?_
  refine fr_aload_n (pc := 435) d_LW_law_435 rfl rfl ?_
  refine fr_iload (pc := 436) d_LW_law_436 rfl ?_
  refine fr_iconst (pc := 438) (v := 1) d_LW_law_438 (by decide) ?_
  refine fr_iaddN (pc := 439) (a := i) (b := 1) d_LW_law_439 ?_
  refine fr_sld (pc := 440) (k := (i + 1)) hsc d_LW_law_440 (by omega) ?_
  refine fr_aload_n (pc := 441) d_LW_law_441 rfl rfl ?_
  refine fr_iload (pc := 442) d_LW_law_442 rfl ?_
  refine fr_iconst (pc := 444) (v := 2) d_LW_law_444 (by decide) ?_
  refine fr_iaddN (pc := 445) (a := i) (b := 2) d_LW_law_445 ?_
  refine fr_sld (pc := 446) (k := (i + 2)) hsc d_LW_law_446 (by omega) ?_
  refine fr_nz (pc := 447) 450 451 454 rfl rfl rfl d_LW_law_447 d_LW_law_450 d_LW_law_451 d_LW_law_454 ?_
  refine fr_aload_n (pc := 455) d_LW_law_455 rfl rfl ?_
  refine fr_iload (pc := 456) d_LW_law_456 rfl ?_
  refine fr_iconst (pc := 458) (v := 3) d_LW_law_458 (by decide) ?_
  refine fr_iaddN (pc := 459) (a := i) (b := 3) d_LW_law_459 ?_
  refine fr_sld (pc := 460) (k := (i + 3)) hsc d_LW_law_460 (by omega) ?_
  refine fr_aload_n (pc := 461) d_LW_law_461 rfl rfl ?_
  refine fr_calls (pc := 462) (nc := nc) (ns := ns) (N := m_LW_node) (rest := []) (as := [.ref o, .int (xs (i + 1)), .int (bI (decide ((xs (i + 2)) ≠ 0))), .int (xs (i + 3)), .ref out]) d_LW_law_462 k_LW_node lk_LW_105 sc_LW_node np_LW_node ⟨by decide, by decide, Nat.le_of_ble_eq_true rfl⟩ (Nat.le_of_ble_eq_true rfl) hW (fun v1 u h9 => ?_) (fun C u h9 => by obtain ⟨h1, -⟩ := h9; cases h1) rfl
  obtain ⟨h1, hX2, hmk, f2, ho2, hf2⟩ := h9
  cases h1
  obtain ⟨hmo2, harr2⟩ := lx_self hmk hmo harr
  have eu := fs_X_of_fm hmo2 harr2
  rw [eu]
  refine fr_istore (pc := 465) (L2 := [(0, .ref b), (1, .ref o), (2, .ref mo), (3, .ref out), (4, .int (nI i)), (5, .int c)]) d_LW_law_465 (by decide) rfl ?_
  refine fr_aload_n (pc := 467) d_LW_law_467 rfl rfl ?_
  refine fr_aload_n (pc := 468) d_LW_law_468 rfl rfl ?_
  refine fr_iload (pc := 469) d_LW_law_469 rfl ?_
  refine fr_iconst (pc := 471) (v := 1) d_LW_law_471 (by decide) ?_
  refine fr_iaddN (pc := 472) (a := i) (b := 1) d_LW_law_472 ?_
  refine fr_sld (pc := 473) (k := (i + 1)) hsc d_LW_law_473 (by omega) ?_
  refine fr_aload_n (pc := 474) d_LW_law_474 rfl rfl ?_
  refine fr_iload (pc := 475) d_LW_law_475 rfl ?_
  refine fr_iconst (pc := 477) (v := 2) d_LW_law_477 (by decide) ?_
  refine fr_iaddN (pc := 478) (a := i) (b := 2) d_LW_law_478 ?_
  refine fr_sld (pc := 479) (k := (i + 2)) hsc d_LW_law_479 (by omega) ?_
  refine fr_nz (pc := 480) 483 484 487 rfl rfl rfl d_LW_law_480 d_LW_law_483 d_LW_law_484 d_LW_law_487 ?_
  refine fr_aload_n (pc := 488) d_LW_law_488 rfl rfl ?_
  refine fr_iload (pc := 489) d_LW_law_489 rfl ?_
  refine fr_iconst (pc := 491) (v := 3) d_LW_law_491 (by decide) ?_
  refine fr_iaddN (pc := 492) (a := i) (b := 3) d_LW_law_492 ?_
  refine fr_sld (pc := 493) (k := (i + 3)) hsc d_LW_law_493 (by omega) ?_
  refine fr_callV (pc := 494) (nc := nc) (ns := ns) (N := m_MO_node) (rest := []) (as := [.int (xs (i + 1)), .int (bI (decide ((xs (i + 2)) ≠ 0))), .int (xs (i + 3))]) d_LW_law_494 vc_LW_108 ⟨by decide, by decide, Nat.le_of_ble_eq_true rfl⟩ (Nat.le_of_ble_eq_true rfl) fm_mo (hM u th so pl po) rfl (fun v1 u2 h9 => ?_) (fun C u h9 => by obtain ⟨h1, -⟩ := h9; cases h1)
  obtain ⟨h1, so2, pl2, po2, F2, rfl, hc2⟩ := h9
  cases h1
  obtain ⟨hI2, ho3⟩ := lx_next (th := c) (so := so2) (pl := pl2) (po := po2) hX2 hA hmo2 harr2 ho2 hc2
  refine fr_istore (pc := 497) (L2 := [(0, .ref b), (1, .ref o), (2, .ref mo), (3, .ref out), (4, .int (nI i)), (5, .int c), (6, .int v)]) d_LW_law_497 (by decide) rfl ?_
  refine fr_aload_n (pc := 499) d_LW_law_499 rfl rfl ?_
  refine fr_callv_p (pc := 500) (nc := nc) (ns := ns) (N := m_MO_thrown) (rest := []) (as := []) d_LW_law_500 vc_LW_92 ⟨by decide, by decide, Nat.le_of_ble_eq_true rfl⟩ (Nat.le_of_ble_eq_true rfl) fm_mo (c_MO_thrown hA) rfl ?_
  refine fr_iload (pc := 503) d_LW_law_503 rfl ?_
  refine fr_icmp_eq (pc := 505) (tgt := 510) d_LW_law_505 (by decide) (fun _ => ?_) (fun z => absurd rfl z)
  refine fr_iload (pc := 510) d_LW_law_510 rfl ?_
  refine fr_if_ne (pc := 512) (tgt := 527) d_LW_law_512 (by decide) (fun z => ?_) (fun z => ?_)
  · refine fr_goto (pc := 527) (tgt := 1665) d_LW_law_527 (by decide) ?_
    exact fr_Ld (fr_Ld (kk S2 _ hI2))
  · refine fr_aload_n (pc := 515) d_LW_law_515 rfl rfl ?_
    refine fr_iconst (pc := 516) (v := 0) d_LW_law_516 (by decide) ?_
    refine fr_laldN (pc := 517) (n := 1) (k := 0) d_LW_law_517 ho3 (by omega) (by omega) ?_
    refine fr_iload (pc := 518) d_LW_law_518 rfl ?_
    refine fr_i2l (pc := 520) d_LW_law_520 rfl ?_
    refine fr_lcmp (pc := 521) d_LW_law_521 ?_
    refine fr_st (st2 := [.int 0]) (by rw [(bb_cmp2 _ _).mpr (hf2 z)]) ?_
    refine fr_if_eq (pc := 522) (tgt := 527) d_LW_law_522 (by decide) (fun _ => ?_) (fun z => absurd rfl z)
    refine fr_goto (pc := 527) (tgt := 1665) d_LW_law_527 (by decide) ?_
    exact fr_Ld (fr_Ld (kk S2 _ hI2))
theorem l_move {g : fw_G} {Post : fw_O → fw_W → Prop} {nc ns : Nat} {b Ls : Nat} {xs : Nat → Int32} (hsc : lx_sc g b Ls xs) {o gr a1 a2 a3 a4 na mo out : Nat} {ar : Nat → Nat} {S : fs_S} {w : fw_W} (hI : lx_I g (o, gr, a1, a2, a3, a4, na) mo ar out S w) {i : Nat} (hi : i + 8 ≤ Ls) (kk : ∀ S2 u, lx_I g (o, gr, a1, a2, a3, a4, na) mo ar out S2 u → fw_R g m_LW_law Post nc ns u 1665 [(0, .ref b), (1, .ref o), (2, .ref mo), (3, .ref out), (4, .int (nI i))] []) : fw_R g m_LW_law Post (nc + 10) (ns + 72) w 530 [(0, .ref b), (1, .ref o), (2, .ref mo), (3, .ref out), (4, .int (nI i))] [] := by
  obtain ⟨us, n, hu, hg, nd⟩ := S
  obtain ⟨hX, hA, ⟨f, hout⟩, th, so, pl, po, F, hmo, harr, hc⟩ := hI
  have hL := hsc.2.2
  obtain ⟨c, v, S2, hW, hM⟩ := j_move hX hout hA hc (xs (i + 1)) (xs (i + 2))
  refine fr_nc (nc2 := nc + 6) (ns2 := ns + 36) (by omega) (by omega) ?_
  refine fr_aload_n (pc := 530) d_LW_law_530 rfl rfl ?_
  refine fr_aload_n (pc := 531) d_LW_law_531 rfl rfl ?_
  refine fr_iload (pc := 532) d_LW_law_532 rfl ?_
  refine fr_iconst (pc := 534) (v := 1) d_LW_law_534 (by decide) ?_
  refine fr_iaddN (pc := 535) (a := i) (b := 1) d_LW_law_535 ?_
  refine fr_sld (pc := 536) (k := (i + 1)) hsc d_LW_law_536 (by omega) ?_
  refine fr_aload_n (pc := 537) d_LW_law_537 rfl rfl ?_
  refine fr_iload (pc := 538) d_LW_law_538 rfl ?_
  refine fr_iconst (pc := 540) (v := 2) d_LW_law_540 (by decide) ?_
  refine fr_iaddN (pc := 541) (a := i) (b := 2) d_LW_law_541 ?_
  refine fr_sld (pc := 542) (k := (i + 2)) hsc d_LW_law_542 (by omega) ?_
  refine fr_aload_n (pc := 543) d_LW_law_543 rfl rfl ?_
  refine fr_calls (pc := 544) (nc := nc) (ns := ns) (N := m_LW_move) (rest := []) (as := [.ref o, .int (xs (i + 1)), .int (xs (i + 2)), .ref out]) d_LW_law_544 k_LW_move lk_LW_109 sc_LW_move np_LW_move ⟨by decide, by decide, Nat.le_of_ble_eq_true rfl⟩ (Nat.le_of_ble_eq_true rfl) hW (fun v1 u h9 => ?_) (fun C u h9 => by obtain ⟨h1, -⟩ := h9; cases h1) rfl
  obtain ⟨h1, hX2, hmk, f2, ho2, hf2⟩ := h9
  cases h1
  obtain ⟨hmo2, harr2⟩ := lx_self hmk hmo harr
  have eu := fs_X_of_fm hmo2 harr2
  rw [eu]
  refine fr_istore (pc := 547) (L2 := [(0, .ref b), (1, .ref o), (2, .ref mo), (3, .ref out), (4, .int (nI i)), (5, .int c)]) d_LW_law_547 (by decide) rfl ?_
  refine fr_aload_n (pc := 549) d_LW_law_549 rfl rfl ?_
  refine fr_aload_n (pc := 550) d_LW_law_550 rfl rfl ?_
  refine fr_iload (pc := 551) d_LW_law_551 rfl ?_
  refine fr_iconst (pc := 553) (v := 1) d_LW_law_553 (by decide) ?_
  refine fr_iaddN (pc := 554) (a := i) (b := 1) d_LW_law_554 ?_
  refine fr_sld (pc := 555) (k := (i + 1)) hsc d_LW_law_555 (by omega) ?_
  refine fr_aload_n (pc := 556) d_LW_law_556 rfl rfl ?_
  refine fr_iload (pc := 557) d_LW_law_557 rfl ?_
  refine fr_iconst (pc := 559) (v := 2) d_LW_law_559 (by decide) ?_
  refine fr_iaddN (pc := 560) (a := i) (b := 2) d_LW_law_560 ?_
  refine fr_sld (pc := 561) (k := (i + 2)) hsc d_LW_law_561 (by omega) ?_
  refine fr_callV (pc := 562) (nc := nc) (ns := ns) (N := m_MO_move) (rest := []) (as := [.int (xs (i + 1)), .int (xs (i + 2))]) d_LW_law_562 vc_LW_112 ⟨by decide, by decide, Nat.le_of_ble_eq_true rfl⟩ (Nat.le_of_ble_eq_true rfl) fm_mo (hM u th so pl po) rfl (fun v1 u2 h9 => ?_) (fun C u h9 => by obtain ⟨h1, -⟩ := h9; cases h1)
  obtain ⟨h1, so2, pl2, po2, F2, rfl, hc2⟩ := h9
  cases h1
  obtain ⟨hI2, ho3⟩ := lx_next (th := c) (so := so2) (pl := pl2) (po := po2) hX2 hA hmo2 harr2 ho2 hc2
  refine fr_istore (pc := 565) (L2 := [(0, .ref b), (1, .ref o), (2, .ref mo), (3, .ref out), (4, .int (nI i)), (5, .int c), (6, .int v)]) d_LW_law_565 (by decide) rfl ?_
  refine fr_aload_n (pc := 567) d_LW_law_567 rfl rfl ?_
  refine fr_callv_p (pc := 568) (nc := nc) (ns := ns) (N := m_MO_thrown) (rest := []) (as := []) d_LW_law_568 vc_LW_92 ⟨by decide, by decide, Nat.le_of_ble_eq_true rfl⟩ (Nat.le_of_ble_eq_true rfl) fm_mo (c_MO_thrown hA) rfl ?_
  refine fr_iload (pc := 571) d_LW_law_571 rfl ?_
  refine fr_icmp_eq (pc := 573) (tgt := 578) d_LW_law_573 (by decide) (fun _ => ?_) (fun z => absurd rfl z)
  refine fr_iload (pc := 578) d_LW_law_578 rfl ?_
  refine fr_if_ne (pc := 580) (tgt := 595) d_LW_law_580 (by decide) (fun z => ?_) (fun z => ?_)
  · refine fr_goto (pc := 595) (tgt := 1665) d_LW_law_595 (by decide) ?_
    exact fr_Ld (fr_Ld (kk S2 _ hI2))
  · refine fr_aload_n (pc := 583) d_LW_law_583 rfl rfl ?_
    refine fr_iconst (pc := 584) (v := 0) d_LW_law_584 (by decide) ?_
    refine fr_laldN (pc := 585) (n := 1) (k := 0) d_LW_law_585 ho3 (by omega) (by omega) ?_
    refine fr_iload (pc := 586) d_LW_law_586 rfl ?_
    refine fr_i2l (pc := 588) d_LW_law_588 rfl ?_
    refine fr_lcmp (pc := 589) d_LW_law_589 ?_
    refine fr_st (st2 := [.int 0]) (by rw [(bb_cmp2 _ _).mpr (hf2 z)]) ?_
    refine fr_if_eq (pc := 590) (tgt := 595) d_LW_law_590 (by decide) (fun _ => ?_) (fun z => absurd rfl z)
    refine fr_goto (pc := 595) (tgt := 1665) d_LW_law_595 (by decide) ?_
    exact fr_Ld (fr_Ld (kk S2 _ hI2))
theorem l_remove {g : fw_G} {Post : fw_O → fw_W → Prop} {nc ns : Nat} {b Ls : Nat} {xs : Nat → Int32} (hsc : lx_sc g b Ls xs) {o gr a1 a2 a3 a4 na mo out : Nat} {ar : Nat → Nat} {S : fs_S} {w : fw_W} (hI : lx_I g (o, gr, a1, a2, a3, a4, na) mo ar out S w) {i : Nat} (hi : i + 8 ≤ Ls) (kk : ∀ S2 u, lx_I g (o, gr, a1, a2, a3, a4, na) mo ar out S2 u → fw_R g m_LW_law Post nc ns u 1665 [(0, .ref b), (1, .ref o), (2, .ref mo), (3, .ref out), (4, .int (nI i))] []) : fw_R g m_LW_law Post (nc + 10) (ns + 72) w 598 [(0, .ref b), (1, .ref o), (2, .ref mo), (3, .ref out), (4, .int (nI i))] [] := by
  obtain ⟨us, n, hu, hg, nd⟩ := S
  obtain ⟨hX, hA, ⟨f, hout⟩, th, so, pl, po, F, hmo, harr, hc⟩ := hI
  have hL := hsc.2.2
  obtain ⟨c, v, S2, hW, hM⟩ := j_remove hX hout hA hc (xs (i + 1))
  refine fr_nc (nc2 := nc + 3) (ns2 := ns + 18) (by omega) (by omega) ?_
  refine fr_aload_n (pc := 598) d_LW_law_598 rfl rfl ?_
  refine fr_aload_n (pc := 599) d_LW_law_599 rfl rfl ?_
  refine fr_iload (pc := 600) d_LW_law_600 rfl ?_
  refine fr_iconst (pc := 602) (v := 1) d_LW_law_602 (by decide) ?_
  refine fr_iaddN (pc := 603) (a := i) (b := 1) d_LW_law_603 ?_
  refine fr_sld (pc := 604) (k := (i + 1)) hsc d_LW_law_604 (by omega) ?_
  refine fr_aload_n (pc := 605) d_LW_law_605 rfl rfl ?_
  refine fr_calls (pc := 606) (nc := nc) (ns := ns) (N := m_LW_remove) (rest := []) (as := [.ref o, .int (xs (i + 1)), .ref out]) d_LW_law_606 k_LW_remove lk_LW_113 sc_LW_remove np_LW_remove ⟨by decide, by decide, Nat.le_of_ble_eq_true rfl⟩ (Nat.le_of_ble_eq_true rfl) hW (fun v1 u h9 => ?_) (fun C u h9 => by obtain ⟨h1, -⟩ := h9; cases h1) rfl
  obtain ⟨h1, hX2, hmk, f2, ho2, hf2⟩ := h9
  cases h1
  obtain ⟨hmo2, harr2⟩ := lx_self hmk hmo harr
  have eu := fs_X_of_fm hmo2 harr2
  rw [eu]
  refine fr_istore (pc := 609) (L2 := [(0, .ref b), (1, .ref o), (2, .ref mo), (3, .ref out), (4, .int (nI i)), (5, .int c)]) d_LW_law_609 (by decide) rfl ?_
  refine fr_aload_n (pc := 611) d_LW_law_611 rfl rfl ?_
  refine fr_aload_n (pc := 612) d_LW_law_612 rfl rfl ?_
  refine fr_iload (pc := 613) d_LW_law_613 rfl ?_
  refine fr_iconst (pc := 615) (v := 1) d_LW_law_615 (by decide) ?_
  refine fr_iaddN (pc := 616) (a := i) (b := 1) d_LW_law_616 ?_
  refine fr_sld (pc := 617) (k := (i + 1)) hsc d_LW_law_617 (by omega) ?_
  refine fr_callV (pc := 618) (nc := nc) (ns := ns) (N := m_MO_remove) (rest := []) (as := [.int (xs (i + 1))]) d_LW_law_618 vc_LW_116 ⟨by decide, by decide, Nat.le_of_ble_eq_true rfl⟩ (Nat.le_of_ble_eq_true rfl) fm_mo (hM u th so pl po) rfl (fun v1 u2 h9 => ?_) (fun C u h9 => by obtain ⟨h1, -⟩ := h9; cases h1)
  obtain ⟨h1, so2, pl2, po2, F2, rfl, hc2⟩ := h9
  cases h1
  obtain ⟨hI2, ho3⟩ := lx_next (th := c) (so := so2) (pl := pl2) (po := po2) hX2 hA hmo2 harr2 ho2 hc2
  refine fr_istore (pc := 621) (L2 := [(0, .ref b), (1, .ref o), (2, .ref mo), (3, .ref out), (4, .int (nI i)), (5, .int c), (6, .int v)]) d_LW_law_621 (by decide) rfl ?_
  refine fr_aload_n (pc := 623) d_LW_law_623 rfl rfl ?_
  refine fr_callv_p (pc := 624) (nc := nc) (ns := ns) (N := m_MO_thrown) (rest := []) (as := []) d_LW_law_624 vc_LW_92 ⟨by decide, by decide, Nat.le_of_ble_eq_true rfl⟩ (Nat.le_of_ble_eq_true rfl) fm_mo (c_MO_thrown hA) rfl ?_
  refine fr_iload (pc := 627) d_LW_law_627 rfl ?_
  refine fr_icmp_eq (pc := 629) (tgt := 634) d_LW_law_629 (by decide) (fun _ => ?_) (fun z => absurd rfl z)
  refine fr_iload (pc := 634) d_LW_law_634 rfl ?_
  refine fr_if_ne (pc := 636) (tgt := 651) d_LW_law_636 (by decide) (fun z => ?_) (fun z => ?_)
  · refine fr_goto (pc := 651) (tgt := 1665) d_LW_law_651 (by decide) ?_
    exact fr_Ld (fr_Ld (kk S2 _ hI2))
  · refine fr_aload_n (pc := 639) d_LW_law_639 rfl rfl ?_
    refine fr_iconst (pc := 640) (v := 0) d_LW_law_640 (by decide) ?_
    refine fr_laldN (pc := 641) (n := 1) (k := 0) d_LW_law_641 ho3 (by omega) (by omega) ?_
    refine fr_iload (pc := 642) d_LW_law_642 rfl ?_
    refine fr_i2l (pc := 644) d_LW_law_644 rfl ?_
    refine fr_lcmp (pc := 645) d_LW_law_645 ?_
    refine fr_st (st2 := [.int 0]) (by rw [(bb_cmp2 _ _).mpr (hf2 z)]) ?_
    refine fr_if_eq (pc := 646) (tgt := 651) d_LW_law_646 (by decide) (fun _ => ?_) (fun z => absurd rfl z)
    refine fr_goto (pc := 651) (tgt := 1665) d_LW_law_651 (by decide) ?_
    exact fr_Ld (fr_Ld (kk S2 _ hI2))
theorem l_entry {g : fw_G} {Post : fw_O → fw_W → Prop} {nc ns : Nat} {b Ls : Nat} {xs : Nat → Int32} (hsc : lx_sc g b Ls xs) {o gr a1 a2 a3 a4 na mo out : Nat} {ar : Nat → Nat} {S : fs_S} {w : fw_W} (hI : lx_I g (o, gr, a1, a2, a3, a4, na) mo ar out S w) {i : Nat} (hi : i + 8 ≤ Ls) (kk : ∀ S2 u, lx_I g (o, gr, a1, a2, a3, a4, na) mo ar out S2 u → fw_R g m_LW_law Post nc ns u 1665 [(0, .ref b), (1, .ref o), (2, .ref mo), (3, .ref out), (4, .int (nI i))] []) : fw_R g m_LW_law Post (nc + 10) (ns + 72) w 654 [(0, .ref b), (1, .ref o), (2, .ref mo), (3, .ref out), (4, .int (nI i))] [] := by
  obtain ⟨us, n, hu, hg, nd⟩ := S
  obtain ⟨hX, hA, ⟨f, hout⟩, th, so, pl, po, F, hmo, harr, hc⟩ := hI
  have hL := hsc.2.2
  obtain ⟨c, v, S2, hW, hM⟩ := j_entry hX hout hA hc (xs (i + 1)) (xs (i + 2)) (decide (xs (i + 3) ≠ 0)) (xs (i + 4)) (decide (xs (i + 5) ≠ 0)) (xs (i + 6)) (xs (i + 7))
  refine fr_nc (nc2 := nc + 10) (ns2 := ns + 72) (by omega) (by omega) ?_
  refine fr_aload_n (pc := 654) d_LW_law_654 rfl rfl ?_
  refine fr_aload_n (pc := 655) d_LW_law_655 rfl rfl ?_
  refine fr_iload (pc := 656) d_LW_law_656 rfl ?_
  refine fr_iconst (pc := 658) (v := 1) d_LW_law_658 (by decide) ?_
  refine fr_iaddN (pc := 659) (a := i) (b := 1) d_LW_law_659 ?_
  refine fr_sld (pc := 660) (k := (i + 1)) hsc d_LW_law_660 (by omega) ?_
  refine fr_aload_n (pc := 661) d_LW_law_661 rfl rfl ?_
  refine fr_iload (pc := 662) d_LW_law_662 rfl ?_
  refine fr_iconst (pc := 664) (v := 2) d_LW_law_664 (by decide) ?_
  refine fr_iaddN (pc := 665) (a := i) (b := 2) d_LW_law_665 ?_
  refine fr_sld (pc := 666) (k := (i + 2)) hsc d_LW_law_666 (by omega) ?_
  refine fr_aload_n (pc := 667) d_LW_law_667 rfl rfl ?_
  refine fr_iload (pc := 668) d_LW_law_668 rfl ?_
  refine fr_iconst (pc := 670) (v := 3) d_LW_law_670 (by decide) ?_
  refine fr_iaddN (pc := 671) (a := i) (b := 3) d_LW_law_671 ?_
  refine fr_sld (pc := 672) (k := (i + 3)) hsc d_LW_law_672 (by omega) ?_
  refine fr_nz (pc := 673) 676 677 680 rfl rfl rfl d_LW_law_673 d_LW_law_676 d_LW_law_677 d_LW_law_680 ?_
  refine fr_aload_n (pc := 681) d_LW_law_681 rfl rfl ?_
  refine fr_iload (pc := 682) d_LW_law_682 rfl ?_
  refine fr_iconst (pc := 684) (v := 4) d_LW_law_684 (by decide) ?_
  refine fr_iaddN (pc := 685) (a := i) (b := 4) d_LW_law_685 ?_
  refine fr_sld (pc := 686) (k := (i + 4)) hsc d_LW_law_686 (by omega) ?_
  refine fr_aload_n (pc := 687) d_LW_law_687 rfl rfl ?_
  refine fr_iload (pc := 688) d_LW_law_688 rfl ?_
  refine fr_iconst (pc := 690) (v := 5) d_LW_law_690 (by decide) ?_
  refine fr_iaddN (pc := 691) (a := i) (b := 5) d_LW_law_691 ?_
  refine fr_sld (pc := 692) (k := (i + 5)) hsc d_LW_law_692 (by omega) ?_
  refine fr_nz (pc := 693) 696 697 700 rfl rfl rfl d_LW_law_693 d_LW_law_696 d_LW_law_697 d_LW_law_700 ?_
  refine fr_aload_n (pc := 701) d_LW_law_701 rfl rfl ?_
  refine fr_iload (pc := 702) d_LW_law_702 rfl ?_
  refine fr_bipush (pc := 704) (v := 6) d_LW_law_704 (by decide) ?_
  refine fr_iaddN (pc := 706) (a := i) (b := 6) d_LW_law_706 ?_
  refine fr_sld (pc := 707) (k := (i + 6)) hsc d_LW_law_707 (by omega) ?_
  refine fr_aload_n (pc := 708) d_LW_law_708 rfl rfl ?_
  refine fr_iload (pc := 709) d_LW_law_709 rfl ?_
  refine fr_bipush (pc := 711) (v := 7) d_LW_law_711 (by decide) ?_
  refine fr_iaddN (pc := 713) (a := i) (b := 7) d_LW_law_713 ?_
  refine fr_sld (pc := 714) (k := (i + 7)) hsc d_LW_law_714 (by omega) ?_
  refine fr_aload_n (pc := 715) d_LW_law_715 rfl rfl ?_
  refine fr_calls (pc := 716) (nc := nc) (ns := ns) (N := m_LW_entry) (rest := []) (as := [.ref o, .int (xs (i + 1)), .int (xs (i + 2)), .int (bI (decide ((xs (i + 3)) ≠ 0))), .int (xs (i + 4)), .int (bI (decide ((xs (i + 5)) ≠ 0))), .int (xs (i + 6)), .int (xs (i + 7)), .ref out]) d_LW_law_716 k_LW_entry lk_LW_117 sc_LW_entry np_LW_entry ⟨by decide, by decide, Nat.le_of_ble_eq_true rfl⟩ (Nat.le_of_ble_eq_true rfl) hW (fun v1 u h9 => ?_) (fun C u h9 => by obtain ⟨h1, -⟩ := h9; cases h1) rfl
  obtain ⟨h1, hX2, hmk, f2, ho2, hf2⟩ := h9
  cases h1
  obtain ⟨hmo2, harr2⟩ := lx_self hmk hmo harr
  have eu := fs_X_of_fm hmo2 harr2
  rw [eu]
  refine fr_istore (pc := 719) (L2 := [(0, .ref b), (1, .ref o), (2, .ref mo), (3, .ref out), (4, .int (nI i)), (5, .int c)]) d_LW_law_719 (by decide) rfl ?_
  refine fr_aload_n (pc := 721) d_LW_law_721 rfl rfl ?_
  refine fr_aload_n (pc := 722) d_LW_law_722 rfl rfl ?_
  refine fr_iload (pc := 723) d_LW_law_723 rfl ?_
  refine fr_iconst (pc := 725) (v := 1) d_LW_law_725 (by decide) ?_
  refine fr_iaddN (pc := 726) (a := i) (b := 1) d_LW_law_726 ?_
  refine fr_sld (pc := 727) (k := (i + 1)) hsc d_LW_law_727 (by omega) ?_
  refine fr_aload_n (pc := 728) d_LW_law_728 rfl rfl ?_
  refine fr_iload (pc := 729) d_LW_law_729 rfl ?_
  refine fr_iconst (pc := 731) (v := 2) d_LW_law_731 (by decide) ?_
  refine fr_iaddN (pc := 732) (a := i) (b := 2) d_LW_law_732 ?_
  refine fr_sld (pc := 733) (k := (i + 2)) hsc d_LW_law_733 (by omega) ?_
  refine fr_aload_n (pc := 734) d_LW_law_734 rfl rfl ?_
  refine fr_iload (pc := 735) d_LW_law_735 rfl ?_
  refine fr_iconst (pc := 737) (v := 3) d_LW_law_737 (by decide) ?_
  refine fr_iaddN (pc := 738) (a := i) (b := 3) d_LW_law_738 ?_
  refine fr_sld (pc := 739) (k := (i + 3)) hsc d_LW_law_739 (by omega) ?_
  refine fr_nz (pc := 740) 743 744 747 rfl rfl rfl d_LW_law_740 d_LW_law_743 d_LW_law_744 d_LW_law_747 ?_
  refine fr_aload_n (pc := 748) d_LW_law_748 rfl rfl ?_
  refine fr_iload (pc := 749) d_LW_law_749 rfl ?_
  refine fr_iconst (pc := 751) (v := 4) d_LW_law_751 (by decide) ?_
  refine fr_iaddN (pc := 752) (a := i) (b := 4) d_LW_law_752 ?_
  refine fr_sld (pc := 753) (k := (i + 4)) hsc d_LW_law_753 (by omega) ?_
  refine fr_aload_n (pc := 754) d_LW_law_754 rfl rfl ?_
  refine fr_iload (pc := 755) d_LW_law_755 rfl ?_
  refine fr_iconst (pc := 757) (v := 5) d_LW_law_757 (by decide) ?_
  refine fr_iaddN (pc := 758) (a := i) (b := 5) d_LW_law_758 ?_
  refine fr_sld (pc := 759) (k := (i + 5)) hsc d_LW_law_759 (by omega) ?_
  refine fr_nz (pc := 760) 763 764 767 rfl rfl rfl d_LW_law_760 d_LW_law_763 d_LW_law_764 d_LW_law_767 ?_
  refine fr_aload_n (pc := 768) d_LW_law_768 rfl rfl ?_
  refine fr_iload (pc := 769) d_LW_law_769 rfl ?_
  refine fr_bipush (pc := 771) (v := 6) d_LW_law_771 (by decide) ?_
  refine fr_iaddN (pc := 773) (a := i) (b := 6) d_LW_law_773 ?_
  refine fr_sld (pc := 774) (k := (i + 6)) hsc d_LW_law_774 (by omega) ?_
  refine fr_aload_n (pc := 775) d_LW_law_775 rfl rfl ?_
  refine fr_iload (pc := 776) d_LW_law_776 rfl ?_
  refine fr_bipush (pc := 778) (v := 7) d_LW_law_778 (by decide) ?_
  refine fr_iaddN (pc := 780) (a := i) (b := 7) d_LW_law_780 ?_
  refine fr_sld (pc := 781) (k := (i + 7)) hsc d_LW_law_781 (by omega) ?_
  refine fr_callV (pc := 782) (nc := nc) (ns := ns) (N := m_MO_entry) (rest := []) (as := [.int (xs (i + 1)), .int (xs (i + 2)), .int (bI (decide ((xs (i + 3)) ≠ 0))), .int (xs (i + 4)), .int (bI (decide ((xs (i + 5)) ≠ 0))), .int (xs (i + 6)), .int (xs (i + 7))]) d_LW_law_782 vc_LW_120 ⟨by decide, by decide, Nat.le_of_ble_eq_true rfl⟩ (Nat.le_of_ble_eq_true rfl) fm_mo (hM u th so pl po) rfl (fun v1 u2 h9 => ?_) (fun C u h9 => by obtain ⟨h1, -⟩ := h9; cases h1)
  obtain ⟨h1, so2, pl2, po2, F2, rfl, hc2⟩ := h9
  cases h1
  obtain ⟨hI2, ho3⟩ := lx_next (th := c) (so := so2) (pl := pl2) (po := po2) hX2 hA hmo2 harr2 ho2 hc2
  refine fr_istore (pc := 785) (L2 := [(0, .ref b), (1, .ref o), (2, .ref mo), (3, .ref out), (4, .int (nI i)), (5, .int c), (6, .int v)]) d_LW_law_785 (by decide) rfl ?_
  refine fr_aload_n (pc := 787) d_LW_law_787 rfl rfl ?_
  refine fr_callv_p (pc := 788) (nc := nc) (ns := ns) (N := m_MO_thrown) (rest := []) (as := []) d_LW_law_788 vc_LW_92 ⟨by decide, by decide, Nat.le_of_ble_eq_true rfl⟩ (Nat.le_of_ble_eq_true rfl) fm_mo (c_MO_thrown hA) rfl ?_
  refine fr_iload (pc := 791) d_LW_law_791 rfl ?_
  refine fr_icmp_eq (pc := 793) (tgt := 798) d_LW_law_793 (by decide) (fun _ => ?_) (fun z => absurd rfl z)
  refine fr_iload (pc := 798) d_LW_law_798 rfl ?_
  refine fr_if_ne (pc := 800) (tgt := 815) d_LW_law_800 (by decide) (fun z => ?_) (fun z => ?_)
  · refine fr_goto (pc := 815) (tgt := 1665) d_LW_law_815 (by decide) ?_
    exact fr_Ld (fr_Ld (kk S2 _ hI2))
  · refine fr_aload_n (pc := 803) d_LW_law_803 rfl rfl ?_
    refine fr_iconst (pc := 804) (v := 0) d_LW_law_804 (by decide) ?_
    refine fr_laldN (pc := 805) (n := 1) (k := 0) d_LW_law_805 ho3 (by omega) (by omega) ?_
    refine fr_iload (pc := 806) d_LW_law_806 rfl ?_
    refine fr_i2l (pc := 808) d_LW_law_808 rfl ?_
    refine fr_lcmp (pc := 809) d_LW_law_809 ?_
    refine fr_st (st2 := [.int 0]) (by rw [(bb_cmp2 _ _).mpr (hf2 z)]) ?_
    refine fr_if_eq (pc := 810) (tgt := 815) d_LW_law_810 (by decide) (fun _ => ?_) (fun z => absurd rfl z)
    refine fr_goto (pc := 815) (tgt := 1665) d_LW_law_815 (by decide) ?_
    exact fr_Ld (fr_Ld (kk S2 _ hI2))
theorem l_dropEntry {g : fw_G} {Post : fw_O → fw_W → Prop} {nc ns : Nat} {b Ls : Nat} {xs : Nat → Int32} (hsc : lx_sc g b Ls xs) {o gr a1 a2 a3 a4 na mo out : Nat} {ar : Nat → Nat} {S : fs_S} {w : fw_W} (hI : lx_I g (o, gr, a1, a2, a3, a4, na) mo ar out S w) {i : Nat} (hi : i + 8 ≤ Ls) (kk : ∀ S2 u, lx_I g (o, gr, a1, a2, a3, a4, na) mo ar out S2 u → fw_R g m_LW_law Post nc ns u 1665 [(0, .ref b), (1, .ref o), (2, .ref mo), (3, .ref out), (4, .int (nI i))] []) : fw_R g m_LW_law Post (nc + 10) (ns + 72) w 818 [(0, .ref b), (1, .ref o), (2, .ref mo), (3, .ref out), (4, .int (nI i))] [] := by
  obtain ⟨us, n, hu, hg, nd⟩ := S
  obtain ⟨hX, hA, ⟨f, hout⟩, th, so, pl, po, F, hmo, harr, hc⟩ := hI
  have hL := hsc.2.2
  obtain ⟨c, v, S2, hW, hM⟩ := j_dropEntry hX hout hA hc (xs (i + 1)) (xs (i + 2))
  refine fr_nc (nc2 := nc + 2) (ns2 := ns + 12) (by omega) (by omega) ?_
  refine fr_aload_n (pc := 818) d_LW_law_818 rfl rfl ?_
  refine fr_aload_n (pc := 819) d_LW_law_819 rfl rfl ?_
  refine fr_iload (pc := 820) d_LW_law_820 rfl ?_
  refine fr_iconst (pc := 822) (v := 1) d_LW_law_822 (by decide) ?_
  refine fr_iaddN (pc := 823) (a := i) (b := 1) d_LW_law_823 ?_
  refine fr_sld (pc := 824) (k := (i + 1)) hsc d_LW_law_824 (by omega) ?_
  refine fr_aload_n (pc := 825) d_LW_law_825 rfl rfl ?_
  refine fr_iload (pc := 826) d_LW_law_826 rfl ?_
  refine fr_iconst (pc := 828) (v := 2) d_LW_law_828 (by decide) ?_
  refine fr_iaddN (pc := 829) (a := i) (b := 2) d_LW_law_829 ?_
  refine fr_sld (pc := 830) (k := (i + 2)) hsc d_LW_law_830 (by omega) ?_
  refine fr_aload_n (pc := 831) d_LW_law_831 rfl rfl ?_
  refine fr_calls (pc := 832) (nc := nc) (ns := ns) (N := m_LW_dropEntry) (rest := []) (as := [.ref o, .int (xs (i + 1)), .int (xs (i + 2)), .ref out]) d_LW_law_832 k_LW_dropEntry lk_LW_121 sc_LW_dropEntry np_LW_dropEntry ⟨by decide, by decide, Nat.le_of_ble_eq_true rfl⟩ (Nat.le_of_ble_eq_true rfl) hW (fun v1 u h9 => ?_) (fun C u h9 => by obtain ⟨h1, -⟩ := h9; cases h1) rfl
  obtain ⟨h1, hX2, hmk, f2, ho2, hf2⟩ := h9
  cases h1
  obtain ⟨hmo2, harr2⟩ := lx_self hmk hmo harr
  have eu := fs_X_of_fm hmo2 harr2
  rw [eu]
  refine fr_istore (pc := 835) (L2 := [(0, .ref b), (1, .ref o), (2, .ref mo), (3, .ref out), (4, .int (nI i)), (5, .int c)]) d_LW_law_835 (by decide) rfl ?_
  refine fr_aload_n (pc := 837) d_LW_law_837 rfl rfl ?_
  refine fr_aload_n (pc := 838) d_LW_law_838 rfl rfl ?_
  refine fr_iload (pc := 839) d_LW_law_839 rfl ?_
  refine fr_iconst (pc := 841) (v := 1) d_LW_law_841 (by decide) ?_
  refine fr_iaddN (pc := 842) (a := i) (b := 1) d_LW_law_842 ?_
  refine fr_sld (pc := 843) (k := (i + 1)) hsc d_LW_law_843 (by omega) ?_
  refine fr_aload_n (pc := 844) d_LW_law_844 rfl rfl ?_
  refine fr_iload (pc := 845) d_LW_law_845 rfl ?_
  refine fr_iconst (pc := 847) (v := 2) d_LW_law_847 (by decide) ?_
  refine fr_iaddN (pc := 848) (a := i) (b := 2) d_LW_law_848 ?_
  refine fr_sld (pc := 849) (k := (i + 2)) hsc d_LW_law_849 (by omega) ?_
  refine fr_callV (pc := 850) (nc := nc) (ns := ns) (N := m_MO_dropEntry) (rest := []) (as := [.int (xs (i + 1)), .int (xs (i + 2))]) d_LW_law_850 vc_LW_123 ⟨by decide, by decide, Nat.le_of_ble_eq_true rfl⟩ (Nat.le_of_ble_eq_true rfl) fm_mo (hM u th so pl po) rfl (fun v1 u2 h9 => ?_) (fun C u h9 => by obtain ⟨h1, -⟩ := h9; cases h1)
  obtain ⟨h1, so2, pl2, po2, F2, rfl, hc2⟩ := h9
  cases h1
  obtain ⟨hI2, ho3⟩ := lx_next (th := c) (so := so2) (pl := pl2) (po := po2) hX2 hA hmo2 harr2 ho2 hc2
  refine fr_istore (pc := 853) (L2 := [(0, .ref b), (1, .ref o), (2, .ref mo), (3, .ref out), (4, .int (nI i)), (5, .int c), (6, .int v)]) d_LW_law_853 (by decide) rfl ?_
  refine fr_aload_n (pc := 855) d_LW_law_855 rfl rfl ?_
  refine fr_callv_p (pc := 856) (nc := nc) (ns := ns) (N := m_MO_thrown) (rest := []) (as := []) d_LW_law_856 vc_LW_92 ⟨by decide, by decide, Nat.le_of_ble_eq_true rfl⟩ (Nat.le_of_ble_eq_true rfl) fm_mo (c_MO_thrown hA) rfl ?_
  refine fr_iload (pc := 859) d_LW_law_859 rfl ?_
  refine fr_icmp_eq (pc := 861) (tgt := 866) d_LW_law_861 (by decide) (fun _ => ?_) (fun z => absurd rfl z)
  refine fr_iload (pc := 866) d_LW_law_866 rfl ?_
  refine fr_if_ne (pc := 868) (tgt := 883) d_LW_law_868 (by decide) (fun z => ?_) (fun z => ?_)
  · refine fr_goto (pc := 883) (tgt := 1665) d_LW_law_883 (by decide) ?_
    exact fr_Ld (fr_Ld (kk S2 _ hI2))
  · refine fr_aload_n (pc := 871) d_LW_law_871 rfl rfl ?_
    refine fr_iconst (pc := 872) (v := 0) d_LW_law_872 (by decide) ?_
    refine fr_laldN (pc := 873) (n := 1) (k := 0) d_LW_law_873 ho3 (by omega) (by omega) ?_
    refine fr_iload (pc := 874) d_LW_law_874 rfl ?_
    refine fr_i2l (pc := 876) d_LW_law_876 rfl ?_
    refine fr_lcmp (pc := 877) d_LW_law_877 ?_
    refine fr_st (st2 := [.int 0]) (by rw [(bb_cmp2 _ _).mpr (hf2 z)]) ?_
    refine fr_if_eq (pc := 878) (tgt := 883) d_LW_law_878 (by decide) (fun _ => ?_) (fun z => absurd rfl z)
    refine fr_goto (pc := 883) (tgt := 1665) d_LW_law_883 (by decide) ?_
    exact fr_Ld (fr_Ld (kk S2 _ hI2))
theorem l_block {g : fw_G} {Post : fw_O → fw_W → Prop} {nc ns : Nat} {b Ls : Nat} {xs : Nat → Int32} (hsc : lx_sc g b Ls xs) {o gr a1 a2 a3 a4 na mo out : Nat} {ar : Nat → Nat} {S : fs_S} {w : fw_W} (hI : lx_I g (o, gr, a1, a2, a3, a4, na) mo ar out S w) {i : Nat} (hi : i + 8 ≤ Ls) (kk : ∀ S2 u, lx_I g (o, gr, a1, a2, a3, a4, na) mo ar out S2 u → fw_R g m_LW_law Post nc ns u 1665 [(0, .ref b), (1, .ref o), (2, .ref mo), (3, .ref out), (4, .int (nI i))] []) : fw_R g m_LW_law Post (nc + 10) (ns + 72) w 886 [(0, .ref b), (1, .ref o), (2, .ref mo), (3, .ref out), (4, .int (nI i))] [] := by
  obtain ⟨us, n, hu, hg, nd⟩ := S
  obtain ⟨hX, hA, ⟨f, hout⟩, th, so, pl, po, F, hmo, harr, hc⟩ := hI
  have hL := hsc.2.2
  obtain ⟨c, v, S2, hW, hM⟩ := j_block hX hout hA hc (xs (i + 1)) (decide (xs (i + 2) ≠ 0))
  refine fr_nc (nc2 := nc + 1) (ns2 := ns + 6) (by omega) (by omega) ?_
  refine fr_aload_n (pc := 886) d_LW_law_886 rfl rfl ?_
  refine fr_aload_n (pc := 887) d_LW_law_887 rfl rfl ?_
  refine fr_iload (pc := 888) d_LW_law_888 rfl ?_
  refine fr_iconst (pc := 890) (v := 1) d_LW_law_890 (by decide) ?_
  refine fr_iaddN (pc := 891) (a := i) (b := 1) d_LW_law_891 ?_
  refine fr_sld (pc := 892) (k := (i + 1)) hsc d_LW_law_892 (by omega) ?_
  refine fr_aload_n (pc := 893) d_LW_law_893 rfl rfl ?_
  refine fr_iload (pc := 894) d_LW_law_894 rfl ?_
  refine fr_iconst (pc := 896) (v := 2) d_LW_law_896 (by decide) ?_
  refine fr_iaddN (pc := 897) (a := i) (b := 2) d_LW_law_897 ?_
  refine fr_sld (pc := 898) (k := (i + 2)) hsc d_LW_law_898 (by omega) ?_
  refine fr_nz (pc := 899) 902 903 906 rfl rfl rfl d_LW_law_899 d_LW_law_902 d_LW_law_903 d_LW_law_906 ?_
  refine fr_aload_n (pc := 907) d_LW_law_907 rfl rfl ?_
  refine fr_calls (pc := 908) (nc := nc) (ns := ns) (N := m_LW_block) (rest := []) (as := [.ref o, .int (xs (i + 1)), .int (bI (decide ((xs (i + 2)) ≠ 0))), .ref out]) d_LW_law_908 k_LW_block lk_LW_124 sc_LW_block np_LW_block ⟨by decide, by decide, Nat.le_of_ble_eq_true rfl⟩ (Nat.le_of_ble_eq_true rfl) hW (fun v1 u h9 => ?_) (fun C u h9 => by obtain ⟨h1, -⟩ := h9; cases h1) rfl
  obtain ⟨h1, hX2, hmk, f2, ho2, hf2⟩ := h9
  cases h1
  obtain ⟨hmo2, harr2⟩ := lx_self hmk hmo harr
  have eu := fs_X_of_fm hmo2 harr2
  rw [eu]
  refine fr_istore (pc := 911) (L2 := [(0, .ref b), (1, .ref o), (2, .ref mo), (3, .ref out), (4, .int (nI i)), (5, .int c)]) d_LW_law_911 (by decide) rfl ?_
  refine fr_aload_n (pc := 913) d_LW_law_913 rfl rfl ?_
  refine fr_aload_n (pc := 914) d_LW_law_914 rfl rfl ?_
  refine fr_iload (pc := 915) d_LW_law_915 rfl ?_
  refine fr_iconst (pc := 917) (v := 1) d_LW_law_917 (by decide) ?_
  refine fr_iaddN (pc := 918) (a := i) (b := 1) d_LW_law_918 ?_
  refine fr_sld (pc := 919) (k := (i + 1)) hsc d_LW_law_919 (by omega) ?_
  refine fr_aload_n (pc := 920) d_LW_law_920 rfl rfl ?_
  refine fr_iload (pc := 921) d_LW_law_921 rfl ?_
  refine fr_iconst (pc := 923) (v := 2) d_LW_law_923 (by decide) ?_
  refine fr_iaddN (pc := 924) (a := i) (b := 2) d_LW_law_924 ?_
  refine fr_sld (pc := 925) (k := (i + 2)) hsc d_LW_law_925 (by omega) ?_
  refine fr_nz (pc := 926) 929 930 933 rfl rfl rfl d_LW_law_926 d_LW_law_929 d_LW_law_930 d_LW_law_933 ?_
  refine fr_callV (pc := 934) (nc := nc) (ns := ns) (N := m_MO_block) (rest := []) (as := [.int (xs (i + 1)), .int (bI (decide ((xs (i + 2)) ≠ 0)))]) d_LW_law_934 vc_LW_127 ⟨by decide, by decide, Nat.le_of_ble_eq_true rfl⟩ (Nat.le_of_ble_eq_true rfl) fm_mo (hM u th so pl po) rfl (fun v1 u2 h9 => ?_) (fun C u h9 => by obtain ⟨h1, -⟩ := h9; cases h1)
  obtain ⟨h1, so2, pl2, po2, F2, rfl, hc2⟩ := h9
  cases h1
  obtain ⟨hI2, ho3⟩ := lx_next (th := c) (so := so2) (pl := pl2) (po := po2) hX2 hA hmo2 harr2 ho2 hc2
  refine fr_istore (pc := 937) (L2 := [(0, .ref b), (1, .ref o), (2, .ref mo), (3, .ref out), (4, .int (nI i)), (5, .int c), (6, .int (bI v))]) d_LW_law_937 (by decide) rfl ?_
  refine fr_aload_n (pc := 939) d_LW_law_939 rfl rfl ?_
  refine fr_callv_p (pc := 940) (nc := nc) (ns := ns) (N := m_MO_thrown) (rest := []) (as := []) d_LW_law_940 vc_LW_92 ⟨by decide, by decide, Nat.le_of_ble_eq_true rfl⟩ (Nat.le_of_ble_eq_true rfl) fm_mo (c_MO_thrown hA) rfl ?_
  refine fr_iload (pc := 943) d_LW_law_943 rfl ?_
  refine fr_icmp_eq (pc := 945) (tgt := 950) d_LW_law_945 (by decide) (fun _ => ?_) (fun z => absurd rfl z)
  refine fr_iload (pc := 950) d_LW_law_950 rfl ?_
  refine fr_if_ne (pc := 952) (tgt := 974) d_LW_law_952 (by decide) (fun z => ?_) (fun z => ?_)
  · refine fr_goto (pc := 974) (tgt := 1665) d_LW_law_974 (by decide) ?_
    exact fr_Ld (fr_Ld (kk S2 _ hI2))
  · refine fr_aload_n (pc := 955) d_LW_law_955 rfl rfl ?_
    refine fr_iconst (pc := 956) (v := 0) d_LW_law_956 (by decide) ?_
    refine fr_laldN (pc := 957) (n := 1) (k := 0) d_LW_law_957 ho3 (by omega) (by omega) ?_
    refine fr_iload (pc := 958) d_LW_law_958 rfl ?_
    refine fr_nzl (pc := 960) 963 964 967 rfl rfl rfl d_LW_law_960 d_LW_law_963 d_LW_law_964 d_LW_law_967 ?_
    refine fr_lcmp (pc := 968) d_LW_law_968 ?_
    refine fr_st (st2 := [.int 0]) (by rw [(bb_cmp2 _ _).mpr (hf2 z)]) ?_
    refine fr_if_eq (pc := 969) (tgt := 974) d_LW_law_969 (by decide) (fun _ => ?_) (fun z => absurd rfl z)
    refine fr_goto (pc := 974) (tgt := 1665) d_LW_law_974 (by decide) ?_
    exact fr_Ld (fr_Ld (kk S2 _ hI2))
theorem l_owner {g : fw_G} {Post : fw_O → fw_W → Prop} {nc ns : Nat} {b Ls : Nat} {xs : Nat → Int32} (hsc : lx_sc g b Ls xs) {o gr a1 a2 a3 a4 na mo out : Nat} {ar : Nat → Nat} {S : fs_S} {w : fw_W} (hI : lx_I g (o, gr, a1, a2, a3, a4, na) mo ar out S w) {i : Nat} (hi : i + 8 ≤ Ls) (kk : ∀ S2 u, lx_I g (o, gr, a1, a2, a3, a4, na) mo ar out S2 u → fw_R g m_LW_law Post nc ns u 1665 [(0, .ref b), (1, .ref o), (2, .ref mo), (3, .ref out), (4, .int (nI i))] []) : fw_R g m_LW_law Post (nc + 10) (ns + 72) w 977 [(0, .ref b), (1, .ref o), (2, .ref mo), (3, .ref out), (4, .int (nI i))] [] := by
  obtain ⟨us, n, hu, hg, nd⟩ := S
  obtain ⟨hX, hA, ⟨f, hout⟩, th, so, pl, po, F, hmo, harr, hc⟩ := hI
  have hL := hsc.2.2
  obtain ⟨c, v, S2, hW, hM⟩ := j_owner hX hout hA hc (xs (i + 1)) (xs (i + 2))
  refine fr_nc (nc2 := nc + 2) (ns2 := ns + 12) (by omega) (by omega) ?_
  refine fr_aload_n (pc := 977) d_LW_law_977 rfl rfl ?_
  refine fr_aload_n (pc := 978) d_LW_law_978 rfl rfl ?_
  refine fr_iload (pc := 979) d_LW_law_979 rfl ?_
  refine fr_iconst (pc := 981) (v := 1) d_LW_law_981 (by decide) ?_
  refine fr_iaddN (pc := 982) (a := i) (b := 1) d_LW_law_982 ?_
  refine fr_sld (pc := 983) (k := (i + 1)) hsc d_LW_law_983 (by omega) ?_
  refine fr_aload_n (pc := 984) d_LW_law_984 rfl rfl ?_
  refine fr_iload (pc := 985) d_LW_law_985 rfl ?_
  refine fr_iconst (pc := 987) (v := 2) d_LW_law_987 (by decide) ?_
  refine fr_iaddN (pc := 988) (a := i) (b := 2) d_LW_law_988 ?_
  refine fr_sld (pc := 989) (k := (i + 2)) hsc d_LW_law_989 (by omega) ?_
  refine fr_aload_n (pc := 990) d_LW_law_990 rfl rfl ?_
  refine fr_calls (pc := 991) (nc := nc) (ns := ns) (N := m_LW_owner) (rest := []) (as := [.ref o, .int (xs (i + 1)), .int (xs (i + 2)), .ref out]) d_LW_law_991 k_LW_owner lk_LW_128 sc_LW_owner np_LW_owner ⟨by decide, by decide, Nat.le_of_ble_eq_true rfl⟩ (Nat.le_of_ble_eq_true rfl) hW (fun v1 u h9 => ?_) (fun C u h9 => by obtain ⟨h1, -⟩ := h9; cases h1) rfl
  obtain ⟨h1, hX2, hmk, f2, ho2, hf2⟩ := h9
  cases h1
  obtain ⟨hmo2, harr2⟩ := lx_self hmk hmo harr
  have eu := fs_X_of_fm hmo2 harr2
  rw [eu]
  refine fr_istore (pc := 994) (L2 := [(0, .ref b), (1, .ref o), (2, .ref mo), (3, .ref out), (4, .int (nI i)), (5, .int c)]) d_LW_law_994 (by decide) rfl ?_
  refine fr_aload_n (pc := 996) d_LW_law_996 rfl rfl ?_
  refine fr_aload_n (pc := 997) d_LW_law_997 rfl rfl ?_
  refine fr_iload (pc := 998) d_LW_law_998 rfl ?_
  refine fr_iconst (pc := 1000) (v := 1) d_LW_law_1000 (by decide) ?_
  refine fr_iaddN (pc := 1001) (a := i) (b := 1) d_LW_law_1001 ?_
  refine fr_sld (pc := 1002) (k := (i + 1)) hsc d_LW_law_1002 (by omega) ?_
  refine fr_aload_n (pc := 1003) d_LW_law_1003 rfl rfl ?_
  refine fr_iload (pc := 1004) d_LW_law_1004 rfl ?_
  refine fr_iconst (pc := 1006) (v := 2) d_LW_law_1006 (by decide) ?_
  refine fr_iaddN (pc := 1007) (a := i) (b := 2) d_LW_law_1007 ?_
  refine fr_sld (pc := 1008) (k := (i + 2)) hsc d_LW_law_1008 (by omega) ?_
  refine fr_callV (pc := 1009) (nc := nc) (ns := ns) (N := m_MO_owner) (rest := []) (as := [.int (xs (i + 1)), .int (xs (i + 2))]) d_LW_law_1009 vc_LW_130 ⟨by decide, by decide, Nat.le_of_ble_eq_true rfl⟩ (Nat.le_of_ble_eq_true rfl) fm_mo (hM u th so pl po) rfl (fun v1 u2 h9 => ?_) (fun C u h9 => by obtain ⟨h1, -⟩ := h9; cases h1)
  obtain ⟨h1, so2, pl2, po2, F2, rfl, hc2⟩ := h9
  cases h1
  obtain ⟨hI2, ho3⟩ := lx_next (th := c) (so := so2) (pl := pl2) (po := po2) hX2 hA hmo2 harr2 ho2 hc2
  refine fr_istore (pc := 1012) (L2 := [(0, .ref b), (1, .ref o), (2, .ref mo), (3, .ref out), (4, .int (nI i)), (5, .int c), (6, .int v)]) d_LW_law_1012 (by decide) rfl ?_
  refine fr_aload_n (pc := 1014) d_LW_law_1014 rfl rfl ?_
  refine fr_callv_p (pc := 1015) (nc := nc) (ns := ns) (N := m_MO_thrown) (rest := []) (as := []) d_LW_law_1015 vc_LW_92 ⟨by decide, by decide, Nat.le_of_ble_eq_true rfl⟩ (Nat.le_of_ble_eq_true rfl) fm_mo (c_MO_thrown hA) rfl ?_
  refine fr_iload (pc := 1018) d_LW_law_1018 rfl ?_
  refine fr_icmp_eq (pc := 1020) (tgt := 1025) d_LW_law_1020 (by decide) (fun _ => ?_) (fun z => absurd rfl z)
  refine fr_iload (pc := 1025) d_LW_law_1025 rfl ?_
  refine fr_if_ne (pc := 1027) (tgt := 1042) d_LW_law_1027 (by decide) (fun z => ?_) (fun z => ?_)
  · refine fr_goto (pc := 1042) (tgt := 1665) d_LW_law_1042 (by decide) ?_
    exact fr_Ld (fr_Ld (kk S2 _ hI2))
  · refine fr_aload_n (pc := 1030) d_LW_law_1030 rfl rfl ?_
    refine fr_iconst (pc := 1031) (v := 0) d_LW_law_1031 (by decide) ?_
    refine fr_laldN (pc := 1032) (n := 1) (k := 0) d_LW_law_1032 ho3 (by omega) (by omega) ?_
    refine fr_iload (pc := 1033) d_LW_law_1033 rfl ?_
    refine fr_i2l (pc := 1035) d_LW_law_1035 rfl ?_
    refine fr_lcmp (pc := 1036) d_LW_law_1036 ?_
    refine fr_st (st2 := [.int 0]) (by rw [(bb_cmp2 _ _).mpr (hf2 z)]) ?_
    refine fr_if_eq (pc := 1037) (tgt := 1042) d_LW_law_1037 (by decide) (fun _ => ?_) (fun z => absurd rfl z)
    refine fr_goto (pc := 1042) (tgt := 1665) d_LW_law_1042 (by decide) ?_
    exact fr_Ld (fr_Ld (kk S2 _ hI2))
theorem l_rights {g : fw_G} {Post : fw_O → fw_W → Prop} {nc ns : Nat} {b Ls : Nat} {xs : Nat → Int32} (hsc : lx_sc g b Ls xs) {o gr a1 a2 a3 a4 na mo out : Nat} {ar : Nat → Nat} {S : fs_S} {w : fw_W} (hI : lx_I g (o, gr, a1, a2, a3, a4, na) mo ar out S w) {i : Nat} (hi : i + 8 ≤ Ls) (kk : ∀ S2 u, lx_I g (o, gr, a1, a2, a3, a4, na) mo ar out S2 u → fw_R g m_LW_law Post nc ns u 1665 [(0, .ref b), (1, .ref o), (2, .ref mo), (3, .ref out), (4, .int (nI i))] []) : fw_R g m_LW_law Post (nc + 10) (ns + 72) w 1045 [(0, .ref b), (1, .ref o), (2, .ref mo), (3, .ref out), (4, .int (nI i))] [] := by
  obtain ⟨us, n, hu, hg, nd⟩ := S
  obtain ⟨hX, hA, ⟨f, hout⟩, th, so, pl, po, F, hmo, harr, hc⟩ := hI
  have hL := hsc.2.2
  obtain ⟨c, v, S2, hW, hM⟩ := j_rights hX hout hA hc (xs (i + 1)) (xs (i + 2))
  refine fr_nc (nc2 := nc + 2) (ns2 := ns + 12) (by omega) (by omega) ?_
  refine fr_aload_n (pc := 1045) d_LW_law_1045 rfl rfl ?_
  refine fr_aload_n (pc := 1046) d_LW_law_1046 rfl rfl ?_
  refine fr_iload (pc := 1047) d_LW_law_1047 rfl ?_
  refine fr_iconst (pc := 1049) (v := 1) d_LW_law_1049 (by decide) ?_
  refine fr_iaddN (pc := 1050) (a := i) (b := 1) d_LW_law_1050 ?_
  refine fr_sld (pc := 1051) (k := (i + 1)) hsc d_LW_law_1051 (by omega) ?_
  refine fr_aload_n (pc := 1052) d_LW_law_1052 rfl rfl ?_
  refine fr_iload (pc := 1053) d_LW_law_1053 rfl ?_
  refine fr_iconst (pc := 1055) (v := 2) d_LW_law_1055 (by decide) ?_
  refine fr_iaddN (pc := 1056) (a := i) (b := 2) d_LW_law_1056 ?_
  refine fr_sld (pc := 1057) (k := (i + 2)) hsc d_LW_law_1057 (by omega) ?_
  refine fr_aload_n (pc := 1058) d_LW_law_1058 rfl rfl ?_
  refine fr_calls (pc := 1059) (nc := nc) (ns := ns) (N := m_LW_rights) (rest := []) (as := [.ref o, .int (xs (i + 1)), .int (xs (i + 2)), .ref out]) d_LW_law_1059 k_LW_rights lk_LW_131 sc_LW_rights np_LW_rights ⟨by decide, by decide, Nat.le_of_ble_eq_true rfl⟩ (Nat.le_of_ble_eq_true rfl) hW (fun v1 u h9 => ?_) (fun C u h9 => by obtain ⟨h1, -⟩ := h9; cases h1) rfl
  obtain ⟨h1, hX2, hmk, f2, ho2, hf2⟩ := h9
  cases h1
  obtain ⟨hmo2, harr2⟩ := lx_self hmk hmo harr
  have eu := fs_X_of_fm hmo2 harr2
  rw [eu]
  refine fr_istore (pc := 1062) (L2 := [(0, .ref b), (1, .ref o), (2, .ref mo), (3, .ref out), (4, .int (nI i)), (5, .int c)]) d_LW_law_1062 (by decide) rfl ?_
  refine fr_aload_n (pc := 1064) d_LW_law_1064 rfl rfl ?_
  refine fr_aload_n (pc := 1065) d_LW_law_1065 rfl rfl ?_
  refine fr_iload (pc := 1066) d_LW_law_1066 rfl ?_
  refine fr_iconst (pc := 1068) (v := 1) d_LW_law_1068 (by decide) ?_
  refine fr_iaddN (pc := 1069) (a := i) (b := 1) d_LW_law_1069 ?_
  refine fr_sld (pc := 1070) (k := (i + 1)) hsc d_LW_law_1070 (by omega) ?_
  refine fr_aload_n (pc := 1071) d_LW_law_1071 rfl rfl ?_
  refine fr_iload (pc := 1072) d_LW_law_1072 rfl ?_
  refine fr_iconst (pc := 1074) (v := 2) d_LW_law_1074 (by decide) ?_
  refine fr_iaddN (pc := 1075) (a := i) (b := 2) d_LW_law_1075 ?_
  refine fr_sld (pc := 1076) (k := (i + 2)) hsc d_LW_law_1076 (by omega) ?_
  refine fr_callV (pc := 1077) (nc := nc) (ns := ns) (N := m_MO_rights) (rest := []) (as := [.int (xs (i + 1)), .int (xs (i + 2))]) d_LW_law_1077 vc_LW_133 ⟨by decide, by decide, Nat.le_of_ble_eq_true rfl⟩ (Nat.le_of_ble_eq_true rfl) fm_mo (hM u th so pl po) rfl (fun v1 u2 h9 => ?_) (fun C u h9 => by obtain ⟨h1, -⟩ := h9; cases h1)
  obtain ⟨h1, so2, pl2, po2, F2, rfl, hc2⟩ := h9
  cases h1
  obtain ⟨hI2, ho3⟩ := lx_next (th := c) (so := so2) (pl := pl2) (po := po2) hX2 hA hmo2 harr2 ho2 hc2
  refine fr_istore (pc := 1080) (L2 := [(0, .ref b), (1, .ref o), (2, .ref mo), (3, .ref out), (4, .int (nI i)), (5, .int c), (6, .int v)]) d_LW_law_1080 (by decide) rfl ?_
  refine fr_aload_n (pc := 1082) d_LW_law_1082 rfl rfl ?_
  refine fr_callv_p (pc := 1083) (nc := nc) (ns := ns) (N := m_MO_thrown) (rest := []) (as := []) d_LW_law_1083 vc_LW_92 ⟨by decide, by decide, Nat.le_of_ble_eq_true rfl⟩ (Nat.le_of_ble_eq_true rfl) fm_mo (c_MO_thrown hA) rfl ?_
  refine fr_iload (pc := 1086) d_LW_law_1086 rfl ?_
  refine fr_icmp_eq (pc := 1088) (tgt := 1093) d_LW_law_1088 (by decide) (fun _ => ?_) (fun z => absurd rfl z)
  refine fr_iload (pc := 1093) d_LW_law_1093 rfl ?_
  refine fr_if_ne (pc := 1095) (tgt := 1110) d_LW_law_1095 (by decide) (fun z => ?_) (fun z => ?_)
  · refine fr_goto (pc := 1110) (tgt := 1665) d_LW_law_1110 (by decide) ?_
    exact fr_Ld (fr_Ld (kk S2 _ hI2))
  · refine fr_aload_n (pc := 1098) d_LW_law_1098 rfl rfl ?_
    refine fr_iconst (pc := 1099) (v := 0) d_LW_law_1099 (by decide) ?_
    refine fr_laldN (pc := 1100) (n := 1) (k := 0) d_LW_law_1100 ho3 (by omega) (by omega) ?_
    refine fr_iload (pc := 1101) d_LW_law_1101 rfl ?_
    refine fr_i2l (pc := 1103) d_LW_law_1103 rfl ?_
    refine fr_lcmp (pc := 1104) d_LW_law_1104 ?_
    refine fr_st (st2 := [.int 0]) (by rw [(bb_cmp2 _ _).mpr (hf2 z)]) ?_
    refine fr_if_eq (pc := 1105) (tgt := 1110) d_LW_law_1105 (by decide) (fun _ => ?_) (fun z => absurd rfl z)
    refine fr_goto (pc := 1110) (tgt := 1665) d_LW_law_1110 (by decide) ?_
    exact fr_Ld (fr_Ld (kk S2 _ hI2))
theorem l_explain {g : fw_G} {Post : fw_O → fw_W → Prop} {nc ns : Nat} {b Ls : Nat} {xs : Nat → Int32} (hsc : lx_sc g b Ls xs) {o gr a1 a2 a3 a4 na mo out : Nat} {ar : Nat → Nat} {S : fs_S} {w : fw_W} (hI : lx_I g (o, gr, a1, a2, a3, a4, na) mo ar out S w) {i : Nat} (hi : i + 8 ≤ Ls) (kk : ∀ S2 u, lx_I g (o, gr, a1, a2, a3, a4, na) mo ar out S2 u → fw_R g m_LW_law Post nc ns u 1665 [(0, .ref b), (1, .ref o), (2, .ref mo), (3, .ref out), (4, .int (nI i))] []) : fw_R g m_LW_law Post (nc + 10) (ns + 72) w 1113 [(0, .ref b), (1, .ref o), (2, .ref mo), (3, .ref out), (4, .int (nI i))] [] := by
  obtain ⟨us, n, hu, hg, nd⟩ := S
  obtain ⟨hX, hA, ⟨f, hout⟩, th, so, pl, po, F, hmo, harr, hc⟩ := hI
  have hL := hsc.2.2
  obtain ⟨c, v, S2, hW, hM⟩ := j_explain hX hout hA hc (xs (i + 1)) (xs (i + 2)) (xs (i + 3)) (xs (i + 4))
  refine fr_nc (nc2 := nc + 4) (ns2 := ns + 24) (by omega) (by omega) ?_
  refine fr_aload_n (pc := 1113) d_LW_law_1113 rfl rfl ?_
  refine fr_aload_n (pc := 1114) d_LW_law_1114 rfl rfl ?_
  refine fr_iload (pc := 1115) d_LW_law_1115 rfl ?_
  refine fr_iconst (pc := 1117) (v := 1) d_LW_law_1117 (by decide) ?_
  refine fr_iaddN (pc := 1118) (a := i) (b := 1) d_LW_law_1118 ?_
  refine fr_sld (pc := 1119) (k := (i + 1)) hsc d_LW_law_1119 (by omega) ?_
  refine fr_aload_n (pc := 1120) d_LW_law_1120 rfl rfl ?_
  refine fr_iload (pc := 1121) d_LW_law_1121 rfl ?_
  refine fr_iconst (pc := 1123) (v := 2) d_LW_law_1123 (by decide) ?_
  refine fr_iaddN (pc := 1124) (a := i) (b := 2) d_LW_law_1124 ?_
  refine fr_sld (pc := 1125) (k := (i + 2)) hsc d_LW_law_1125 (by omega) ?_
  refine fr_aload_n (pc := 1126) d_LW_law_1126 rfl rfl ?_
  refine fr_iload (pc := 1127) d_LW_law_1127 rfl ?_
  refine fr_iconst (pc := 1129) (v := 3) d_LW_law_1129 (by decide) ?_
  refine fr_iaddN (pc := 1130) (a := i) (b := 3) d_LW_law_1130 ?_
  refine fr_sld (pc := 1131) (k := (i + 3)) hsc d_LW_law_1131 (by omega) ?_
  refine fr_aload_n (pc := 1132) d_LW_law_1132 rfl rfl ?_
  refine fr_iload (pc := 1133) d_LW_law_1133 rfl ?_
  refine fr_iconst (pc := 1135) (v := 4) d_LW_law_1135 (by decide) ?_
  refine fr_iaddN (pc := 1136) (a := i) (b := 4) d_LW_law_1136 ?_
  refine fr_sld (pc := 1137) (k := (i + 4)) hsc d_LW_law_1137 (by omega) ?_
  refine fr_aload_n (pc := 1138) d_LW_law_1138 rfl rfl ?_
  refine fr_calls (pc := 1139) (nc := nc) (ns := ns) (N := m_LW_explain) (rest := []) (as := [.ref o, .int (xs (i + 1)), .int (xs (i + 2)), .int (xs (i + 3)), .int (xs (i + 4)), .ref out]) d_LW_law_1139 k_LW_explain lk_LW_134 sc_LW_explain np_LW_explain ⟨by decide, by decide, Nat.le_of_ble_eq_true rfl⟩ (Nat.le_of_ble_eq_true rfl) hW (fun v1 u h9 => ?_) (fun C u h9 => by obtain ⟨h1, -⟩ := h9; cases h1) rfl
  obtain ⟨h1, hX2, hmk, f2, ho2, hf2⟩ := h9
  cases h1
  obtain ⟨hmo2, harr2⟩ := lx_self hmk hmo harr
  have eu := fs_X_of_fm hmo2 harr2
  rw [eu]
  refine fr_istore (pc := 1142) (L2 := [(0, .ref b), (1, .ref o), (2, .ref mo), (3, .ref out), (4, .int (nI i)), (5, .int c)]) d_LW_law_1142 (by decide) rfl ?_
  refine fr_aload_n (pc := 1144) d_LW_law_1144 rfl rfl ?_
  refine fr_aload_n (pc := 1145) d_LW_law_1145 rfl rfl ?_
  refine fr_iload (pc := 1146) d_LW_law_1146 rfl ?_
  refine fr_iconst (pc := 1148) (v := 1) d_LW_law_1148 (by decide) ?_
  refine fr_iaddN (pc := 1149) (a := i) (b := 1) d_LW_law_1149 ?_
  refine fr_sld (pc := 1150) (k := (i + 1)) hsc d_LW_law_1150 (by omega) ?_
  refine fr_aload_n (pc := 1151) d_LW_law_1151 rfl rfl ?_
  refine fr_iload (pc := 1152) d_LW_law_1152 rfl ?_
  refine fr_iconst (pc := 1154) (v := 2) d_LW_law_1154 (by decide) ?_
  refine fr_iaddN (pc := 1155) (a := i) (b := 2) d_LW_law_1155 ?_
  refine fr_sld (pc := 1156) (k := (i + 2)) hsc d_LW_law_1156 (by omega) ?_
  refine fr_aload_n (pc := 1157) d_LW_law_1157 rfl rfl ?_
  refine fr_iload (pc := 1158) d_LW_law_1158 rfl ?_
  refine fr_iconst (pc := 1160) (v := 3) d_LW_law_1160 (by decide) ?_
  refine fr_iaddN (pc := 1161) (a := i) (b := 3) d_LW_law_1161 ?_
  refine fr_sld (pc := 1162) (k := (i + 3)) hsc d_LW_law_1162 (by omega) ?_
  refine fr_aload_n (pc := 1163) d_LW_law_1163 rfl rfl ?_
  refine fr_iload (pc := 1164) d_LW_law_1164 rfl ?_
  refine fr_iconst (pc := 1166) (v := 4) d_LW_law_1166 (by decide) ?_
  refine fr_iaddN (pc := 1167) (a := i) (b := 4) d_LW_law_1167 ?_
  refine fr_sld (pc := 1168) (k := (i + 4)) hsc d_LW_law_1168 (by omega) ?_
  refine fr_callV (pc := 1169) (nc := nc) (ns := ns) (N := m_MO_explain) (rest := []) (as := [.int (xs (i + 1)), .int (xs (i + 2)), .int (xs (i + 3)), .int (xs (i + 4))]) d_LW_law_1169 vc_LW_137 ⟨by decide, by decide, Nat.le_of_ble_eq_true rfl⟩ (Nat.le_of_ble_eq_true rfl) fm_mo (hM u th so pl po) rfl (fun v1 u2 h9 => ?_) (fun C u h9 => by obtain ⟨h1, -⟩ := h9; cases h1)
  obtain ⟨h1, so2, pl2, po2, F2, rfl, hc2⟩ := h9
  cases h1
  obtain ⟨hI2, ho3⟩ := lx_next (th := c) (so := so2) (pl := pl2) (po := po2) hX2 hA hmo2 harr2 ho2 hc2
  refine fr_istore (pc := 1172) (L2 := [(0, .ref b), (1, .ref o), (2, .ref mo), (3, .ref out), (4, .int (nI i)), (5, .int c), (6, .int v)]) d_LW_law_1172 (by decide) rfl ?_
  refine fr_aload_n (pc := 1174) d_LW_law_1174 rfl rfl ?_
  refine fr_callv_p (pc := 1175) (nc := nc) (ns := ns) (N := m_MO_thrown) (rest := []) (as := []) d_LW_law_1175 vc_LW_92 ⟨by decide, by decide, Nat.le_of_ble_eq_true rfl⟩ (Nat.le_of_ble_eq_true rfl) fm_mo (c_MO_thrown hA) rfl ?_
  refine fr_iload (pc := 1178) d_LW_law_1178 rfl ?_
  refine fr_icmp_eq (pc := 1180) (tgt := 1185) d_LW_law_1180 (by decide) (fun _ => ?_) (fun z => absurd rfl z)
  refine fr_iload (pc := 1185) d_LW_law_1185 rfl ?_
  refine fr_if_ne (pc := 1187) (tgt := 1202) d_LW_law_1187 (by decide) (fun z => ?_) (fun z => ?_)
  · refine fr_goto (pc := 1202) (tgt := 1665) d_LW_law_1202 (by decide) ?_
    exact fr_Ld (fr_Ld (kk S2 _ hI2))
  · refine fr_aload_n (pc := 1190) d_LW_law_1190 rfl rfl ?_
    refine fr_iconst (pc := 1191) (v := 0) d_LW_law_1191 (by decide) ?_
    refine fr_laldN (pc := 1192) (n := 1) (k := 0) d_LW_law_1192 ho3 (by omega) (by omega) ?_
    refine fr_iload (pc := 1193) d_LW_law_1193 rfl ?_
    refine fr_i2l (pc := 1195) d_LW_law_1195 rfl ?_
    refine fr_lcmp (pc := 1196) d_LW_law_1196 ?_
    refine fr_st (st2 := [.int 0]) (by rw [(bb_cmp2 _ _).mpr (hf2 z)]) ?_
    refine fr_if_eq (pc := 1197) (tgt := 1202) d_LW_law_1197 (by decide) (fun _ => ?_) (fun z => absurd rfl z)
    refine fr_goto (pc := 1202) (tgt := 1665) d_LW_law_1202 (by decide) ?_
    exact fr_Ld (fr_Ld (kk S2 _ hI2))
theorem l_who {g : fw_G} {Post : fw_O → fw_W → Prop} {nc ns : Nat} {b Ls : Nat} {xs : Nat → Int32} (hsc : lx_sc g b Ls xs) {o gr a1 a2 a3 a4 na mo out : Nat} {ar : Nat → Nat} {S : fs_S} {w : fw_W} (hI : lx_I g (o, gr, a1, a2, a3, a4, na) mo ar out S w) {i : Nat} (hi : i + 8 ≤ Ls) (kk : ∀ S2 u, lx_I g (o, gr, a1, a2, a3, a4, na) mo ar out S2 u → fw_R g m_LW_law Post nc ns u 1665 [(0, .ref b), (1, .ref o), (2, .ref mo), (3, .ref out), (4, .int (nI i))] []) : fw_R g m_LW_law Post (nc + 10) (ns + 72) w 1205 [(0, .ref b), (1, .ref o), (2, .ref mo), (3, .ref out), (4, .int (nI i))] [] := by
  obtain ⟨us, n, hu, hg, nd⟩ := S
  obtain ⟨hX, hA, ⟨f, hout⟩, th, so, pl, po, F, hmo, harr, hc⟩ := hI
  have hL := hsc.2.2
  obtain ⟨c, v, S2, hW, hM⟩ := j_who hX hout hA hc (xs (i + 1)) (xs (i + 2)) (xs (i + 3))
  refine fr_nc (nc2 := nc + 3) (ns2 := ns + 18) (by omega) (by omega) ?_
  refine fr_aload_n (pc := 1205) d_LW_law_1205 rfl rfl ?_
  refine fr_aload_n (pc := 1206) d_LW_law_1206 rfl rfl ?_
  refine fr_iload (pc := 1207) d_LW_law_1207 rfl ?_
  refine fr_iconst (pc := 1209) (v := 1) d_LW_law_1209 (by decide) ?_
  refine fr_iaddN (pc := 1210) (a := i) (b := 1) d_LW_law_1210 ?_
  refine fr_sld (pc := 1211) (k := (i + 1)) hsc d_LW_law_1211 (by omega) ?_
  refine fr_aload_n (pc := 1212) d_LW_law_1212 rfl rfl ?_
  refine fr_iload (pc := 1213) d_LW_law_1213 rfl ?_
  refine fr_iconst (pc := 1215) (v := 2) d_LW_law_1215 (by decide) ?_
  refine fr_iaddN (pc := 1216) (a := i) (b := 2) d_LW_law_1216 ?_
  refine fr_sld (pc := 1217) (k := (i + 2)) hsc d_LW_law_1217 (by omega) ?_
  refine fr_aload_n (pc := 1218) d_LW_law_1218 rfl rfl ?_
  refine fr_iload (pc := 1219) d_LW_law_1219 rfl ?_
  refine fr_iconst (pc := 1221) (v := 3) d_LW_law_1221 (by decide) ?_
  refine fr_iaddN (pc := 1222) (a := i) (b := 3) d_LW_law_1222 ?_
  refine fr_sld (pc := 1223) (k := (i + 3)) hsc d_LW_law_1223 (by omega) ?_
  refine fr_aload_n (pc := 1224) d_LW_law_1224 rfl rfl ?_
  refine fr_calls (pc := 1225) (nc := nc) (ns := ns) (N := m_LW_who) (rest := []) (as := [.ref o, .int (xs (i + 1)), .int (xs (i + 2)), .int (xs (i + 3)), .ref out]) d_LW_law_1225 k_LW_who lk_LW_138 sc_LW_who np_LW_who ⟨by decide, by decide, Nat.le_of_ble_eq_true rfl⟩ (Nat.le_of_ble_eq_true rfl) hW (fun v1 u h9 => ?_) (fun C u h9 => by obtain ⟨h1, -⟩ := h9; cases h1) rfl
  obtain ⟨h1, hX2, hmk, f2, ho2, hf2⟩ := h9
  cases h1
  obtain ⟨hmo2, harr2⟩ := lx_self hmk hmo harr
  have eu := fs_X_of_fm hmo2 harr2
  rw [eu]
  refine fr_istore (pc := 1228) (L2 := [(0, .ref b), (1, .ref o), (2, .ref mo), (3, .ref out), (4, .int (nI i)), (5, .int c)]) d_LW_law_1228 (by decide) rfl ?_
  refine fr_aload_n (pc := 1230) d_LW_law_1230 rfl rfl ?_
  refine fr_aload_n (pc := 1231) d_LW_law_1231 rfl rfl ?_
  refine fr_iload (pc := 1232) d_LW_law_1232 rfl ?_
  refine fr_iconst (pc := 1234) (v := 1) d_LW_law_1234 (by decide) ?_
  refine fr_iaddN (pc := 1235) (a := i) (b := 1) d_LW_law_1235 ?_
  refine fr_sld (pc := 1236) (k := (i + 1)) hsc d_LW_law_1236 (by omega) ?_
  refine fr_aload_n (pc := 1237) d_LW_law_1237 rfl rfl ?_
  refine fr_iload (pc := 1238) d_LW_law_1238 rfl ?_
  refine fr_iconst (pc := 1240) (v := 2) d_LW_law_1240 (by decide) ?_
  refine fr_iaddN (pc := 1241) (a := i) (b := 2) d_LW_law_1241 ?_
  refine fr_sld (pc := 1242) (k := (i + 2)) hsc d_LW_law_1242 (by omega) ?_
  refine fr_aload_n (pc := 1243) d_LW_law_1243 rfl rfl ?_
  refine fr_iload (pc := 1244) d_LW_law_1244 rfl ?_
  refine fr_iconst (pc := 1246) (v := 3) d_LW_law_1246 (by decide) ?_
  refine fr_iaddN (pc := 1247) (a := i) (b := 3) d_LW_law_1247 ?_
  refine fr_sld (pc := 1248) (k := (i + 3)) hsc d_LW_law_1248 (by omega) ?_
  refine fr_callV (pc := 1249) (nc := nc) (ns := ns) (N := m_MO_who) (rest := []) (as := [.int (xs (i + 1)), .int (xs (i + 2)), .int (xs (i + 3))]) d_LW_law_1249 vc_LW_141 ⟨by decide, by decide, Nat.le_of_ble_eq_true rfl⟩ (Nat.le_of_ble_eq_true rfl) fm_mo (hM u th so pl po) rfl (fun v1 u2 h9 => ?_) (fun C u h9 => by obtain ⟨h1, -⟩ := h9; cases h1)
  obtain ⟨h1, so2, pl2, po2, F2, rfl, hc2⟩ := h9
  cases h1
  obtain ⟨hI2, ho3⟩ := lx_next (th := c) (so := so2) (pl := pl2) (po := po2) hX2 hA hmo2 harr2 ho2 hc2
  refine fr_istore (pc := 1252) (L2 := [(0, .ref b), (1, .ref o), (2, .ref mo), (3, .ref out), (4, .int (nI i)), (5, .int c), (6, .int v)]) d_LW_law_1252 (by decide) rfl ?_
  refine fr_aload_n (pc := 1254) d_LW_law_1254 rfl rfl ?_
  refine fr_callv_p (pc := 1255) (nc := nc) (ns := ns) (N := m_MO_thrown) (rest := []) (as := []) d_LW_law_1255 vc_LW_92 ⟨by decide, by decide, Nat.le_of_ble_eq_true rfl⟩ (Nat.le_of_ble_eq_true rfl) fm_mo (c_MO_thrown hA) rfl ?_
  refine fr_iload (pc := 1258) d_LW_law_1258 rfl ?_
  refine fr_icmp_eq (pc := 1260) (tgt := 1265) d_LW_law_1260 (by decide) (fun _ => ?_) (fun z => absurd rfl z)
  refine fr_iload (pc := 1265) d_LW_law_1265 rfl ?_
  refine fr_if_ne (pc := 1267) (tgt := 1282) d_LW_law_1267 (by decide) (fun z => ?_) (fun z => ?_)
  · refine fr_goto (pc := 1282) (tgt := 1665) d_LW_law_1282 (by decide) ?_
    exact fr_Ld (fr_Ld (kk S2 _ hI2))
  · refine fr_aload_n (pc := 1270) d_LW_law_1270 rfl rfl ?_
    refine fr_iconst (pc := 1271) (v := 0) d_LW_law_1271 (by decide) ?_
    refine fr_laldN (pc := 1272) (n := 1) (k := 0) d_LW_law_1272 ho3 (by omega) (by omega) ?_
    refine fr_iload (pc := 1273) d_LW_law_1273 rfl ?_
    refine fr_i2l (pc := 1275) d_LW_law_1275 rfl ?_
    refine fr_lcmp (pc := 1276) d_LW_law_1276 ?_
    refine fr_st (st2 := [.int 0]) (by rw [(bb_cmp2 _ _).mpr (hf2 z)]) ?_
    refine fr_if_eq (pc := 1277) (tgt := 1282) d_LW_law_1277 (by decide) (fun _ => ?_) (fun z => absurd rfl z)
    refine fr_goto (pc := 1282) (tgt := 1665) d_LW_law_1282 (by decide) ?_
    exact fr_Ld (fr_Ld (kk S2 _ hI2))
theorem l_where {g : fw_G} {Post : fw_O → fw_W → Prop} {nc ns : Nat} {b Ls : Nat} {xs : Nat → Int32} (hsc : lx_sc g b Ls xs) {o gr a1 a2 a3 a4 na mo out : Nat} {ar : Nat → Nat} {S : fs_S} {w : fw_W} (hI : lx_I g (o, gr, a1, a2, a3, a4, na) mo ar out S w) {i : Nat} (hi : i + 8 ≤ Ls) (kk : ∀ S2 u, lx_I g (o, gr, a1, a2, a3, a4, na) mo ar out S2 u → fw_R g m_LW_law Post nc ns u 1665 [(0, .ref b), (1, .ref o), (2, .ref mo), (3, .ref out), (4, .int (nI i))] []) : fw_R g m_LW_law Post (nc + 10) (ns + 72) w 1285 [(0, .ref b), (1, .ref o), (2, .ref mo), (3, .ref out), (4, .int (nI i))] [] := by
  obtain ⟨us, n, hu, hg, nd⟩ := S
  obtain ⟨hX, hA, ⟨f, hout⟩, th, so, pl, po, F, hmo, harr, hc⟩ := hI
  have hL := hsc.2.2
  obtain ⟨c, v, S2, hW, hM⟩ := j_where hX hout hA hc (xs (i + 1)) (xs (i + 2)) (xs (i + 3))
  refine fr_nc (nc2 := nc + 3) (ns2 := ns + 18) (by omega) (by omega) ?_
  refine fr_aload_n (pc := 1285) d_LW_law_1285 rfl rfl ?_
  refine fr_aload_n (pc := 1286) d_LW_law_1286 rfl rfl ?_
  refine fr_iload (pc := 1287) d_LW_law_1287 rfl ?_
  refine fr_iconst (pc := 1289) (v := 1) d_LW_law_1289 (by decide) ?_
  refine fr_iaddN (pc := 1290) (a := i) (b := 1) d_LW_law_1290 ?_
  refine fr_sld (pc := 1291) (k := (i + 1)) hsc d_LW_law_1291 (by omega) ?_
  refine fr_aload_n (pc := 1292) d_LW_law_1292 rfl rfl ?_
  refine fr_iload (pc := 1293) d_LW_law_1293 rfl ?_
  refine fr_iconst (pc := 1295) (v := 2) d_LW_law_1295 (by decide) ?_
  refine fr_iaddN (pc := 1296) (a := i) (b := 2) d_LW_law_1296 ?_
  refine fr_sld (pc := 1297) (k := (i + 2)) hsc d_LW_law_1297 (by omega) ?_
  refine fr_aload_n (pc := 1298) d_LW_law_1298 rfl rfl ?_
  refine fr_iload (pc := 1299) d_LW_law_1299 rfl ?_
  refine fr_iconst (pc := 1301) (v := 3) d_LW_law_1301 (by decide) ?_
  refine fr_iaddN (pc := 1302) (a := i) (b := 3) d_LW_law_1302 ?_
  refine fr_sld (pc := 1303) (k := (i + 3)) hsc d_LW_law_1303 (by omega) ?_
  refine fr_aload_n (pc := 1304) d_LW_law_1304 rfl rfl ?_
  refine fr_calls (pc := 1305) (nc := nc) (ns := ns) (N := m_LW_where) (rest := []) (as := [.ref o, .int (xs (i + 1)), .int (xs (i + 2)), .int (xs (i + 3)), .ref out]) d_LW_law_1305 k_LW_where lk_LW_142 sc_LW_where np_LW_where ⟨by decide, by decide, Nat.le_of_ble_eq_true rfl⟩ (Nat.le_of_ble_eq_true rfl) hW (fun v1 u h9 => ?_) (fun C u h9 => by obtain ⟨h1, -⟩ := h9; cases h1) rfl
  obtain ⟨h1, hX2, hmk, f2, ho2, hf2⟩ := h9
  cases h1
  obtain ⟨hmo2, harr2⟩ := lx_self hmk hmo harr
  have eu := fs_X_of_fm hmo2 harr2
  rw [eu]
  refine fr_istore (pc := 1308) (L2 := [(0, .ref b), (1, .ref o), (2, .ref mo), (3, .ref out), (4, .int (nI i)), (5, .int c)]) d_LW_law_1308 (by decide) rfl ?_
  refine fr_aload_n (pc := 1310) d_LW_law_1310 rfl rfl ?_
  refine fr_aload_n (pc := 1311) d_LW_law_1311 rfl rfl ?_
  refine fr_iload (pc := 1312) d_LW_law_1312 rfl ?_
  refine fr_iconst (pc := 1314) (v := 1) d_LW_law_1314 (by decide) ?_
  refine fr_iaddN (pc := 1315) (a := i) (b := 1) d_LW_law_1315 ?_
  refine fr_sld (pc := 1316) (k := (i + 1)) hsc d_LW_law_1316 (by omega) ?_
  refine fr_aload_n (pc := 1317) d_LW_law_1317 rfl rfl ?_
  refine fr_iload (pc := 1318) d_LW_law_1318 rfl ?_
  refine fr_iconst (pc := 1320) (v := 2) d_LW_law_1320 (by decide) ?_
  refine fr_iaddN (pc := 1321) (a := i) (b := 2) d_LW_law_1321 ?_
  refine fr_sld (pc := 1322) (k := (i + 2)) hsc d_LW_law_1322 (by omega) ?_
  refine fr_aload_n (pc := 1323) d_LW_law_1323 rfl rfl ?_
  refine fr_iload (pc := 1324) d_LW_law_1324 rfl ?_
  refine fr_iconst (pc := 1326) (v := 3) d_LW_law_1326 (by decide) ?_
  refine fr_iaddN (pc := 1327) (a := i) (b := 3) d_LW_law_1327 ?_
  refine fr_sld (pc := 1328) (k := (i + 3)) hsc d_LW_law_1328 (by omega) ?_
  refine fr_callV (pc := 1329) (nc := nc) (ns := ns) (N := m_MO_where) (rest := []) (as := [.int (xs (i + 1)), .int (xs (i + 2)), .int (xs (i + 3))]) d_LW_law_1329 vc_LW_144 ⟨by decide, by decide, Nat.le_of_ble_eq_true rfl⟩ (Nat.le_of_ble_eq_true rfl) fm_mo (hM u th so pl po) rfl (fun v1 u2 h9 => ?_) (fun C u h9 => by obtain ⟨h1, -⟩ := h9; cases h1)
  obtain ⟨h1, so2, pl2, po2, F2, rfl, hc2⟩ := h9
  cases h1
  obtain ⟨hI2, ho3⟩ := lx_next (th := c) (so := so2) (pl := pl2) (po := po2) hX2 hA hmo2 harr2 ho2 hc2
  refine fr_istore (pc := 1332) (L2 := [(0, .ref b), (1, .ref o), (2, .ref mo), (3, .ref out), (4, .int (nI i)), (5, .int c), (6, .int v)]) d_LW_law_1332 (by decide) rfl ?_
  refine fr_aload_n (pc := 1334) d_LW_law_1334 rfl rfl ?_
  refine fr_callv_p (pc := 1335) (nc := nc) (ns := ns) (N := m_MO_thrown) (rest := []) (as := []) d_LW_law_1335 vc_LW_92 ⟨by decide, by decide, Nat.le_of_ble_eq_true rfl⟩ (Nat.le_of_ble_eq_true rfl) fm_mo (c_MO_thrown hA) rfl ?_
  refine fr_iload (pc := 1338) d_LW_law_1338 rfl ?_
  refine fr_icmp_eq (pc := 1340) (tgt := 1345) d_LW_law_1340 (by decide) (fun _ => ?_) (fun z => absurd rfl z)
  refine fr_iload (pc := 1345) d_LW_law_1345 rfl ?_
  refine fr_if_ne (pc := 1347) (tgt := 1362) d_LW_law_1347 (by decide) (fun z => ?_) (fun z => ?_)
  · refine fr_goto (pc := 1362) (tgt := 1665) d_LW_law_1362 (by decide) ?_
    exact fr_Ld (fr_Ld (kk S2 _ hI2))
  · refine fr_aload_n (pc := 1350) d_LW_law_1350 rfl rfl ?_
    refine fr_iconst (pc := 1351) (v := 0) d_LW_law_1351 (by decide) ?_
    refine fr_laldN (pc := 1352) (n := 1) (k := 0) d_LW_law_1352 ho3 (by omega) (by omega) ?_
    refine fr_iload (pc := 1353) d_LW_law_1353 rfl ?_
    refine fr_i2l (pc := 1355) d_LW_law_1355 rfl ?_
    refine fr_lcmp (pc := 1356) d_LW_law_1356 ?_
    refine fr_st (st2 := [.int 0]) (by rw [(bb_cmp2 _ _).mpr (hf2 z)]) ?_
    refine fr_if_eq (pc := 1357) (tgt := 1362) d_LW_law_1357 (by decide) (fun _ => ?_) (fun z => absurd rfl z)
    refine fr_goto (pc := 1362) (tgt := 1665) d_LW_law_1362 (by decide) ?_
    exact fr_Ld (fr_Ld (kk S2 _ hI2))
theorem l_same {g : fw_G} {Post : fw_O → fw_W → Prop} {nc ns : Nat} {b Ls : Nat} {xs : Nat → Int32} (hsc : lx_sc g b Ls xs) {o gr a1 a2 a3 a4 na mo out : Nat} {ar : Nat → Nat} {S : fs_S} {w : fw_W} (hI : lx_I g (o, gr, a1, a2, a3, a4, na) mo ar out S w) {i : Nat} (hi : i + 8 ≤ Ls) (kk : ∀ S2 u, lx_I g (o, gr, a1, a2, a3, a4, na) mo ar out S2 u → fw_R g m_LW_law Post nc ns u 1665 [(0, .ref b), (1, .ref o), (2, .ref mo), (3, .ref out), (4, .int (nI i))] []) : fw_R g m_LW_law Post (nc + 10) (ns + 72) w 1365 [(0, .ref b), (1, .ref o), (2, .ref mo), (3, .ref out), (4, .int (nI i))] [] := by
  obtain ⟨us, n, hu, hg, nd⟩ := S
  obtain ⟨hX, hA, ⟨f, hout⟩, th, so, pl, po, F, hmo, harr, hc⟩ := hI
  have hL := hsc.2.2
  obtain ⟨c, v, S2, hW, hM⟩ := j_same hX hout hA hc (xs (i + 1)) (xs (i + 2))
  refine fr_nc (nc2 := nc + 2) (ns2 := ns + 12) (by omega) (by omega) ?_
  refine fr_aload_n (pc := 1365) d_LW_law_1365 rfl rfl ?_
  refine fr_aload_n (pc := 1366) d_LW_law_1366 rfl rfl ?_
  refine fr_iload (pc := 1367) d_LW_law_1367 rfl ?_
  refine fr_iconst (pc := 1369) (v := 1) d_LW_law_1369 (by decide) ?_
  refine fr_iaddN (pc := 1370) (a := i) (b := 1) d_LW_law_1370 ?_
  refine fr_sld (pc := 1371) (k := (i + 1)) hsc d_LW_law_1371 (by omega) ?_
  refine fr_aload_n (pc := 1372) d_LW_law_1372 rfl rfl ?_
  refine fr_iload (pc := 1373) d_LW_law_1373 rfl ?_
  refine fr_iconst (pc := 1375) (v := 2) d_LW_law_1375 (by decide) ?_
  refine fr_iaddN (pc := 1376) (a := i) (b := 2) d_LW_law_1376 ?_
  refine fr_sld (pc := 1377) (k := (i + 2)) hsc d_LW_law_1377 (by omega) ?_
  refine fr_aload_n (pc := 1378) d_LW_law_1378 rfl rfl ?_
  refine fr_calls (pc := 1379) (nc := nc) (ns := ns) (N := m_LW_same) (rest := []) (as := [.ref o, .int (xs (i + 1)), .int (xs (i + 2)), .ref out]) d_LW_law_1379 k_LW_same lk_LW_145 sc_LW_same np_LW_same ⟨by decide, by decide, Nat.le_of_ble_eq_true rfl⟩ (Nat.le_of_ble_eq_true rfl) hW (fun v1 u h9 => ?_) (fun C u h9 => by obtain ⟨h1, -⟩ := h9; cases h1) rfl
  obtain ⟨h1, hX2, hmk, f2, ho2, hf2⟩ := h9
  cases h1
  obtain ⟨hmo2, harr2⟩ := lx_self hmk hmo harr
  have eu := fs_X_of_fm hmo2 harr2
  rw [eu]
  refine fr_istore (pc := 1382) (L2 := [(0, .ref b), (1, .ref o), (2, .ref mo), (3, .ref out), (4, .int (nI i)), (5, .int c)]) d_LW_law_1382 (by decide) rfl ?_
  refine fr_aload_n (pc := 1384) d_LW_law_1384 rfl rfl ?_
  refine fr_aload_n (pc := 1385) d_LW_law_1385 rfl rfl ?_
  refine fr_iload (pc := 1386) d_LW_law_1386 rfl ?_
  refine fr_iconst (pc := 1388) (v := 1) d_LW_law_1388 (by decide) ?_
  refine fr_iaddN (pc := 1389) (a := i) (b := 1) d_LW_law_1389 ?_
  refine fr_sld (pc := 1390) (k := (i + 1)) hsc d_LW_law_1390 (by omega) ?_
  refine fr_aload_n (pc := 1391) d_LW_law_1391 rfl rfl ?_
  refine fr_iload (pc := 1392) d_LW_law_1392 rfl ?_
  refine fr_iconst (pc := 1394) (v := 2) d_LW_law_1394 (by decide) ?_
  refine fr_iaddN (pc := 1395) (a := i) (b := 2) d_LW_law_1395 ?_
  refine fr_sld (pc := 1396) (k := (i + 2)) hsc d_LW_law_1396 (by omega) ?_
  refine fr_callV (pc := 1397) (nc := nc) (ns := ns) (N := m_MO_same) (rest := []) (as := [.int (xs (i + 1)), .int (xs (i + 2))]) d_LW_law_1397 vc_LW_147 ⟨by decide, by decide, Nat.le_of_ble_eq_true rfl⟩ (Nat.le_of_ble_eq_true rfl) fm_mo (hM u th so pl po) rfl (fun v1 u2 h9 => ?_) (fun C u h9 => by obtain ⟨h1, -⟩ := h9; cases h1)
  obtain ⟨h1, so2, pl2, po2, F2, rfl, hc2⟩ := h9
  cases h1
  obtain ⟨hI2, ho3⟩ := lx_next (th := c) (so := so2) (pl := pl2) (po := po2) hX2 hA hmo2 harr2 ho2 hc2
  refine fr_istore (pc := 1400) (L2 := [(0, .ref b), (1, .ref o), (2, .ref mo), (3, .ref out), (4, .int (nI i)), (5, .int c), (6, .int (bI v))]) d_LW_law_1400 (by decide) rfl ?_
  refine fr_aload_n (pc := 1402) d_LW_law_1402 rfl rfl ?_
  refine fr_callv_p (pc := 1403) (nc := nc) (ns := ns) (N := m_MO_thrown) (rest := []) (as := []) d_LW_law_1403 vc_LW_92 ⟨by decide, by decide, Nat.le_of_ble_eq_true rfl⟩ (Nat.le_of_ble_eq_true rfl) fm_mo (c_MO_thrown hA) rfl ?_
  refine fr_iload (pc := 1406) d_LW_law_1406 rfl ?_
  refine fr_icmp_eq (pc := 1408) (tgt := 1413) d_LW_law_1408 (by decide) (fun _ => ?_) (fun z => absurd rfl z)
  refine fr_iload (pc := 1413) d_LW_law_1413 rfl ?_
  refine fr_if_ne (pc := 1415) (tgt := 1437) d_LW_law_1415 (by decide) (fun z => ?_) (fun z => ?_)
  · refine fr_goto (pc := 1437) (tgt := 1665) d_LW_law_1437 (by decide) ?_
    exact fr_Ld (fr_Ld (kk S2 _ hI2))
  · refine fr_aload_n (pc := 1418) d_LW_law_1418 rfl rfl ?_
    refine fr_iconst (pc := 1419) (v := 0) d_LW_law_1419 (by decide) ?_
    refine fr_laldN (pc := 1420) (n := 1) (k := 0) d_LW_law_1420 ho3 (by omega) (by omega) ?_
    refine fr_iload (pc := 1421) d_LW_law_1421 rfl ?_
    refine fr_nzl (pc := 1423) 1426 1427 1430 rfl rfl rfl d_LW_law_1423 d_LW_law_1426 d_LW_law_1427 d_LW_law_1430 ?_
    refine fr_lcmp (pc := 1431) d_LW_law_1431 ?_
    refine fr_st (st2 := [.int 0]) (by rw [(bb_cmp2 _ _).mpr (hf2 z)]) ?_
    refine fr_if_eq (pc := 1432) (tgt := 1437) d_LW_law_1432 (by decide) (fun _ => ?_) (fun z => absurd rfl z)
    refine fr_goto (pc := 1437) (tgt := 1665) d_LW_law_1437 (by decide) ?_
    exact fr_Ld (fr_Ld (kk S2 _ hI2))
theorem l_step {g : fw_G} {Post : fw_O → fw_W → Prop} {nc ns : Nat} {b Ls : Nat} {xs : Nat → Int32} (hsc : lx_sc g b Ls xs) {o gr a1 a2 a3 a4 na mo out : Nat} {ar : Nat → Nat} {S : fs_S} {w : fw_W} (hI : lx_I g (o, gr, a1, a2, a3, a4, na) mo ar out S w) {i : Nat} (hi : i + 8 ≤ Ls) (kk : ∀ S2 u, lx_I g (o, gr, a1, a2, a3, a4, na) mo ar out S2 u → fw_R g m_LW_law Post nc ns u 1665 [(0, .ref b), (1, .ref o), (2, .ref mo), (3, .ref out), (4, .int (nI i))] []) : fw_R g m_LW_law Post (nc + 10) (ns + 72) w 1440 [(0, .ref b), (1, .ref o), (2, .ref mo), (3, .ref out), (4, .int (nI i))] [] := by
  obtain ⟨us, n, hu, hg, nd⟩ := S
  obtain ⟨hX, hA, ⟨f, hout⟩, th, so, pl, po, F, hmo, harr, hc⟩ := hI
  have hL := hsc.2.2
  obtain ⟨v, S2, hW, hM⟩ := j_step hX hA hc
  obtain ⟨fs0, h0⟩ := lx_o hX
  refine fr_nc (nc2 := nc + 0) (ns2 := ns + 0) (by omega) (by omega) ?_
  refine fr_aload_n (pc := 1440) d_LW_law_1440 rfl rfl ?_
  refine fr_callV (pc := 1441) (nc := nc) (ns := ns) (N := m_FR_step) (rest := []) (as := []) d_LW_law_1441 vc_LW_148 ⟨by decide, by decide, Nat.le_of_ble_eq_true rfl⟩ (Nat.le_of_ble_eq_true rfl) h0 hW rfl (fun v1 u h9 => ?_) (fun C u h9 => by obtain ⟨h1, -⟩ := h9; cases h1)
  obtain ⟨h1, hX2, hF⟩ := h9
  cases h1
  have ho2 := lx_Fr_lo hX hF hout
  obtain ⟨hmo2, harr2⟩ := lx_self (lx_Fr_mk hX hF) hmo harr
  have eu := fs_X_of_fm hmo2 harr2
  rw [eu]
  refine fr_aload_n (pc := 1444) d_LW_law_1444 rfl rfl ?_
  refine fr_callV (pc := 1445) (nc := nc) (ns := ns) (N := m_MO_step) (rest := [.int v]) (as := []) d_LW_law_1445 vc_LW_151 ⟨by decide, by decide, Nat.le_of_ble_eq_true rfl⟩ (Nat.le_of_ble_eq_true rfl) fm_mo (hM u th so pl po) rfl (fun v1 u2 h9 => ?_) (fun C u h9 => by obtain ⟨h1, -⟩ := h9; cases h1)
  obtain ⟨h1, so2, pl2, po2, F2, rfl, hc2⟩ := h9
  cases h1
  have hI2 := (lx_next (th := 0) (so := so2) (pl := pl2) (po := po2) hX2 hA hmo2 harr2 ho2 hc2).1
  exact fr_icmp_eq (pc := 1448) (tgt := 1665) d_LW_law_1448 (by decide) (fun _ => kk S2 _ hI2) (fun z => absurd rfl z)
theorem l_stale {g : fw_G} {Post : fw_O → fw_W → Prop} {nc ns : Nat} {b Ls : Nat} {xs : Nat → Int32} (hsc : lx_sc g b Ls xs) {o gr a1 a2 a3 a4 na mo out : Nat} {ar : Nat → Nat} {S : fs_S} {w : fw_W} (hI : lx_I g (o, gr, a1, a2, a3, a4, na) mo ar out S w) {i : Nat} (hi : i + 8 ≤ Ls) (kk : ∀ S2 u, lx_I g (o, gr, a1, a2, a3, a4, na) mo ar out S2 u → fw_R g m_LW_law Post nc ns u 1665 [(0, .ref b), (1, .ref o), (2, .ref mo), (3, .ref out), (4, .int (nI i))] []) : fw_R g m_LW_law Post (nc + 10) (ns + 72) w 1453 [(0, .ref b), (1, .ref o), (2, .ref mo), (3, .ref out), (4, .int (nI i))] [] := by
  obtain ⟨us, n, hu, hg, nd⟩ := S
  obtain ⟨hX, hA, ⟨f, hout⟩, th, so, pl, po, F, hmo, harr, hc⟩ := hI
  have hL := hsc.2.2
  obtain ⟨v, S2, hW, hM⟩ := j_stale hX hA hc
  obtain ⟨fs0, h0⟩ := lx_o hX
  refine fr_nc (nc2 := nc + 0) (ns2 := ns + 0) (by omega) (by omega) ?_
  refine fr_aload_n (pc := 1453) d_LW_law_1453 rfl rfl ?_
  refine fr_callV (pc := 1454) (nc := nc) (ns := ns) (N := m_FR_stale) (rest := []) (as := []) d_LW_law_1454 vc_LW_152 ⟨by decide, by decide, Nat.le_of_ble_eq_true rfl⟩ (Nat.le_of_ble_eq_true rfl) h0 hW rfl (fun v1 u h9 => ?_) (fun C u h9 => by obtain ⟨h1, -⟩ := h9; cases h1)
  obtain ⟨h1, hX2, hF⟩ := h9
  cases h1
  have ho2 := lx_Fr_lo hX hF hout
  obtain ⟨hmo2, harr2⟩ := lx_self (lx_Fr_mk hX hF) hmo harr
  have eu := fs_X_of_fm hmo2 harr2
  rw [eu]
  refine fr_aload_n (pc := 1457) d_LW_law_1457 rfl rfl ?_
  refine fr_callV (pc := 1458) (nc := nc) (ns := ns) (N := m_MO_stale) (rest := [.int v]) (as := []) d_LW_law_1458 vc_LW_155 ⟨by decide, by decide, Nat.le_of_ble_eq_true rfl⟩ (Nat.le_of_ble_eq_true rfl) fm_mo (hM u th so pl po) rfl (fun v1 u2 h9 => ?_) (fun C u h9 => by obtain ⟨h1, -⟩ := h9; cases h1)
  obtain ⟨h1, so2, pl2, po2, F2, rfl, hc2⟩ := h9
  cases h1
  have hI2 := (lx_next (th := 0) (so := so2) (pl := pl2) (po := po2) hX2 hA hmo2 harr2 ho2 hc2).1
  exact fr_icmp_eq (pc := 1461) (tgt := 1665) d_LW_law_1461 (by decide) (fun _ => kk S2 _ hI2) (fun z => absurd rfl z)
theorem l_in {g : fw_G} {Post : fw_O → fw_W → Prop} {nc ns : Nat} {b Ls : Nat} {xs : Nat → Int32} (hsc : lx_sc g b Ls xs) {o gr a1 a2 a3 a4 na mo out : Nat} {ar : Nat → Nat} {S : fs_S} {w : fw_W} (hI : lx_I g (o, gr, a1, a2, a3, a4, na) mo ar out S w) {i : Nat} (hi : i + 8 ≤ Ls) (kk : ∀ S2 u, lx_I g (o, gr, a1, a2, a3, a4, na) mo ar out S2 u → fw_R g m_LW_law Post nc ns u 1665 [(0, .ref b), (1, .ref o), (2, .ref mo), (3, .ref out), (4, .int (nI i))] []) : fw_R g m_LW_law Post (nc + 10) (ns + 72) w 1466 [(0, .ref b), (1, .ref o), (2, .ref mo), (3, .ref out), (4, .int (nI i))] [] := by
  obtain ⟨us, n, hu, hg, nd⟩ := S
  obtain ⟨hX, hA, ⟨f, hout⟩, th, so, pl, po, F, hmo, harr, hc⟩ := hI
  have hL := hsc.2.2
  obtain ⟨c, v, S2, hW, hM⟩ := j_in hX hout hA hc (xs (i + 1)) (xs (i + 2))
  refine fr_nc (nc2 := nc + 2) (ns2 := ns + 12) (by omega) (by omega) ?_
  refine fr_aload_n (pc := 1466) d_LW_law_1466 rfl rfl ?_
  refine fr_aload_n (pc := 1467) d_LW_law_1467 rfl rfl ?_
  refine fr_iload (pc := 1468) d_LW_law_1468 rfl ?_
  refine fr_iconst (pc := 1470) (v := 1) d_LW_law_1470 (by decide) ?_
  refine fr_iaddN (pc := 1471) (a := i) (b := 1) d_LW_law_1471 ?_
  refine fr_sld (pc := 1472) (k := (i + 1)) hsc d_LW_law_1472 (by omega) ?_
  refine fr_aload_n (pc := 1473) d_LW_law_1473 rfl rfl ?_
  refine fr_iload (pc := 1474) d_LW_law_1474 rfl ?_
  refine fr_iconst (pc := 1476) (v := 2) d_LW_law_1476 (by decide) ?_
  refine fr_iaddN (pc := 1477) (a := i) (b := 2) d_LW_law_1477 ?_
  refine fr_sld (pc := 1478) (k := (i + 2)) hsc d_LW_law_1478 (by omega) ?_
  refine fr_aload_n (pc := 1479) d_LW_law_1479 rfl rfl ?_
  refine fr_calls (pc := 1480) (nc := nc) (ns := ns) (N := m_LW_in) (rest := []) (as := [.ref o, .int (xs (i + 1)), .int (xs (i + 2)), .ref out]) d_LW_law_1480 k_LW_in lk_LW_156 sc_LW_in np_LW_in ⟨by decide, by decide, Nat.le_of_ble_eq_true rfl⟩ (Nat.le_of_ble_eq_true rfl) hW (fun v1 u h9 => ?_) (fun C u h9 => by obtain ⟨h1, -⟩ := h9; cases h1) rfl
  obtain ⟨h1, hX2, hmk, f2, ho2, hf2⟩ := h9
  cases h1
  obtain ⟨hmo2, harr2⟩ := lx_self hmk hmo harr
  have eu := fs_X_of_fm hmo2 harr2
  rw [eu]
  refine fr_istore (pc := 1483) (L2 := [(0, .ref b), (1, .ref o), (2, .ref mo), (3, .ref out), (4, .int (nI i)), (5, .int c)]) d_LW_law_1483 (by decide) rfl ?_
  refine fr_aload_n (pc := 1485) d_LW_law_1485 rfl rfl ?_
  refine fr_aload_n (pc := 1486) d_LW_law_1486 rfl rfl ?_
  refine fr_iload (pc := 1487) d_LW_law_1487 rfl ?_
  refine fr_iconst (pc := 1489) (v := 1) d_LW_law_1489 (by decide) ?_
  refine fr_iaddN (pc := 1490) (a := i) (b := 1) d_LW_law_1490 ?_
  refine fr_sld (pc := 1491) (k := (i + 1)) hsc d_LW_law_1491 (by omega) ?_
  refine fr_aload_n (pc := 1492) d_LW_law_1492 rfl rfl ?_
  refine fr_iload (pc := 1493) d_LW_law_1493 rfl ?_
  refine fr_iconst (pc := 1495) (v := 2) d_LW_law_1495 (by decide) ?_
  refine fr_iaddN (pc := 1496) (a := i) (b := 2) d_LW_law_1496 ?_
  refine fr_sld (pc := 1497) (k := (i + 2)) hsc d_LW_law_1497 (by omega) ?_
  refine fr_callV (pc := 1498) (nc := nc) (ns := ns) (N := m_MO_in) (rest := []) (as := [.int (xs (i + 1)), .int (xs (i + 2))]) d_LW_law_1498 vc_LW_158 ⟨by decide, by decide, Nat.le_of_ble_eq_true rfl⟩ (Nat.le_of_ble_eq_true rfl) fm_mo (hM u th so pl po) rfl (fun v1 u2 h9 => ?_) (fun C u h9 => by obtain ⟨h1, -⟩ := h9; cases h1)
  obtain ⟨h1, so2, pl2, po2, F2, rfl, hc2⟩ := h9
  cases h1
  obtain ⟨hI2, ho3⟩ := lx_next (th := c) (so := so2) (pl := pl2) (po := po2) hX2 hA hmo2 harr2 ho2 hc2
  refine fr_istore (pc := 1501) (L2 := [(0, .ref b), (1, .ref o), (2, .ref mo), (3, .ref out), (4, .int (nI i)), (5, .int c), (6, .int (bI v))]) d_LW_law_1501 (by decide) rfl ?_
  refine fr_aload_n (pc := 1503) d_LW_law_1503 rfl rfl ?_
  refine fr_callv_p (pc := 1504) (nc := nc) (ns := ns) (N := m_MO_thrown) (rest := []) (as := []) d_LW_law_1504 vc_LW_92 ⟨by decide, by decide, Nat.le_of_ble_eq_true rfl⟩ (Nat.le_of_ble_eq_true rfl) fm_mo (c_MO_thrown hA) rfl ?_
  refine fr_iload (pc := 1507) d_LW_law_1507 rfl ?_
  refine fr_icmp_eq (pc := 1509) (tgt := 1514) d_LW_law_1509 (by decide) (fun _ => ?_) (fun z => absurd rfl z)
  refine fr_iload (pc := 1514) d_LW_law_1514 rfl ?_
  refine fr_if_ne (pc := 1516) (tgt := 1538) d_LW_law_1516 (by decide) (fun z => ?_) (fun z => ?_)
  · refine fr_goto (pc := 1538) (tgt := 1665) d_LW_law_1538 (by decide) ?_
    exact fr_Ld (fr_Ld (kk S2 _ hI2))
  · refine fr_aload_n (pc := 1519) d_LW_law_1519 rfl rfl ?_
    refine fr_iconst (pc := 1520) (v := 0) d_LW_law_1520 (by decide) ?_
    refine fr_laldN (pc := 1521) (n := 1) (k := 0) d_LW_law_1521 ho3 (by omega) (by omega) ?_
    refine fr_iload (pc := 1522) d_LW_law_1522 rfl ?_
    refine fr_nzl (pc := 1524) 1527 1528 1531 rfl rfl rfl d_LW_law_1524 d_LW_law_1527 d_LW_law_1528 d_LW_law_1531 ?_
    refine fr_lcmp (pc := 1532) d_LW_law_1532 ?_
    refine fr_st (st2 := [.int 0]) (by rw [(bb_cmp2 _ _).mpr (hf2 z)]) ?_
    refine fr_if_eq (pc := 1533) (tgt := 1538) d_LW_law_1533 (by decide) (fun _ => ?_) (fun z => absurd rfl z)
    refine fr_goto (pc := 1538) (tgt := 1665) d_LW_law_1538 (by decide) ?_
    exact fr_Ld (fr_Ld (kk S2 _ hI2))
theorem l_about {g : fw_G} {Post : fw_O → fw_W → Prop} {nc ns : Nat} {b Ls : Nat} {xs : Nat → Int32} (hsc : lx_sc g b Ls xs) {o gr a1 a2 a3 a4 na mo out : Nat} {ar : Nat → Nat} {S : fs_S} {w : fw_W} (hI : lx_I g (o, gr, a1, a2, a3, a4, na) mo ar out S w) {i : Nat} (hi : i + 8 ≤ Ls) (kk : ∀ S2 u, lx_I g (o, gr, a1, a2, a3, a4, na) mo ar out S2 u → fw_R g m_LW_law Post nc ns u 1665 [(0, .ref b), (1, .ref o), (2, .ref mo), (3, .ref out), (4, .int (nI i))] []) : fw_R g m_LW_law Post (nc + 10) (ns + 72) w 1541 [(0, .ref b), (1, .ref o), (2, .ref mo), (3, .ref out), (4, .int (nI i))] [] := by
  obtain ⟨us, n, hu, hg, nd⟩ := S
  obtain ⟨hX, hA, ⟨f, hout⟩, th, so, pl, po, F, hmo, harr, hc⟩ := hI
  have hL := hsc.2.2
  obtain ⟨c, v, S2, hW, hM⟩ := j_about hX hout hA hc (xs (i + 1)) (xs (i + 2))
  refine fr_nc (nc2 := nc + 2) (ns2 := ns + 12) (by omega) (by omega) ?_
  refine fr_aload_n (pc := 1541) d_LW_law_1541 rfl rfl ?_
  refine fr_aload_n (pc := 1542) d_LW_law_1542 rfl rfl ?_
  refine fr_iload (pc := 1543) d_LW_law_1543 rfl ?_
  refine fr_iconst (pc := 1545) (v := 1) d_LW_law_1545 (by decide) ?_
  refine fr_iaddN (pc := 1546) (a := i) (b := 1) d_LW_law_1546 ?_
  refine fr_sld (pc := 1547) (k := (i + 1)) hsc d_LW_law_1547 (by omega) ?_
  refine fr_aload_n (pc := 1548) d_LW_law_1548 rfl rfl ?_
  refine fr_iload (pc := 1549) d_LW_law_1549 rfl ?_
  refine fr_iconst (pc := 1551) (v := 2) d_LW_law_1551 (by decide) ?_
  refine fr_iaddN (pc := 1552) (a := i) (b := 2) d_LW_law_1552 ?_
  refine fr_sld (pc := 1553) (k := (i + 2)) hsc d_LW_law_1553 (by omega) ?_
  refine fr_aload_n (pc := 1554) d_LW_law_1554 rfl rfl ?_
  refine fr_calls (pc := 1555) (nc := nc) (ns := ns) (N := m_LW_about) (rest := []) (as := [.ref o, .int (xs (i + 1)), .int (xs (i + 2)), .ref out]) d_LW_law_1555 k_LW_about lk_LW_159 sc_LW_about np_LW_about ⟨by decide, by decide, Nat.le_of_ble_eq_true rfl⟩ (Nat.le_of_ble_eq_true rfl) hW (fun v1 u h9 => ?_) (fun C u h9 => by obtain ⟨h1, -⟩ := h9; cases h1) rfl
  obtain ⟨h1, hX2, hmk, f2, ho2, hf2⟩ := h9
  cases h1
  obtain ⟨hmo2, harr2⟩ := lx_self hmk hmo harr
  have eu := fs_X_of_fm hmo2 harr2
  rw [eu]
  refine fr_istore (pc := 1558) (L2 := [(0, .ref b), (1, .ref o), (2, .ref mo), (3, .ref out), (4, .int (nI i)), (5, .int c)]) d_LW_law_1558 (by decide) rfl ?_
  refine fr_aload_n (pc := 1560) d_LW_law_1560 rfl rfl ?_
  refine fr_aload_n (pc := 1561) d_LW_law_1561 rfl rfl ?_
  refine fr_iload (pc := 1562) d_LW_law_1562 rfl ?_
  refine fr_iconst (pc := 1564) (v := 1) d_LW_law_1564 (by decide) ?_
  refine fr_iaddN (pc := 1565) (a := i) (b := 1) d_LW_law_1565 ?_
  refine fr_sld (pc := 1566) (k := (i + 1)) hsc d_LW_law_1566 (by omega) ?_
  refine fr_aload_n (pc := 1567) d_LW_law_1567 rfl rfl ?_
  refine fr_iload (pc := 1568) d_LW_law_1568 rfl ?_
  refine fr_iconst (pc := 1570) (v := 2) d_LW_law_1570 (by decide) ?_
  refine fr_iaddN (pc := 1571) (a := i) (b := 2) d_LW_law_1571 ?_
  refine fr_sld (pc := 1572) (k := (i + 2)) hsc d_LW_law_1572 (by omega) ?_
  refine fr_callV (pc := 1573) (nc := nc) (ns := ns) (N := m_MO_about) (rest := []) (as := [.int (xs (i + 1)), .int (xs (i + 2))]) d_LW_law_1573 vc_LW_161 ⟨by decide, by decide, Nat.le_of_ble_eq_true rfl⟩ (Nat.le_of_ble_eq_true rfl) fm_mo (hM u th so pl po) rfl (fun v1 u2 h9 => ?_) (fun C u h9 => by obtain ⟨h1, -⟩ := h9; cases h1)
  obtain ⟨h1, so2, pl2, po2, F2, rfl, hc2⟩ := h9
  cases h1
  obtain ⟨hI2, ho3⟩ := lx_next (th := c) (so := so2) (pl := pl2) (po := po2) hX2 hA hmo2 harr2 ho2 hc2
  refine fr_istore (pc := 1576) (L2 := [(0, .ref b), (1, .ref o), (2, .ref mo), (3, .ref out), (4, .int (nI i)), (5, .int c), (6, .int v)]) d_LW_law_1576 (by decide) rfl ?_
  refine fr_aload_n (pc := 1578) d_LW_law_1578 rfl rfl ?_
  refine fr_callv_p (pc := 1579) (nc := nc) (ns := ns) (N := m_MO_thrown) (rest := []) (as := []) d_LW_law_1579 vc_LW_92 ⟨by decide, by decide, Nat.le_of_ble_eq_true rfl⟩ (Nat.le_of_ble_eq_true rfl) fm_mo (c_MO_thrown hA) rfl ?_
  refine fr_iload (pc := 1582) d_LW_law_1582 rfl ?_
  refine fr_icmp_eq (pc := 1584) (tgt := 1589) d_LW_law_1584 (by decide) (fun _ => ?_) (fun z => absurd rfl z)
  refine fr_iload (pc := 1589) d_LW_law_1589 rfl ?_
  refine fr_if_ne (pc := 1591) (tgt := 1606) d_LW_law_1591 (by decide) (fun z => ?_) (fun z => ?_)
  · refine fr_goto (pc := 1606) (tgt := 1665) d_LW_law_1606 (by decide) ?_
    exact fr_Ld (fr_Ld (kk S2 _ hI2))
  · refine fr_aload_n (pc := 1594) d_LW_law_1594 rfl rfl ?_
    refine fr_iconst (pc := 1595) (v := 0) d_LW_law_1595 (by decide) ?_
    refine fr_laldN (pc := 1596) (n := 1) (k := 0) d_LW_law_1596 ho3 (by omega) (by omega) ?_
    refine fr_iload (pc := 1597) d_LW_law_1597 rfl ?_
    refine fr_i2l (pc := 1599) d_LW_law_1599 rfl ?_
    refine fr_lcmp (pc := 1600) d_LW_law_1600 ?_
    refine fr_st (st2 := [.int 0]) (by rw [(bb_cmp2 _ _).mpr (hf2 z)]) ?_
    refine fr_if_eq (pc := 1601) (tgt := 1606) d_LW_law_1601 (by decide) (fun _ => ?_) (fun z => absurd rfl z)
    refine fr_goto (pc := 1606) (tgt := 1665) d_LW_law_1606 (by decide) ?_
    exact fr_Ld (fr_Ld (kk S2 _ hI2))
theorem l_count {g : fw_G} {Post : fw_O → fw_W → Prop} {nc ns : Nat} {b Ls : Nat} {xs : Nat → Int32} (hsc : lx_sc g b Ls xs) {o gr a1 a2 a3 a4 na mo out : Nat} {ar : Nat → Nat} {S : fs_S} {w : fw_W} (hI : lx_I g (o, gr, a1, a2, a3, a4, na) mo ar out S w) {i : Nat} (hi : i + 8 ≤ Ls) (kk : ∀ S2 u, lx_I g (o, gr, a1, a2, a3, a4, na) mo ar out S2 u → fw_R g m_LW_law Post nc ns u 1665 [(0, .ref b), (1, .ref o), (2, .ref mo), (3, .ref out), (4, .int (nI i))] []) : fw_R g m_LW_law Post (nc + 10) (ns + 72) w 1609 [(0, .ref b), (1, .ref o), (2, .ref mo), (3, .ref out), (4, .int (nI i))] [] := by
  obtain ⟨us, n, hu, hg, nd⟩ := S
  obtain ⟨hX, hA, ⟨f, hout⟩, th, so, pl, po, F, hmo, harr, hc⟩ := hI
  have hL := hsc.2.2
  obtain ⟨c, v, S2, hW, hM⟩ := j_count hX hout hA hc (xs (i + 1))
  refine fr_nc (nc2 := nc + 1) (ns2 := ns + 6) (by omega) (by omega) ?_
  refine fr_aload_n (pc := 1609) d_LW_law_1609 rfl rfl ?_
  refine fr_aload_n (pc := 1610) d_LW_law_1610 rfl rfl ?_
  refine fr_iload (pc := 1611) d_LW_law_1611 rfl ?_
  refine fr_iconst (pc := 1613) (v := 1) d_LW_law_1613 (by decide) ?_
  refine fr_iaddN (pc := 1614) (a := i) (b := 1) d_LW_law_1614 ?_
  refine fr_sld (pc := 1615) (k := (i + 1)) hsc d_LW_law_1615 (by omega) ?_
  refine fr_aload_n (pc := 1616) d_LW_law_1616 rfl rfl ?_
  refine fr_calls (pc := 1617) (nc := nc) (ns := ns) (N := m_LW_count) (rest := []) (as := [.ref o, .int (xs (i + 1)), .ref out]) d_LW_law_1617 k_LW_count lk_LW_162 sc_LW_count np_LW_count ⟨by decide, by decide, Nat.le_of_ble_eq_true rfl⟩ (Nat.le_of_ble_eq_true rfl) hW (fun v1 u h9 => ?_) (fun C u h9 => by obtain ⟨h1, -⟩ := h9; cases h1) rfl
  obtain ⟨h1, hX2, hmk, f2, ho2, hf2⟩ := h9
  cases h1
  obtain ⟨hmo2, harr2⟩ := lx_self hmk hmo harr
  have eu := fs_X_of_fm hmo2 harr2
  rw [eu]
  refine fr_istore (pc := 1620) (L2 := [(0, .ref b), (1, .ref o), (2, .ref mo), (3, .ref out), (4, .int (nI i)), (5, .int c)]) d_LW_law_1620 (by decide) rfl ?_
  refine fr_aload_n (pc := 1622) d_LW_law_1622 rfl rfl ?_
  refine fr_aload_n (pc := 1623) d_LW_law_1623 rfl rfl ?_
  refine fr_iload (pc := 1624) d_LW_law_1624 rfl ?_
  refine fr_iconst (pc := 1626) (v := 1) d_LW_law_1626 (by decide) ?_
  refine fr_iaddN (pc := 1627) (a := i) (b := 1) d_LW_law_1627 ?_
  refine fr_sld (pc := 1628) (k := (i + 1)) hsc d_LW_law_1628 (by omega) ?_
  refine fr_callV (pc := 1629) (nc := nc) (ns := ns) (N := m_MO_count) (rest := []) (as := [.int (xs (i + 1))]) d_LW_law_1629 vc_LW_164 ⟨by decide, by decide, Nat.le_of_ble_eq_true rfl⟩ (Nat.le_of_ble_eq_true rfl) fm_mo (hM u th so pl po) rfl (fun v1 u2 h9 => ?_) (fun C u h9 => by obtain ⟨h1, -⟩ := h9; cases h1)
  obtain ⟨h1, so2, pl2, po2, F2, rfl, hc2⟩ := h9
  cases h1
  obtain ⟨hI2, ho3⟩ := lx_next (th := c) (so := so2) (pl := pl2) (po := po2) hX2 hA hmo2 harr2 ho2 hc2
  refine fr_istore (pc := 1632) (L2 := [(0, .ref b), (1, .ref o), (2, .ref mo), (3, .ref out), (4, .int (nI i)), (5, .int c), (6, .int v)]) d_LW_law_1632 (by decide) rfl ?_
  refine fr_aload_n (pc := 1634) d_LW_law_1634 rfl rfl ?_
  refine fr_callv_p (pc := 1635) (nc := nc) (ns := ns) (N := m_MO_thrown) (rest := []) (as := []) d_LW_law_1635 vc_LW_92 ⟨by decide, by decide, Nat.le_of_ble_eq_true rfl⟩ (Nat.le_of_ble_eq_true rfl) fm_mo (c_MO_thrown hA) rfl ?_
  refine fr_iload (pc := 1638) d_LW_law_1638 rfl ?_
  refine fr_icmp_eq (pc := 1640) (tgt := 1645) d_LW_law_1640 (by decide) (fun _ => ?_) (fun z => absurd rfl z)
  refine fr_iload (pc := 1645) d_LW_law_1645 rfl ?_
  refine fr_if_ne (pc := 1647) (tgt := 1662) d_LW_law_1647 (by decide) (fun z => ?_) (fun z => ?_)
  · refine fr_goto (pc := 1662) (tgt := 1665) d_LW_law_1662 (by decide) ?_
    exact fr_Ld (fr_Ld (kk S2 _ hI2))
  · refine fr_aload_n (pc := 1650) d_LW_law_1650 rfl rfl ?_
    refine fr_iconst (pc := 1651) (v := 0) d_LW_law_1651 (by decide) ?_
    refine fr_laldN (pc := 1652) (n := 1) (k := 0) d_LW_law_1652 ho3 (by omega) (by omega) ?_
    refine fr_iload (pc := 1653) d_LW_law_1653 rfl ?_
    refine fr_i2l (pc := 1655) d_LW_law_1655 rfl ?_
    refine fr_lcmp (pc := 1656) d_LW_law_1656 ?_
    refine fr_st (st2 := [.int 0]) (by rw [(bb_cmp2 _ _).mpr (hf2 z)]) ?_
    refine fr_if_eq (pc := 1657) (tgt := 1662) d_LW_law_1657 (by decide) (fun _ => ?_) (fun z => absurd rfl z)
    refine fr_goto (pc := 1662) (tgt := 1665) d_LW_law_1662 (by decide) ?_
    exact fr_Ld (fr_Ld (kk S2 _ hI2))
theorem l_loop {g : fw_G} {b Ls : Nat} {xs : Nat → Int32} (hsc : lx_sc g b Ls xs) {o gr a1 a2 a3 a4 na mo out : Nat} {ar : Nat → Nat} : ∀ m i (S : fs_S) (w : fw_W), Ls < i + 8 * m + 8 → i ≤ Ls → lx_I g (o, gr, a1, a2, a3, a4, na) mo ar out S w → fw_R g m_LW_law (fun r _ => r = .inl (some (.int 1))) (10 * m) (72 * m) w 23 [(0, .ref b), (1, .ref o), (2, .ref mo), (3, .ref out), (4, .int (nI i))] [] := by
  have hL := hsc.2.2
  intro m
  induction m with
  | zero =>
    intro i S w h1 h2 hI
    refine fr_iload (pc := 23) d_LW_law_23 rfl ?_
    refine fr_aload_n (pc := 25) d_LW_law_25 rfl rfl ?_
    refine fr_slen (pc := 26) hsc d_LW_law_26 ?_
    refine fr_bipush (pc := 27) (v := 8) d_LW_law_27 (by decide) ?_
    refine fr_isub (pc := 29) d_LW_law_29 ?_
    refine fr_icmp_gt (pc := 30) (tgt := 1671) d_LW_law_30 (by decide) (fun z => ?_) (fun z => ?_)
    · refine fr_iconst (pc := 1671) (v := 1) d_LW_law_1671 (by decide) ?_
      exact fr_zret rfl (by first | exact bI_01 _ | exact Or.inl rfl | exact Or.inr rfl) d_LW_law_1672 rfl
    · have hi8 := lx_le hL (by omega) z
      omega
  | succ m ih =>
    intro i S w h1 h2 hI
    refine fr_iload (pc := 23) d_LW_law_23 rfl ?_
    refine fr_aload_n (pc := 25) d_LW_law_25 rfl rfl ?_
    refine fr_slen (pc := 26) hsc d_LW_law_26 ?_
    refine fr_bipush (pc := 27) (v := 8) d_LW_law_27 (by decide) ?_
    refine fr_isub (pc := 29) d_LW_law_29 ?_
    refine fr_icmp_gt (pc := 30) (tgt := 1671) d_LW_law_30 (by decide) (fun z => ?_) (fun z => ?_)
    · refine fr_iconst (pc := 1671) (v := 1) d_LW_law_1671 (by decide) ?_
      exact fr_zret rfl (by first | exact bI_01 _ | exact Or.inl rfl | exact Or.inr rfl) d_LW_law_1672 rfl
    · have hi8 := lx_le hL (by omega) z
      have e1 : 10 * (m + 1) = 10 * m + 10 := by omega
      have e2 : 72 * (m + 1) = 72 * m + 72 := by omega
      rw [e1, e2]
      have kk : ∀ S2 u, lx_I g (o, gr, a1, a2, a3, a4, na) mo ar out S2 u → fw_R g m_LW_law (fun r _ => r = .inl (some (.int 1))) (10 * m) (72 * m) u 1665 [(0, .ref b), (1, .ref o), (2, .ref mo), (3, .ref out), (4, .int (nI i))] [] := by
        intro S2 u hI2
        refine fr_iinc (pc := 1665) (v := nI (i + 8)) (L2 := [(0, .ref b), (1, .ref o), (2, .ref mo), (3, .ref out), (4, .int (nI (i + 8)))]) d_LW_law_1665 rfl (fi_8 i) (by decide) rfl ?_
        refine fr_goto (pc := 1668) (tgt := 23) d_LW_law_1668 (by decide) ?_
        exact ih (i + 8) S2 u (by omega) (by omega) hI2
      refine fr_aload_n (pc := 33) d_LW_law_33 rfl rfl ?_
      refine fr_iload (pc := 34) d_LW_law_34 rfl ?_
      refine fr_sld (pc := 36) (k := i) hsc d_LW_law_36 (by omega) ?_
      refine fr_bipush (pc := 37) (v := 31) d_LW_law_37 (by decide) ?_
      refine fr_iand (pc := 39) d_LW_law_39 ?_
      obtain ⟨j, hj, ej⟩ := lx_31 (xs i)
      refine fr_st (st2 := [.int (nI j)]) (by rw [ej]) ?_
      have hjj : j = 0 ∨ j = 1 ∨ j = 2 ∨ j = 3 ∨ j = 4 ∨ j = 5 ∨ j = 6 ∨ j = 7 ∨ j = 8 ∨ j = 9 ∨ j = 10 ∨ j = 11 ∨ j = 12 ∨ j = 13 ∨ j = 14 ∨ j = 15 ∨ j = 16 ∨ j = 17 ∨ j = 18 ∨ j = 19 ∨ j = 20 ∨ 21 ≤ j := by omega
      rcases hjj with rfl | rfl | rfl | rfl | rfl | rfl | rfl | rfl | rfl | rfl | rfl | rfl | rfl | rfl | rfl | rfl | rfl | rfl | rfl | rfl | rfl | h21
      · exact fr_tableIn (pc := 40) (off := 100) (tgt := 140) d_LW_law_40 (by decide) (by decide) (by decide) (by decide) (l_user hsc hI hi8 kk)
      · exact fr_tableIn (pc := 40) (off := 144) (tgt := 184) d_LW_law_40 (by decide) (by decide) (by decide) (by decide) (l_group hsc hI hi8 kk)
      · exact fr_tableIn (pc := 40) (off := 188) (tgt := 228) d_LW_law_40 (by decide) (by decide) (by decide) (by decide) (l_join hsc hI hi8 kk)
      · exact fr_tableIn (pc := 40) (off := 291) (tgt := 331) d_LW_law_40 (by decide) (by decide) (by decide) (by decide) (l_leave hsc hI hi8 kk)
      · exact fr_tableIn (pc := 40) (off := 394) (tgt := 434) d_LW_law_40 (by decide) (by decide) (by decide) (by decide) (l_node hsc hI hi8 kk)
      · exact fr_tableIn (pc := 40) (off := 490) (tgt := 530) d_LW_law_40 (by decide) (by decide) (by decide) (by decide) (l_move hsc hI hi8 kk)
      · exact fr_tableIn (pc := 40) (off := 558) (tgt := 598) d_LW_law_40 (by decide) (by decide) (by decide) (by decide) (l_remove hsc hI hi8 kk)
      · exact fr_tableIn (pc := 40) (off := 614) (tgt := 654) d_LW_law_40 (by decide) (by decide) (by decide) (by decide) (l_entry hsc hI hi8 kk)
      · exact fr_tableIn (pc := 40) (off := 778) (tgt := 818) d_LW_law_40 (by decide) (by decide) (by decide) (by decide) (l_dropEntry hsc hI hi8 kk)
      · exact fr_tableIn (pc := 40) (off := 846) (tgt := 886) d_LW_law_40 (by decide) (by decide) (by decide) (by decide) (l_block hsc hI hi8 kk)
      · exact fr_tableIn (pc := 40) (off := 937) (tgt := 977) d_LW_law_40 (by decide) (by decide) (by decide) (by decide) (l_owner hsc hI hi8 kk)
      · exact fr_tableIn (pc := 40) (off := 1005) (tgt := 1045) d_LW_law_40 (by decide) (by decide) (by decide) (by decide) (l_rights hsc hI hi8 kk)
      · exact fr_tableIn (pc := 40) (off := 1073) (tgt := 1113) d_LW_law_40 (by decide) (by decide) (by decide) (by decide) (l_explain hsc hI hi8 kk)
      · exact fr_tableIn (pc := 40) (off := 1165) (tgt := 1205) d_LW_law_40 (by decide) (by decide) (by decide) (by decide) (l_who hsc hI hi8 kk)
      · exact fr_tableIn (pc := 40) (off := 1245) (tgt := 1285) d_LW_law_40 (by decide) (by decide) (by decide) (by decide) (l_where hsc hI hi8 kk)
      · exact fr_tableIn (pc := 40) (off := 1325) (tgt := 1365) d_LW_law_40 (by decide) (by decide) (by decide) (by decide) (l_same hsc hI hi8 kk)
      · exact fr_tableIn (pc := 40) (off := 1400) (tgt := 1440) d_LW_law_40 (by decide) (by decide) (by decide) (by decide) (l_step hsc hI hi8 kk)
      · exact fr_tableIn (pc := 40) (off := 1413) (tgt := 1453) d_LW_law_40 (by decide) (by decide) (by decide) (by decide) (l_stale hsc hI hi8 kk)
      · exact fr_tableIn (pc := 40) (off := 1426) (tgt := 1466) d_LW_law_40 (by decide) (by decide) (by decide) (by decide) (l_in hsc hI hi8 kk)
      · exact fr_tableIn (pc := 40) (off := 1501) (tgt := 1541) d_LW_law_40 (by decide) (by decide) (by decide) (by decide) (l_about hsc hI hi8 kk)
      · exact fr_tableIn (pc := 40) (off := 1569) (tgt := 1609) d_LW_law_40 (by decide) (by decide) (by decide) (by decide) (l_count hsc hI hi8 kk)
      · exact fr_tableOut (pc := 40) (tgt := 1665) d_LW_law_40 (fs_no2_out (n := 20) (by decide) (fun q hq e => by have := (ni_eq (by omega) (by omega)).mp e; omega)) (by decide) (fr_nc (by omega) (by omega) (kk S w hI))

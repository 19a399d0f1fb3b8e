theorem c_FR_named {g : fw_G} {nc ns : Nat} {w : fw_W} {o gr na us : Nat} (h0 : w o = some (.inr (0, [.ref gr, .ref na, .int (nI us)]))) {ng a1 a2 a3 a4 : Nat} {f1 f2 f3 f4 : Nat → Int64} (hG : gr_at g w gr a1 a2 a3 a4 ng f1 f2 f3 f4) {y : Nat} {E : fs_E} (hy : w y = some (.inr (3, fs_ec E))) (hE : E.2.2.1 = true → E.2.1 < ng) : fw_R g m_FR_namedUsers (fw_pv (.long (fs_nu f4 E)) w) nc ns w 0 [(0, .ref o), (1, .ref y)] [] := by
  obtain ⟨-, q1, q2, q3, q4, hn, -⟩ := id hG
  obtain ⟨al, wh, ig, bi, fl⟩ := E
  refine fr_aload_n (pc := 0) d_FR_namedUsers_0 rfl rfl ?_
  refine fr_get (pc := 1) (v := .int (bI ig)) d_FR_namedUsers_1 fg_FR_234 hy rfl ?_
  refine fr_if_eq (pc := 4) (tgt := 22) d_FR_namedUsers_4 (by decide) (fun b4 => ?_) (fun b4 => ?_)
  · refine fr_lconst (pc := 22) (v := 1) d_FR_namedUsers_22 (by decide) ?_
    refine fr_aload_n (pc := 23) d_FR_namedUsers_23 rfl rfl ?_
    refine fr_get (pc := 24) (v := .int (nI wh)) d_FR_namedUsers_24 fg_FR_237 hy rfl ?_
    refine fr_lshl (pc := 27) d_FR_namedUsers_27 rfl ?_
    have hig : ig = false := bI_0.mp b4
    refine fr_st (st2 := [.long (fs_nu f4 (al, wh, ig, bi, fl))]) (by simp [fs_nu, hig]) ?_
    exact fr_lret rfl d_FR_namedUsers_28 ⟨rfl, rfl⟩
  · refine fr_aload_n (pc := 7) d_FR_namedUsers_7 rfl rfl ?_
    refine fr_get (pc := 8) (v := .ref gr) d_FR_namedUsers_8 fg_FR_10 h0 rfl ?_
    refine fr_get (pc := 11) (v := .ref a4) d_FR_namedUsers_11 fg_FR_196 hG.1 rfl ?_
    refine fr_aload_n (pc := 14) d_FR_namedUsers_14 rfl rfl ?_
    refine fr_get (pc := 15) (v := .int (nI wh)) d_FR_namedUsers_15 fg_FR_237 hy rfl ?_
    have hig : ig = true := ts_nf (fun z => b4 (bI_0.mpr z))
    have hw : wh < ng := hE hig
    refine fr_laldN (pc := 18) d_FR_namedUsers_18 q4 (k := wh) (by omega) (by omega) ?_
    refine fr_goto (pc := 19) (tgt := 28) d_FR_namedUsers_19 (by decide) ?_
    refine fr_st (st2 := [.long (fs_nu f4 (al, wh, ig, bi, fl))]) (by simp [fs_nu, hig]) ?_
    exact fr_lret rfl d_FR_namedUsers_28 ⟨rfl, rfl⟩
theorem fs_drop {α : Type} {l : List α} {i : Nat} {x : α} (h : l[i]? = some x) : l.drop i = x :: l.drop (i + 1) := by
  obtain ⟨hi, e⟩ := List.getElem?_eq_some_iff.mp h
  rw [List.drop_eq_getElem_cons hi, e]
theorem bI_inj {a b : Bool} : bI a = bI b ↔ a = b := by cases a <;> cases b <;> simp [bI]
theorem fs_ov_ne {j : Nat} (h : j < 2 ^ 31) : ¬ nI j = -1 := fun e => by
  have h1 : ¬ nI j < 0 := ix_nn h
  rw [e] at h1
  exact h1 (by decide)
theorem fs_num {g : fw_G} {w : fw_W} {nd : fs_D} {ad : Nat → Option Nat} {lq ld lc : Nat → Nat} {lt : Nat → List Nat} (hr : fs_rN g w nd ad lq ld lc lt) {n v a p : Nat} {N V : fs_N} (hN : nd n = some N) (hV : nd v = some V) (ha : ad n = some a) (hp : ad v = some p) : decide (a = p) = decide (n = v) := by
  congr 1
  refine propext ⟨fun e => ?_, fun e => ?_⟩
  · subst e; exact fs_inj hr hN hV ha hp
  · subst e; rw [ha] at hp; exact Option.some.inj hp
theorem c_FR_hit_l {g : fw_G} {nc ns : Nat} {w : fw_W} {o gr na us : Nat} (h0 : w o = some (.inr (0, [.ref gr, .ref na, .int (nI us)]))) {ng a1 a2 a3 a4 : Nat} {f1 f2 f3 f4 : Nat → Int64} (hG : gr_at g w gr a1 a2 a3 a4 ng f1 f2 f3 f4) {nd : fs_D} {ad : Nat → Option Nat} {lq ld lc : Nat → Nat} {lt : Nat → List Nat} (hr : fs_rN g w nd ad lq ld lc lt) (hok : fs_ok us ng nd) {n v a p r : Nat} {N V : fs_N} (hA : nd n = some N) (hV : nd v = some V) (ha : ad n = some a) (hp : ad v = some p) (hr8 : r < 8) {al : Bool} : ∀ m i acc, i + m = V.2.2.2.2.2.length → ∀ L : List (Nat × Value), L = [(0, .ref o), (1, .ref p), (2, .ref a), (3, .int (nI r)), (4, .int (bI al)), (5, .long acc), (7, .int (nI i))] → fw_R g m_FR_hitUsers (fw_pv (.long (fs_hb f4 N n v r al acc (V.2.2.2.2.2.drop i))) w) nc ns w 6 L [] := by
  obtain ⟨-, a0, ha0, hca, hla, hEa⟩ := hr.2.1 n N hA
  rw [ha] at ha0; cases ha0
  obtain ⟨-, p0, hp0, hcp, hlp, hEp⟩ := hr.2.1 v V hV
  rw [hp] at hp0; cases hp0
  obtain ⟨mc, hl1, -⟩ := id hlp
  obtain ⟨-, -, hng, -, hk5⟩ := id hok
  obtain ⟨-, -, -, hlen12, hes, -⟩ := hk5 v V hV
  obtain ⟨-, -, -, -, -, hchn, -⟩ := hk5 n N hA
  have eL := hEp.1
  intro m
  induction m with
  | zero =>
    intro i acc hi L hL
    subst hL
    refine fr_iload (pc := 6) d_FR_hitUsers_6 rfl ?_
    refine fr_aload_n (pc := 8) d_FR_hitUsers_8 rfl rfl ?_
    refine fr_get (pc := 9) (v := .ref (lq v)) d_FR_hitUsers_9 fg_FR_119 hcp rfl ?_
    refine fr_callv_p (pc := 12) (nc := nc) (ns := ns) (N := m_AL_size) (rest := [.int (nI i)]) (as := []) d_FR_hitUsers_12 vc_FR_123 ⟨by decide, by decide, Nat.le_of_ble_eq_true rfl⟩ (Nat.le_of_ble_eq_true rfl) hl1 (c_AL_size hlp) rfl ?_
    refine fr_icmp_ge (pc := 15) (tgt := 78) d_FR_hitUsers_15 (by decide) (fun q => ?_) (fun q => ?_)
    · refine fr_lload (pc := 78) d_FR_hitUsers_78 rfl ?_
      refine fr_st (st2 := [.long (fs_hb f4 N n v r al acc (V.2.2.2.2.2.drop i))]) (by rw [List.drop_eq_nil_of_le (by omega)]; rfl) ?_
      exact fr_lret rfl d_FR_hitUsers_80 ⟨rfl, rfl⟩
    · exact absurd ((ni_le (by omega) (by omega)).mpr (by omega)) q
  | succ m ih =>
    intro i acc hi L hL
    subst hL
    obtain ⟨E, hE⟩ : ∃ E, V.2.2.2.2.2[i]? = some E := ⟨_, List.getElem?_eq_getElem (by omega)⟩
    obtain ⟨y, hy⟩ : ∃ y, (lt v)[i]? = some y := ⟨_, List.getElem?_eq_getElem (by omega)⟩
    have hcy := hEp.2 i y E hy hE
    obtain ⟨hw, hbi, hfl⟩ := hes E (List.mem_of_getElem? hE)
    have hdr := fs_drop hE
    obtain ⟨al2, wh, ig, bi, fl⟩ := E
    refine fr_iload (pc := 6) d_FR_hitUsers_6 rfl ?_
    refine fr_aload_n (pc := 8) d_FR_hitUsers_8 rfl rfl ?_
    refine fr_get (pc := 9) (v := .ref (lq v)) d_FR_hitUsers_9 fg_FR_119 hcp rfl ?_
    refine fr_callv_p (pc := 12) (nc := nc) (ns := ns) (N := m_AL_size) (rest := [.int (nI i)]) (as := []) d_FR_hitUsers_12 vc_FR_123 ⟨by decide, by decide, Nat.le_of_ble_eq_true rfl⟩ (Nat.le_of_ble_eq_true rfl) hl1 (c_AL_size hlp) rfl ?_
    refine fr_icmp_ge (pc := 15) (tgt := 78) d_FR_hitUsers_15 (by decide) (fun q => ?_) (fun q => ?_)
    · exact absurd ((ni_le (by omega) (by omega)).mp q) (by omega)
    · refine fr_aload_n (pc := 18) d_FR_hitUsers_18 rfl rfl ?_
      refine fr_get (pc := 19) (v := .ref (lq v)) d_FR_hitUsers_19 fg_FR_119 hcp rfl ?_
      refine fr_iload (pc := 22) d_FR_hitUsers_22 rfl ?_
      refine fr_callv_p (pc := 24) (nc := nc) (ns := ns) (N := m_AL_get) (rest := []) (as := [.int (nI i)]) d_FR_hitUsers_24 vc_FR_180 ⟨by decide, by decide, Nat.le_of_ble_eq_true rfl⟩ (Nat.le_of_ble_eq_true rfl) hl1 (c_AL_get hlp hy) rfl ?_
      refine fr_cast (pc := 27) (ci := 3) d_FR_hitUsers_27 (fw_t 386 (by decide +kernel)) rfl hcy ?_
      refine fr_astore (pc := 30) (L2 := [(0, .ref o), (1, .ref p), (2, .ref a), (3, .int (nI r)), (4, .int (bI al)), (5, .long acc), (7, .int (nI i)), (8, .ref y)]) d_FR_hitUsers_30 (by decide) rfl ?_
      refine fr_aload (pc := 32) d_FR_hitUsers_32 rfl ?_
      refine fr_get (pc := 34) (v := .int (bI al2)) d_FR_hitUsers_34 fg_FR_183 hcy rfl ?_
      refine fr_iload (pc := 37) d_FR_hitUsers_37 rfl ?_
      refine fr_icmp_ne (pc := 39) (tgt := 72) d_FR_hitUsers_39 (by decide) (fun z1 => ?_) (fun z1 => ?_)
      · refine fr_iinc (pc := 72) (v := (nI (i + 1))) (L2 := [(0, .ref o), (1, .ref p), (2, .ref a), (3, .int (nI r)), (4, .int (bI al)), (5, .long acc), (7, .int (nI (i + 1))), (8, .ref y)]) d_FR_hitUsers_72 rfl (fi_1 _) (by decide) rfl ?_
        refine fr_goto (pc := 75) (tgt := 6) d_FR_hitUsers_75 (by decide) ?_
        have e : fs_hb f4 N n v r al acc (V.2.2.2.2.2.drop i) = fs_hb f4 N n v r al acc (V.2.2.2.2.2.drop (i + 1)) := by
          rw [hdr, fs_hb, if_neg]
          exact fun z => z1 (by rw [show al2 = al from z.1])
        rw [e]
        exact fr_Ld (ih (i + 1) acc (by omega) _ rfl)
      · refine fr_aload (pc := 42) d_FR_hitUsers_42 rfl ?_
        refine fr_iload_n (pc := 44) d_FR_hitUsers_44 rfl rfl ?_
        refine fr_callv_p (pc := 45) (nc := nc) (ns := ns) (N := m_EN_gives) (rest := []) (as := [.int (nI r)]) d_FR_hitUsers_45 vc_FR_222 ⟨by decide, by decide, Nat.le_of_ble_eq_true rfl⟩ (Nat.le_of_ble_eq_true rfl) hcy (c_EN_gives hcy rfl (by omega) (by omega)) rfl ?_
        refine fr_if_eq (pc := 48) (tgt := 72) d_FR_hitUsers_48 (by decide) (fun z2 => ?_) (fun z2 => ?_)
        · refine fr_iinc (pc := 72) (v := (nI (i + 1))) (L2 := [(0, .ref o), (1, .ref p), (2, .ref a), (3, .int (nI r)), (4, .int (bI al)), (5, .long acc), (7, .int (nI (i + 1))), (8, .ref y)]) d_FR_hitUsers_72 rfl (fi_1 _) (by decide) rfl ?_
          refine fr_goto (pc := 75) (tgt := 6) d_FR_hitUsers_75 (by decide) ?_
          have e : fs_hb f4 N n v r al acc (V.2.2.2.2.2.drop i) = fs_hb f4 N n v r al acc (V.2.2.2.2.2.drop (i + 1)) := by
            rw [hdr, fs_hb, if_neg]
            intro z; have := z.2; simp [fs_gr, bI_0.mp z2] at this
          rw [e]
          exact fr_Ld (ih (i + 1) acc (by omega) _ rfl)
        · refine fr_aload (pc := 51) d_FR_hitUsers_51 rfl ?_
          refine fr_aload_n (pc := 53) d_FR_hitUsers_53 rfl rfl ?_
          refine fr_aload_n (pc := 54) d_FR_hitUsers_54 rfl rfl ?_
          refine fr_callv_p (pc := 55) (nc := nc) (ns := ns) (N := m_EN_reaches) (rest := []) (as := [.ref p, .ref a]) d_FR_hitUsers_55 vc_FR_226 ⟨by decide, by decide, Nat.le_of_ble_eq_true rfl⟩ (Nat.le_of_ble_eq_true rfl) hcy (c_EN_reaches hcy rfl hfl hca rfl rfl) rfl ?_
          refine fr_st (st2 := [.int (bI (er fl (decide (n = v)) N.1 (decide (N.2.1 = some v))))]) (by rw [fs_num hr hA hV ha hp, show decide (N.2.1.bind ad = some p) = decide (N.2.1 = some v) from by congr 1; exact propext (fs_par hr hA hchn hV hp)]) ?_
          refine fr_if_eq (pc := 58) (tgt := 72) d_FR_hitUsers_58 (by decide) (fun z3 => ?_) (fun z3 => ?_)
          · refine fr_iinc (pc := 72) (v := (nI (i + 1))) (L2 := [(0, .ref o), (1, .ref p), (2, .ref a), (3, .int (nI r)), (4, .int (bI al)), (5, .long acc), (7, .int (nI (i + 1))), (8, .ref y)]) d_FR_hitUsers_72 rfl (fi_1 _) (by decide) rfl ?_
            refine fr_goto (pc := 75) (tgt := 6) d_FR_hitUsers_75 (by decide) ?_
            have e : fs_hb f4 N n v r al acc (V.2.2.2.2.2.drop i) = fs_hb f4 N n v r al acc (V.2.2.2.2.2.drop (i + 1)) := by
              rw [hdr, fs_hb, if_neg]
              intro z; have := z.2; simp [fs_gr, bI_0.mp z3] at this
            rw [e]
            exact fr_Ld (ih (i + 1) acc (by omega) _ rfl)
          · refine fr_lload (pc := 61) d_FR_hitUsers_61 rfl ?_
            refine fr_aload_n (pc := 63) d_FR_hitUsers_63 rfl rfl ?_
            refine fr_aload (pc := 64) d_FR_hitUsers_64 rfl ?_
            refine fr_callv_p (pc := 66) (nc := nc) (ns := ns) (N := m_FR_namedUsers) (rest := [.long acc]) (as := [.ref y]) d_FR_hitUsers_66 vc_FR_230 ⟨by decide, by decide, Nat.le_of_ble_eq_true rfl⟩ (Nat.le_of_ble_eq_true rfl) h0 (c_FR_named h0 hG hcy (fun z => by simp only at z; rw [z] at hw; simpa using hw)) rfl ?_
            refine fr_lor (pc := 69) d_FR_hitUsers_69 ?_
            refine fr_lstore (pc := 70) (L2 := [(0, .ref o), (1, .ref p), (2, .ref a), (3, .int (nI r)), (4, .int (bI al)), (5, .long (acc ||| (fs_nu f4 (al2, wh, ig, bi, fl)))), (7, .int (nI i)), (8, .ref y)]) d_FR_hitUsers_70 (by decide) rfl ?_
            refine fr_iinc (pc := 72) (v := (nI (i + 1))) (L2 := [(0, .ref o), (1, .ref p), (2, .ref a), (3, .int (nI r)), (4, .int (bI al)), (5, .long (acc ||| (fs_nu f4 (al2, wh, ig, bi, fl)))), (7, .int (nI (i + 1))), (8, .ref y)]) d_FR_hitUsers_72 rfl (fi_1 _) (by decide) rfl ?_
            refine fr_goto (pc := 75) (tgt := 6) d_FR_hitUsers_75 (by decide) ?_
            have e : fs_hb f4 N n v r al acc (V.2.2.2.2.2.drop i) = fs_hb f4 N n v r al (acc ||| fs_nu f4 (al2, wh, ig, bi, fl)) (V.2.2.2.2.2.drop (i + 1)) := by
              rw [hdr, fs_hb, if_pos]
              refine ⟨bI_inj.mp z1, ?_⟩
              simp only [fs_gr, ts_nf (fun z => z2 (bI_0.mpr z)), ts_nf (fun z => z3 (bI_0.mpr z)), Bool.and_self]
            rw [e]
            exact fr_Ld (ih (i + 1) _ (by omega) _ rfl)
theorem c_FR_hit {g : fw_G} {nc ns : Nat} {w : fw_W} {o gr na us : Nat} (h0 : w o = some (.inr (0, [.ref gr, .ref na, .int (nI us)]))) {ng a1 a2 a3 a4 : Nat} {f1 f2 f3 f4 : Nat → Int64} (hG : gr_at g w gr a1 a2 a3 a4 ng f1 f2 f3 f4) {nd : fs_D} {ad : Nat → Option Nat} {lq ld lc : Nat → Nat} {lt : Nat → List Nat} (hr : fs_rN g w nd ad lq ld lc lt) (hok : fs_ok us ng nd) {n v a p r : Nat} {N V : fs_N} (hA : nd n = some N) (hV : nd v = some V) (ha : ad n = some a) (hp : ad v = some p) (hr8 : r < 8) {al : Bool} : fw_R g m_FR_hitUsers (fw_pv (.long (fs_hb f4 N n v r al 0 (fs_es nd v))) w) nc ns w 0 [(0, .ref o), (1, .ref p), (2, .ref a), (3, .int (nI r)), (4, .int (bI al))] [] := by
  refine fr_lconst (pc := 0) (v := 0) d_FR_hitUsers_0 (by decide) ?_
  refine fr_lstore (pc := 1) (L2 := [(0, .ref o), (1, .ref p), (2, .ref a), (3, .int (nI r)), (4, .int (bI al)), (5, .long 0)]) d_FR_hitUsers_1 (by decide) rfl ?_
  refine fr_iconst (pc := 3) (v := 0) d_FR_hitUsers_3 (by decide) ?_
  refine fr_istore (pc := 4) (L2 := [(0, .ref o), (1, .ref p), (2, .ref a), (3, .int (nI r)), (4, .int (bI al)), (5, .long 0), (7, .int 0)]) d_FR_hitUsers_4 (by decide) rfl ?_
  have e : fs_es nd v = V.2.2.2.2.2.drop 0 := by simp [fs_es, hV]
  rw [e]
  exact c_FR_hit_l h0 hG hr hok hA hV ha hp hr8 V.2.2.2.2.2.length 0 0 (Nat.zero_add _) _ rfl
theorem c_FR_dp_l {g : fw_G} {nc ns : Nat} {w : fw_W} {o gr na us : Nat} (h0 : w o = some (.inr (0, [.ref gr, .ref na, .int (nI us)]))) {ng a1 a2 a3 a4 : Nat} {f1 f2 f3 f4 : Nat → Int64} (hG : gr_at g w gr a1 a2 a3 a4 ng f1 f2 f3 f4) {nd : fs_D} {ad : Nat → Option Nat} {lq ld lc : Nat → Nat} {lt : Nat → List Nat} (hr : fs_rN g w nd ad lq ld lc lt) (hok : fs_ok us ng nd) {n v a p r : Nat} {N V : fs_N} (hA : nd n = some N) (hV : nd v = some V) (ha : ad n = some a) (hp : ad v = some p) (hr8 : r < 8) {u : Nat} (hu : u < 64) : ∀ m i acc, i + m = V.2.2.2.2.2.length → (∀ j, acc = some j → j < 2 ^ 31) → ∀ L : List (Nat × Value), L = [(0, .ref o), (1, .ref p), (2, .ref a), (3, .int (nI u)), (4, .int (nI r)), (5, .int (fs_ov acc)), (6, .int (nI i))] → fw_R g m_FR_decidingPosition (fw_pv (.int (fs_ov (fs_dp (fs_hit (fun i u => bb (f4 i) u) N n v r u) acc (V.2.2.2.2.2.drop i) i))) w) nc ns w 6 L [] := by
  obtain ⟨-, a0, ha0, hca, hla, hEa⟩ := hr.2.1 n N hA
  rw [ha] at ha0; cases ha0
  obtain ⟨-, p0, hp0, hcp, hlp, hEp⟩ := hr.2.1 v V hV
  rw [hp] at hp0; cases hp0
  obtain ⟨mc, hl1, -⟩ := id hlp
  obtain ⟨-, -, hng, -, hk5⟩ := id hok
  obtain ⟨-, -, -, hlen12, hes, -⟩ := hk5 v V hV
  obtain ⟨-, -, -, -, -, hchn, -⟩ := hk5 n N hA
  have eL := hEp.1
  obtain ⟨-, hus60, -⟩ := id hok
  intro m
  induction m with
  | zero =>
    intro i acc hi hacc L hL
    subst hL
    refine fr_iload (pc := 6) d_FR_decidingPosition_6 rfl ?_
    refine fr_aload_n (pc := 8) d_FR_decidingPosition_8 rfl rfl ?_
    refine fr_get (pc := 9) (v := .ref (lq v)) d_FR_decidingPosition_9 fg_FR_119 hcp rfl ?_
    refine fr_callv_p (pc := 12) (nc := nc) (ns := ns) (N := m_AL_size) (rest := [.int (nI i)]) (as := []) d_FR_decidingPosition_12 vc_FR_123 ⟨by decide, by decide, Nat.le_of_ble_eq_true rfl⟩ (Nat.le_of_ble_eq_true rfl) hl1 (c_AL_size hlp) rfl ?_
    refine fr_icmp_ge (pc := 15) (tgt := 92) d_FR_decidingPosition_15 (by decide) (fun q => ?_) (fun q => ?_)
    · refine fr_iload (pc := 92) d_FR_decidingPosition_92 rfl ?_
      refine fr_st (st2 := [.int (fs_ov (fs_dp (fs_hit (fun i u => bb (f4 i) u) N n v r u) acc (V.2.2.2.2.2.drop i) i))]) (by rw [List.drop_eq_nil_of_le (by omega)]; rfl) ?_
      exact fr_iret rfl d_FR_decidingPosition_94 ⟨rfl, rfl⟩
    · exact absurd ((ni_le (by omega) (by omega)).mpr (by omega)) q
  | succ m ih =>
    intro i acc hi hacc L hL
    subst hL
    obtain ⟨E, hE⟩ : ∃ E, V.2.2.2.2.2[i]? = some E := ⟨_, List.getElem?_eq_getElem (by omega)⟩
    obtain ⟨y, hy⟩ : ∃ y, (lt v)[i]? = some y := ⟨_, List.getElem?_eq_getElem (by omega)⟩
    have hcy := hEp.2 i y E hy hE
    obtain ⟨hw, hbi, hfl⟩ := hes E (List.mem_of_getElem? hE)
    have hdr := fs_drop hE
    obtain ⟨al2, wh, ig, bi, fl⟩ := E
    have hnb : bb (fs_nu f4 (al2, wh, ig, bi, fl)) u = fs_mt (fun i u => bb (f4 i) u) (al2, wh, ig, bi, fl) u := fs_nu_b hu (fun z => by simp only at z; rw [z] at hw; have h9 : wh < us := (by simpa using hw); exact Nat.lt_of_lt_of_le h9 (by omega))
    refine fr_iload (pc := 6) d_FR_decidingPosition_6 rfl ?_
    refine fr_aload_n (pc := 8) d_FR_decidingPosition_8 rfl rfl ?_
    refine fr_get (pc := 9) (v := .ref (lq v)) d_FR_decidingPosition_9 fg_FR_119 hcp rfl ?_
    refine fr_callv_p (pc := 12) (nc := nc) (ns := ns) (N := m_AL_size) (rest := [.int (nI i)]) (as := []) d_FR_decidingPosition_12 vc_FR_123 ⟨by decide, by decide, Nat.le_of_ble_eq_true rfl⟩ (Nat.le_of_ble_eq_true rfl) hl1 (c_AL_size hlp) rfl ?_
    refine fr_icmp_ge (pc := 15) (tgt := 92) d_FR_decidingPosition_15 (by decide) (fun q => ?_) (fun q => ?_)
    · exact absurd ((ni_le (by omega) (by omega)).mp q) (by omega)
    · refine fr_aload_n (pc := 18) d_FR_decidingPosition_18 rfl rfl ?_
      refine fr_get (pc := 19) (v := .ref (lq v)) d_FR_decidingPosition_19 fg_FR_119 hcp rfl ?_
      refine fr_iload (pc := 22) d_FR_decidingPosition_22 rfl ?_
      refine fr_callv_p (pc := 24) (nc := nc) (ns := ns) (N := m_AL_get) (rest := []) (as := [.int (nI i)]) d_FR_decidingPosition_24 vc_FR_180 ⟨by decide, by decide, Nat.le_of_ble_eq_true rfl⟩ (Nat.le_of_ble_eq_true rfl) hl1 (c_AL_get hlp hy) rfl ?_
      refine fr_cast (pc := 27) (ci := 3) d_FR_decidingPosition_27 (fw_t 386 (by decide +kernel)) rfl hcy ?_
      refine fr_astore (pc := 30) (L2 := [(0, .ref o), (1, .ref p), (2, .ref a), (3, .int (nI u)), (4, .int (nI r)), (5, .int (fs_ov acc)), (6, .int (nI i)), (7, .ref y)]) d_FR_decidingPosition_30 (by decide) rfl ?_
      refine fr_aload (pc := 32) d_FR_decidingPosition_32 rfl ?_
      refine fr_iload (pc := 34) d_FR_decidingPosition_34 rfl ?_
      refine fr_callv_p (pc := 36) (nc := nc) (ns := ns) (N := m_EN_gives) (rest := []) (as := [.int (nI r)]) d_FR_decidingPosition_36 vc_FR_222 ⟨by decide, by decide, Nat.le_of_ble_eq_true rfl⟩ (Nat.le_of_ble_eq_true rfl) hcy (c_EN_gives hcy rfl (by omega) (by omega)) rfl ?_
      refine fr_if_eq (pc := 39) (tgt := 86) d_FR_decidingPosition_39 (by decide) (fun z1 => ?_) (fun z1 => ?_)
      · refine fr_iinc (pc := 86) (v := (nI (i + 1))) (L2 := [(0, .ref o), (1, .ref p), (2, .ref a), (3, .int (nI u)), (4, .int (nI r)), (5, .int (fs_ov acc)), (6, .int (nI (i + 1))), (7, .ref y)]) d_FR_decidingPosition_86 rfl (fi_1 _) (by decide) rfl ?_
        refine fr_goto (pc := 89) (tgt := 6) d_FR_decidingPosition_89 (by decide) ?_
        have e : fs_dp (fs_hit (fun i u => bb (f4 i) u) N n v r u) acc (V.2.2.2.2.2.drop i) i = fs_dp (fs_hit (fun i u => bb (f4 i) u) N n v r u) acc (V.2.2.2.2.2.drop (i + 1)) (i + 1) := by
          rw [hdr, fs_dp, if_neg]
          simp [fs_hit, fs_gr, bI_0.mp z1]
        rw [e]
        exact fr_Ld (ih (i + 1) acc (by omega) hacc _ rfl)
      · refine fr_aload (pc := 42) d_FR_decidingPosition_42 rfl ?_
        refine fr_aload_n (pc := 44) d_FR_decidingPosition_44 rfl rfl ?_
        refine fr_aload_n (pc := 45) d_FR_decidingPosition_45 rfl rfl ?_
        refine fr_callv_p (pc := 46) (nc := nc) (ns := ns) (N := m_EN_reaches) (rest := []) (as := [.ref p, .ref a]) d_FR_decidingPosition_46 vc_FR_226 ⟨by decide, by decide, Nat.le_of_ble_eq_true rfl⟩ (Nat.le_of_ble_eq_true rfl) hcy (c_EN_reaches hcy rfl hfl hca rfl rfl) rfl ?_
        refine fr_st (st2 := [.int (bI (er fl (decide (n = v)) N.1 (decide (N.2.1 = some v))))]) (by rw [fs_num hr hA hV ha hp, show decide (N.2.1.bind ad = some p) = decide (N.2.1 = some v) from by congr 1; exact propext (fs_par hr hA hchn hV hp)]) ?_
        refine fr_if_eq (pc := 49) (tgt := 86) d_FR_decidingPosition_49 (by decide) (fun z2 => ?_) (fun z2 => ?_)
        · refine fr_iinc (pc := 86) (v := (nI (i + 1))) (L2 := [(0, .ref o), (1, .ref p), (2, .ref a), (3, .int (nI u)), (4, .int (nI r)), (5, .int (fs_ov acc)), (6, .int (nI (i + 1))), (7, .ref y)]) d_FR_decidingPosition_86 rfl (fi_1 _) (by decide) rfl ?_
          refine fr_goto (pc := 89) (tgt := 6) d_FR_decidingPosition_89 (by decide) ?_
          have e : fs_dp (fs_hit (fun i u => bb (f4 i) u) N n v r u) acc (V.2.2.2.2.2.drop i) i = fs_dp (fs_hit (fun i u => bb (f4 i) u) N n v r u) acc (V.2.2.2.2.2.drop (i + 1)) (i + 1) := by
            rw [hdr, fs_dp, if_neg]
            simp [fs_hit, fs_gr, bI_0.mp z2]
          rw [e]
          exact fr_Ld (ih (i + 1) acc (by omega) hacc _ rfl)
        · refine fr_aload_n (pc := 52) d_FR_decidingPosition_52 rfl rfl ?_
          refine fr_aload (pc := 53) d_FR_decidingPosition_53 rfl ?_
          refine fr_callv_p (pc := 55) (nc := nc) (ns := ns) (N := m_FR_namedUsers) (rest := []) (as := [.ref y]) d_FR_decidingPosition_55 vc_FR_230 ⟨by decide, by decide, Nat.le_of_ble_eq_true rfl⟩ (Nat.le_of_ble_eq_true rfl) h0 (c_FR_named h0 hG hcy (fun z => by simp only at z; rw [z] at hw; simpa using hw)) rfl ?_
          refine fr_iload_n (pc := 58) d_FR_decidingPosition_58 rfl rfl ?_
          refine fr_calls_p (pc := 59) (nc := nc) (ns := ns) (N := m_FR_isSet) (rest := []) (as := [.long (fs_nu f4 (al2, wh, ig, bi, fl)), .int (nI u)]) d_FR_decidingPosition_59 k_FR_isSet lk_FR_163 sc_FR_isSet np_FR_isSet ⟨by decide, by decide, Nat.le_of_ble_eq_true rfl⟩ (Nat.le_of_ble_eq_true rfl) (c_FR_isSet hu) rfl ?_
          rw [hnb]
          refine fr_if_eq (pc := 62) (tgt := 86) d_FR_decidingPosition_62 (by decide) (fun z3 => ?_) (fun z3 => ?_)
          · refine fr_iinc (pc := 86) (v := (nI (i + 1))) (L2 := [(0, .ref o), (1, .ref p), (2, .ref a), (3, .int (nI u)), (4, .int (nI r)), (5, .int (fs_ov acc)), (6, .int (nI (i + 1))), (7, .ref y)]) d_FR_decidingPosition_86 rfl (fi_1 _) (by decide) rfl ?_
            refine fr_goto (pc := 89) (tgt := 6) d_FR_decidingPosition_89 (by decide) ?_
            have e : fs_dp (fs_hit (fun i u => bb (f4 i) u) N n v r u) acc (V.2.2.2.2.2.drop i) i = fs_dp (fs_hit (fun i u => bb (f4 i) u) N n v r u) acc (V.2.2.2.2.2.drop (i + 1)) (i + 1) := by
              rw [hdr, fs_dp, if_neg]
              simp [fs_hit, fs_gr, bI_0.mp z3]
            rw [e]
            exact fr_Ld (ih (i + 1) acc (by omega) hacc _ rfl)
          · have hH : (fs_hit (fun i u => bb (f4 i) u) N n v r u) (al2, wh, ig, bi, fl) = true := by
              simp only [fs_hit, fs_gr, ts_nf (fun z => z1 (bI_0.mpr z)), ts_nf (fun z => z2 (bI_0.mpr z)), ts_nf (fun z => z3 (bI_0.mpr z)), Bool.and_self]
            refine fr_aload (pc := 65) d_FR_decidingPosition_65 rfl ?_
            refine fr_get (pc := 67) (v := .int (bI al2)) d_FR_decidingPosition_67 fg_FR_183 hcy rfl ?_
            refine fr_if_ne (pc := 70) (tgt := 76) d_FR_decidingPosition_70 (by decide) (fun z4 => ?_) (fun z4 => ?_)
            · have hal : al2 = true := ts_nf (fun z => z4 (bI_0.mpr z))
              cases acc with
              | none =>
                refine fr_iload (pc := 76) d_FR_decidingPosition_76 rfl ?_
                refine fr_iconst (pc := 78) (v := -1) d_FR_decidingPosition_78 (by decide) ?_
                refine fr_icmp_ne (pc := 79) (tgt := 86) d_FR_decidingPosition_79 (by decide) (fun z5 => ?_) (fun z5 => ?_)
                · exact absurd rfl z5
                · refine fr_iload (pc := 82) d_FR_decidingPosition_82 rfl ?_
                  refine fr_istore (pc := 84) (L2 := [(0, .ref o), (1, .ref p), (2, .ref a), (3, .int (nI u)), (4, .int (nI r)), (5, .int (nI i)), (6, .int (nI i)), (7, .ref y)]) d_FR_decidingPosition_84 (by decide) rfl ?_
                  refine fr_iinc (pc := 86) (v := (nI (i + 1))) (L2 := [(0, .ref o), (1, .ref p), (2, .ref a), (3, .int (nI u)), (4, .int (nI r)), (5, .int (nI i)), (6, .int (nI (i + 1))), (7, .ref y)]) d_FR_decidingPosition_86 rfl (fi_1 _) (by decide) rfl ?_
                  refine fr_goto (pc := 89) (tgt := 6) d_FR_decidingPosition_89 (by decide) ?_
                  have e : fs_dp (fs_hit (fun i u => bb (f4 i) u) N n v r u) none (V.2.2.2.2.2.drop i) i = fs_dp (fs_hit (fun i u => bb (f4 i) u) N n v r u) (some i) (V.2.2.2.2.2.drop (i + 1)) (i + 1) := by
                    rw [hdr, fs_dp, if_pos hH, if_pos hal, if_pos rfl]
                  rw [e]
                  exact fr_Ld (ih (i + 1) (some i) (by omega) (fun j hj => by cases hj; omega) _ rfl)
              | some j =>
                refine fr_iload (pc := 76) d_FR_decidingPosition_76 rfl ?_
                refine fr_iconst (pc := 78) (v := -1) d_FR_decidingPosition_78 (by decide) ?_
                refine fr_icmp_ne (pc := 79) (tgt := 86) d_FR_decidingPosition_79 (by decide) (fun z5 => ?_) (fun z5 => ?_)
                · refine fr_iinc (pc := 86) (v := (nI (i + 1))) (L2 := [(0, .ref o), (1, .ref p), (2, .ref a), (3, .int (nI u)), (4, .int (nI r)), (5, .int (fs_ov (some j))), (6, .int (nI (i + 1))), (7, .ref y)]) d_FR_decidingPosition_86 rfl (fi_1 _) (by decide) rfl ?_
                  refine fr_goto (pc := 89) (tgt := 6) d_FR_decidingPosition_89 (by decide) ?_
                  have e : fs_dp (fs_hit (fun i u => bb (f4 i) u) N n v r u) (some j) (V.2.2.2.2.2.drop i) i = fs_dp (fs_hit (fun i u => bb (f4 i) u) N n v r u) (some j) (V.2.2.2.2.2.drop (i + 1)) (i + 1) := by
                    rw [hdr, fs_dp, if_pos hH, if_pos hal, if_neg (by intro z; cases z)]
                  rw [e]
                  exact fr_Ld (ih (i + 1) (some j) (by omega) hacc _ rfl)
                · exact absurd z5 (fs_ov_ne (hacc j rfl))
            · refine fr_iload (pc := 73) d_FR_decidingPosition_73 rfl ?_
              refine fr_st (st2 := [.int (fs_ov (fs_dp (fs_hit (fun i u => bb (f4 i) u) N n v r u) acc (V.2.2.2.2.2.drop i) i))]) (by rw [hdr, fs_dp, if_pos hH, if_neg (by rw [bI_0.mp z4]; simp)]; rfl) ?_
              exact fr_iret rfl d_FR_decidingPosition_75 ⟨rfl, rfl⟩
theorem c_FR_dp {g : fw_G} {nc ns : Nat} {w : fw_W} {o gr na us : Nat} (h0 : w o = some (.inr (0, [.ref gr, .ref na, .int (nI us)]))) {ng a1 a2 a3 a4 : Nat} {f1 f2 f3 f4 : Nat → Int64} (hG : gr_at g w gr a1 a2 a3 a4 ng f1 f2 f3 f4) {nd : fs_D} {ad : Nat → Option Nat} {lq ld lc : Nat → Nat} {lt : Nat → List Nat} (hr : fs_rN g w nd ad lq ld lc lt) (hok : fs_ok us ng nd) {n v a p r : Nat} {N V : fs_N} (hA : nd n = some N) (hV : nd v = some V) (ha : ad n = some a) (hp : ad v = some p) (hr8 : r < 8) {u : Nat} (hu : u < 64) : fw_R g m_FR_decidingPosition (fw_pv (.int (fs_ov ((fs_lv1 (fs_hit (fun i u => bb (f4 i) u) N n v r u) (fs_es nd v)).map (fun q => q.1)))) w) nc ns w 0 [(0, .ref o), (1, .ref p), (2, .ref a), (3, .int (nI u)), (4, .int (nI r))] [] := by
  refine fr_iconst (pc := 0) (v := -1) d_FR_decidingPosition_0 (by decide) ?_
  refine fr_istore (pc := 1) (L2 := [(0, .ref o), (1, .ref p), (2, .ref a), (3, .int (nI u)), (4, .int (nI r)), (5, .int (-1))]) d_FR_decidingPosition_1 (by decide) rfl ?_
  refine fr_iconst (pc := 3) (v := 0) d_FR_decidingPosition_3 (by decide) ?_
  refine fr_istore (pc := 4) (L2 := [(0, .ref o), (1, .ref p), (2, .ref a), (3, .int (nI u)), (4, .int (nI r)), (5, .int (-1)), (6, .int 0)]) d_FR_decidingPosition_4 (by decide) rfl ?_
  have e : (fs_lv1 (fs_hit (fun i u => bb (f4 i) u) N n v r u) (fs_es nd v)).map (fun q => q.1) = fs_dp (fs_hit (fun i u => bb (f4 i) u) N n v r u) none (V.2.2.2.2.2.drop 0) 0 := by rw [← fs_dp_lv1]; simp [fs_es, hV]
  rw [e]
  exact c_FR_dp_l h0 hG hr hok hA hV ha hp hr8 hu V.2.2.2.2.2.length 0 none (Nat.zero_add _) (fun j hj => by cases hj) _ rfl
theorem c_FR_hold_l {g : fw_G} {nc ns : Nat} {w : fw_W} {o gr na us : Nat} (h0 : w o = some (.inr (0, [.ref gr, .ref na, .int (nI us)]))) {ng a1 a2 a3 a4 : Nat} {f1 f2 f3 f4 : Nat → Int64} (hG : gr_at g w gr a1 a2 a3 a4 ng f1 f2 f3 f4) {nd : fs_D} {ad : Nat → Option Nat} {lq ld lc : Nat → Nat} {lt : Nat → List Nat} (hr : fs_rN g w nd ad lq ld lc lt) (hok : fs_ok us ng nd) {n a r : Nat} {N : fs_N} (hA : nd n = some N) (ha : ad n = some a) (hr8 : r < 8) : ∀ (l : List Nat) (v p : Nat) (h d : Int64), fs_ch nd v l → ad v = some p → ∀ L : List (Nat × Value), L = [(0, .ref o), (1, .ref a), (2, .int (nI r)), (3, .long h), (5, .long d), (7, .ref p)] → fw_R g m_FR_holders (fw_pv (.long (fs_hs nd f4 N n r h d (fs_lv nd (v :: l)))) w) nc ns w 23 L [] := by
  intro l
  induction l with
  | nil =>
    intro v p h d hc hp L hL
    subst hL
    obtain ⟨V, hV⟩ : ∃ V, nd v = some V := fs_ch_some _ _ hc v (Or.inl rfl)
    obtain ⟨-, p0, hp0, hcp, -, -⟩ := hr.2.1 v V hV
    rw [hp] at hp0; cases hp0
    obtain ⟨V2, hV2, hpr⟩ := hc
    rw [hV] at hV2; cases hV2
    refine fr_aload (pc := 23) d_FR_holders_23 rfl ?_
    refine fr_ifnull (pc := 25) d_FR_holders_25 ?_
    refine fr_aload_n (pc := 28) d_FR_holders_28 rfl rfl ?_
    refine fr_aload (pc := 29) d_FR_holders_29 rfl ?_
    refine fr_aload_n (pc := 31) d_FR_holders_31 rfl rfl ?_
    refine fr_iload_n (pc := 32) d_FR_holders_32 rfl rfl ?_
    refine fr_iconst (pc := 33) (v := 0) d_FR_holders_33 (by decide) ?_
    refine fr_st (st2 := [.int (bI false), .int (nI r), .ref a, .ref p, .ref o]) rfl ?_
    refine fr_callv_p (pc := 34) (nc := nc) (ns := ns) (N := m_FR_hitUsers) (rest := []) (as := [.ref p, .ref a, .int (nI r), .int (bI false)]) d_FR_holders_34 vc_FR_216 ⟨by decide, by decide, Nat.le_of_ble_eq_true rfl⟩ (Nat.le_of_ble_eq_true rfl) h0 (c_FR_hit h0 hG hr hok hA hV ha hp hr8) rfl ?_
    refine fr_lstore (pc := 37) (L2 := [(0, .ref o), (1, .ref a), (2, .int (nI r)), (3, .long h), (5, .long d), (7, .ref p), (8, .long (fs_hb f4 N n v r false 0 (fs_es nd v)))]) d_FR_holders_37 (by decide) rfl ?_
    refine fr_aload_n (pc := 39) d_FR_holders_39 rfl rfl ?_
    refine fr_aload (pc := 40) d_FR_holders_40 rfl ?_
    refine fr_aload_n (pc := 42) d_FR_holders_42 rfl rfl ?_
    refine fr_iload_n (pc := 43) d_FR_holders_43 rfl rfl ?_
    refine fr_iconst (pc := 44) (v := 1) d_FR_holders_44 (by decide) ?_
    refine fr_st (st2 := [.int (bI true), .int (nI r), .ref a, .ref p, .ref o]) rfl ?_
    refine fr_callv_p (pc := 45) (nc := nc) (ns := ns) (N := m_FR_hitUsers) (rest := []) (as := [.ref p, .ref a, .int (nI r), .int (bI true)]) d_FR_holders_45 vc_FR_216 ⟨by decide, by decide, Nat.le_of_ble_eq_true rfl⟩ (Nat.le_of_ble_eq_true rfl) h0 (c_FR_hit h0 hG hr hok hA hV ha hp hr8) rfl ?_
    refine fr_lstore (pc := 48) (L2 := [(0, .ref o), (1, .ref a), (2, .int (nI r)), (3, .long h), (5, .long d), (7, .ref p), (8, .long (fs_hb f4 N n v r false 0 (fs_es nd v))), (10, .long (fs_hb f4 N n v r true 0 (fs_es nd v)))]) d_FR_holders_48 (by decide) rfl ?_
    refine fr_lload_n (pc := 50) d_FR_holders_50 rfl rfl ?_
    refine fr_lload (pc := 51) d_FR_holders_51 rfl ?_
    refine fr_lload (pc := 53) d_FR_holders_53 rfl ?_
    refine fr_ldc2 (pc := 55) (v := -1) d_FR_holders_55 (fw_t 538 (by decide +kernel)) ?_
    refine fr_lxor (pc := 58) d_FR_holders_58 ?_
    refine fr_land (pc := 59) d_FR_holders_59 ?_
    refine fr_lload (pc := 60) d_FR_holders_60 rfl ?_
    refine fr_ldc2 (pc := 62) (v := -1) d_FR_holders_62 (fw_t 538 (by decide +kernel)) ?_
    refine fr_lxor (pc := 65) d_FR_holders_65 ?_
    refine fr_land (pc := 66) d_FR_holders_66 ?_
    refine fr_lor (pc := 67) d_FR_holders_67 ?_
    refine fr_lstore_n (pc := 68) (L2 := [(0, .ref o), (1, .ref a), (2, .int (nI r)), (3, .long (h ||| (((fs_hb f4 N n v r true 0 (fs_es nd v)) &&& ((fs_hb f4 N n v r false 0 (fs_es nd v)) ^^^ (-1))) &&& (d ^^^ (-1))))), (5, .long d), (7, .ref p), (8, .long (fs_hb f4 N n v r false 0 (fs_es nd v))), (10, .long (fs_hb f4 N n v r true 0 (fs_es nd v)))]) d_FR_holders_68 rfl (by decide) rfl ?_
    refine fr_lload (pc := 69) d_FR_holders_69 rfl ?_
    refine fr_lload (pc := 71) d_FR_holders_71 rfl ?_
    refine fr_lload (pc := 73) d_FR_holders_73 rfl ?_
    refine fr_lor (pc := 75) d_FR_holders_75 ?_
    refine fr_lor (pc := 76) d_FR_holders_76 ?_
    refine fr_lstore (pc := 77) (L2 := [(0, .ref o), (1, .ref a), (2, .int (nI r)), (3, .long (h ||| (((fs_hb f4 N n v r true 0 (fs_es nd v)) &&& ((fs_hb f4 N n v r false 0 (fs_es nd v)) ^^^ (-1))) &&& (d ^^^ (-1))))), (5, .long (d ||| ((fs_hb f4 N n v r false 0 (fs_es nd v)) ||| (fs_hb f4 N n v r true 0 (fs_es nd v))))), (7, .ref p), (8, .long (fs_hb f4 N n v r false 0 (fs_es nd v))), (10, .long (fs_hb f4 N n v r true 0 (fs_es nd v)))]) d_FR_holders_77 (by decide) rfl ?_
    refine fr_aload (pc := 79) d_FR_holders_79 rfl ?_
    refine fr_callv_p (pc := 81) (nc := nc) (ns := ns) (N := m_ND_nextLevel) (rest := []) (as := []) d_FR_holders_81 vc_FR_189 ⟨by decide, by decide, Nat.le_of_ble_eq_true rfl⟩ (Nat.le_of_ble_eq_true rfl) hcp (c_ND_next hcp rfl rfl) rfl ?_
    refine fr_st (st2 := [.null]) (by rw [hpr]; cases V.2.2.2.1 <;> rfl) ?_
    refine fr_astoreN (pc := 84) (L2 := [(0, .ref o), (1, .ref a), (2, .int (nI r)), (3, .long (h ||| (((fs_hb f4 N n v r true 0 (fs_es nd v)) &&& ((fs_hb f4 N n v r false 0 (fs_es nd v)) ^^^ (-1))) &&& (d ^^^ (-1))))), (5, .long (d ||| ((fs_hb f4 N n v r false 0 (fs_es nd v)) ||| (fs_hb f4 N n v r true 0 (fs_es nd v))))), (7, .null), (8, .long (fs_hb f4 N n v r false 0 (fs_es nd v))), (10, .long (fs_hb f4 N n v r true 0 (fs_es nd v)))]) d_FR_holders_84 (by decide) rfl ?_
    refine fr_goto (pc := 86) (tgt := 23) d_FR_holders_86 (by decide) ?_
    refine fr_aloadN (pc := 23) d_FR_holders_23 rfl ?_
    refine fr_ifnullN (pc := 25) (tgt := 89) d_FR_holders_25 (by decide) ?_
    refine fr_lload_n (pc := 89) d_FR_holders_89 rfl rfl ?_
    have e : fs_hs nd f4 N n r h d (fs_lv nd [v]) = (h ||| (((fs_hb f4 N n v r true 0 (fs_es nd v)) &&& ((fs_hb f4 N n v r false 0 (fs_es nd v)) ^^^ (-1))) &&& (d ^^^ (-1)))) := by
      have e2 : fs_lv nd [v] = [v] := by simp [fs_lv]
      rw [e2]; rfl
    rw [e]
    exact fr_lret rfl d_FR_holders_90 ⟨rfl, rfl⟩
  | cons pa t ih =>
    intro v p h d hc hp L hL
    subst hL
    obtain ⟨V, hV⟩ : ∃ V, nd v = some V := fs_ch_some _ _ hc v (Or.inl rfl)
    obtain ⟨-, p0, hp0, hcp, -, -⟩ := hr.2.1 v V hV
    rw [hp] at hp0; cases hp0
    obtain ⟨⟨V2, hV2, hpr⟩, hc2⟩ := hc
    rw [hV] at hV2; cases hV2
    obtain ⟨PA, hPA⟩ := fs_ch_some _ _ hc2 pa (Or.inl rfl)
    obtain ⟨-, p2, hp2, -, -, -⟩ := hr.2.1 pa PA hPA
    refine fr_aload (pc := 23) d_FR_holders_23 rfl ?_
    refine fr_ifnull (pc := 25) d_FR_holders_25 ?_
    refine fr_aload_n (pc := 28) d_FR_holders_28 rfl rfl ?_
    refine fr_aload (pc := 29) d_FR_holders_29 rfl ?_
    refine fr_aload_n (pc := 31) d_FR_holders_31 rfl rfl ?_
    refine fr_iload_n (pc := 32) d_FR_holders_32 rfl rfl ?_
    refine fr_iconst (pc := 33) (v := 0) d_FR_holders_33 (by decide) ?_
    refine fr_st (st2 := [.int (bI false), .int (nI r), .ref a, .ref p, .ref o]) rfl ?_
    refine fr_callv_p (pc := 34) (nc := nc) (ns := ns) (N := m_FR_hitUsers) (rest := []) (as := [.ref p, .ref a, .int (nI r), .int (bI false)]) d_FR_holders_34 vc_FR_216 ⟨by decide, by decide, Nat.le_of_ble_eq_true rfl⟩ (Nat.le_of_ble_eq_true rfl) h0 (c_FR_hit h0 hG hr hok hA hV ha hp hr8) rfl ?_
    refine fr_lstore (pc := 37) (L2 := [(0, .ref o), (1, .ref a), (2, .int (nI r)), (3, .long h), (5, .long d), (7, .ref p), (8, .long (fs_hb f4 N n v r false 0 (fs_es nd v)))]) d_FR_holders_37 (by decide) rfl ?_
    refine fr_aload_n (pc := 39) d_FR_holders_39 rfl rfl ?_
    refine fr_aload (pc := 40) d_FR_holders_40 rfl ?_
    refine fr_aload_n (pc := 42) d_FR_holders_42 rfl rfl ?_
    refine fr_iload_n (pc := 43) d_FR_holders_43 rfl rfl ?_
    refine fr_iconst (pc := 44) (v := 1) d_FR_holders_44 (by decide) ?_
    refine fr_st (st2 := [.int (bI true), .int (nI r), .ref a, .ref p, .ref o]) rfl ?_
    refine fr_callv_p (pc := 45) (nc := nc) (ns := ns) (N := m_FR_hitUsers) (rest := []) (as := [.ref p, .ref a, .int (nI r), .int (bI true)]) d_FR_holders_45 vc_FR_216 ⟨by decide, by decide, Nat.le_of_ble_eq_true rfl⟩ (Nat.le_of_ble_eq_true rfl) h0 (c_FR_hit h0 hG hr hok hA hV ha hp hr8) rfl ?_
    refine fr_lstore (pc := 48) (L2 := [(0, .ref o), (1, .ref a), (2, .int (nI r)), (3, .long h), (5, .long d), (7, .ref p), (8, .long (fs_hb f4 N n v r false 0 (fs_es nd v))), (10, .long (fs_hb f4 N n v r true 0 (fs_es nd v)))]) d_FR_holders_48 (by decide) rfl ?_
    refine fr_lload_n (pc := 50) d_FR_holders_50 rfl rfl ?_
    refine fr_lload (pc := 51) d_FR_holders_51 rfl ?_
    refine fr_lload (pc := 53) d_FR_holders_53 rfl ?_
    refine fr_ldc2 (pc := 55) (v := -1) d_FR_holders_55 (fw_t 538 (by decide +kernel)) ?_
    refine fr_lxor (pc := 58) d_FR_holders_58 ?_
    refine fr_land (pc := 59) d_FR_holders_59 ?_
    refine fr_lload (pc := 60) d_FR_holders_60 rfl ?_
    refine fr_ldc2 (pc := 62) (v := -1) d_FR_holders_62 (fw_t 538 (by decide +kernel)) ?_
    refine fr_lxor (pc := 65) d_FR_holders_65 ?_
    refine fr_land (pc := 66) d_FR_holders_66 ?_
    refine fr_lor (pc := 67) d_FR_holders_67 ?_
    refine fr_lstore_n (pc := 68) (L2 := [(0, .ref o), (1, .ref a), (2, .int (nI r)), (3, .long (h ||| (((fs_hb f4 N n v r true 0 (fs_es nd v)) &&& ((fs_hb f4 N n v r false 0 (fs_es nd v)) ^^^ (-1))) &&& (d ^^^ (-1))))), (5, .long d), (7, .ref p), (8, .long (fs_hb f4 N n v r false 0 (fs_es nd v))), (10, .long (fs_hb f4 N n v r true 0 (fs_es nd v)))]) d_FR_holders_68 rfl (by decide) rfl ?_
    refine fr_lload (pc := 69) d_FR_holders_69 rfl ?_
    refine fr_lload (pc := 71) d_FR_holders_71 rfl ?_
    refine fr_lload (pc := 73) d_FR_holders_73 rfl ?_
    refine fr_lor (pc := 75) d_FR_holders_75 ?_
    refine fr_lor (pc := 76) d_FR_holders_76 ?_
    refine fr_lstore (pc := 77) (L2 := [(0, .ref o), (1, .ref a), (2, .int (nI r)), (3, .long (h ||| (((fs_hb f4 N n v r true 0 (fs_es nd v)) &&& ((fs_hb f4 N n v r false 0 (fs_es nd v)) ^^^ (-1))) &&& (d ^^^ (-1))))), (5, .long (d ||| ((fs_hb f4 N n v r false 0 (fs_es nd v)) ||| (fs_hb f4 N n v r true 0 (fs_es nd v))))), (7, .ref p), (8, .long (fs_hb f4 N n v r false 0 (fs_es nd v))), (10, .long (fs_hb f4 N n v r true 0 (fs_es nd v)))]) d_FR_holders_77 (by decide) rfl ?_
    refine fr_aload (pc := 79) d_FR_holders_79 rfl ?_
    refine fr_callv_p (pc := 81) (nc := nc) (ns := ns) (N := m_ND_nextLevel) (rest := []) (as := []) d_FR_holders_81 vc_FR_189 ⟨by decide, by decide, Nat.le_of_ble_eq_true rfl⟩ (Nat.le_of_ble_eq_true rfl) hcp (c_ND_next hcp rfl rfl) rfl ?_
    cases hbl : V.2.2.2.1 with
    | true =>
      refine fr_st (st2 := [.null]) rfl ?_
      refine fr_astoreN (pc := 84) (L2 := [(0, .ref o), (1, .ref a), (2, .int (nI r)), (3, .long (h ||| (((fs_hb f4 N n v r true 0 (fs_es nd v)) &&& ((fs_hb f4 N n v r false 0 (fs_es nd v)) ^^^ (-1))) &&& (d ^^^ (-1))))), (5, .long (d ||| ((fs_hb f4 N n v r false 0 (fs_es nd v)) ||| (fs_hb f4 N n v r true 0 (fs_es nd v))))), (7, .null), (8, .long (fs_hb f4 N n v r false 0 (fs_es nd v))), (10, .long (fs_hb f4 N n v r true 0 (fs_es nd v)))]) d_FR_holders_84 (by decide) rfl ?_
      refine fr_goto (pc := 86) (tgt := 23) d_FR_holders_86 (by decide) ?_
      refine fr_aloadN (pc := 23) d_FR_holders_23 rfl ?_
      refine fr_ifnullN (pc := 25) (tgt := 89) d_FR_holders_25 (by decide) ?_
      refine fr_lload_n (pc := 89) d_FR_holders_89 rfl rfl ?_
      have e : fs_hs nd f4 N n r h d (fs_lv nd (v :: pa :: t)) = (h ||| (((fs_hb f4 N n v r true 0 (fs_es nd v)) &&& ((fs_hb f4 N n v r false 0 (fs_es nd v)) ^^^ (-1))) &&& (d ^^^ (-1)))) := by
        have e2 : fs_lv nd (v :: pa :: t) = [v] := by simp [fs_lv, fs_bl, hV, hbl]
        rw [e2]; rfl
      rw [e]
      exact fr_lret rfl d_FR_holders_90 ⟨rfl, rfl⟩
    | false =>
      refine fr_st (st2 := [.ref p2]) (by rw [hpr]; show [va_rf (ad pa)] = _; rw [rf_some hp2]) ?_
      refine fr_astore (pc := 84) (L2 := [(0, .ref o), (1, .ref a), (2, .int (nI r)), (3, .long (h ||| (((fs_hb f4 N n v r true 0 (fs_es nd v)) &&& ((fs_hb f4 N n v r false 0 (fs_es nd v)) ^^^ (-1))) &&& (d ^^^ (-1))))), (5, .long (d ||| ((fs_hb f4 N n v r false 0 (fs_es nd v)) ||| (fs_hb f4 N n v r true 0 (fs_es nd v))))), (7, .ref p2), (8, .long (fs_hb f4 N n v r false 0 (fs_es nd v))), (10, .long (fs_hb f4 N n v r true 0 (fs_es nd v)))]) d_FR_holders_84 (by decide) rfl ?_
      refine fr_goto (pc := 86) (tgt := 23) d_FR_holders_86 (by decide) ?_
      have e : fs_hs nd f4 N n r h d (fs_lv nd (v :: pa :: t)) = fs_hs nd f4 N n r (h ||| (((fs_hb f4 N n v r true 0 (fs_es nd v)) &&& ((fs_hb f4 N n v r false 0 (fs_es nd v)) ^^^ (-1))) &&& (d ^^^ (-1)))) (d ||| ((fs_hb f4 N n v r false 0 (fs_es nd v)) ||| (fs_hb f4 N n v r true 0 (fs_es nd v)))) (fs_lv nd (pa :: t)) := by
        have e2 : fs_lv nd (v :: pa :: t) = v :: fs_lv nd (pa :: t) := by
          rw [fs_lv]; simp [fs_bl, hV, hbl]
        rw [e2]; rfl
      rw [e]
      exact fr_Ld (fr_Ld (ih pa p2 _ _ hc2 hp2 _ rfl))
theorem c_FR_hold {g : fw_G} {nc ns : Nat} {w : fw_W} {o gr na us : Nat} (h0 : w o = some (.inr (0, [.ref gr, .ref na, .int (nI us)]))) {ng a1 a2 a3 a4 : Nat} {f1 f2 f3 f4 : Nat → Int64} (hG : gr_at g w gr a1 a2 a3 a4 ng f1 f2 f3 f4) {nd : fs_D} {ad : Nat → Option Nat} {lq ld lc : Nat → Nat} {lt : Nat → List Nat} (hr : fs_rN g w nd ad lq ld lc lt) (hok : fs_ok us ng nd) {n a r : Nat} {N : fs_N} (hA : nd n = some N) (ha : ad n = some a) (hr8 : r < 8) : fw_R g m_FR_holders (fw_pv (.long (fs_hs nd f4 N n r (if r = 7 then (1 : Int64) <<< ((nI N.2.2.1).toInt64 &&& 63) else 0) (if r = 7 then (1 : Int64) <<< ((nI N.2.2.1).toInt64 &&& 63) else 0) (fs_ls nd n))) w) nc ns w 0 [(0, .ref o), (1, .ref a), (2, .int (nI r))] [] := by
  obtain ⟨-, a0, ha0, hca, -, -⟩ := hr.2.1 n N hA
  rw [ha] at ha0; cases ha0
  obtain ⟨-, -, -, -, hk5⟩ := id hok
  obtain ⟨-, -, -, -, -, hchn, -⟩ := hk5 n N hA
  refine fr_iload_n (pc := 0) d_FR_holders_0 rfl rfl ?_
  refine fr_bipush (pc := 1) (v := 7) d_FR_holders_1 (by decide) ?_
  refine fr_icmp_ne (pc := 3) (tgt := 15) d_FR_holders_3 (by decide) (fun q => ?_) (fun q => ?_)
  · have h7 : ¬ r = 7 := fun z => q (by rw [z]; rfl)
    rw [if_neg h7]
    refine fr_lconst (pc := 15) (v := 0) d_FR_holders_15 (by decide) ?_
    refine fr_lstore_n (pc := 16) (L2 := [(0, .ref o), (1, .ref a), (2, .int (nI r)), (3, .long 0)]) d_FR_holders_16 rfl (by decide) rfl ?_
    refine fr_lload_n (pc := 17) d_FR_holders_17 rfl rfl ?_
    refine fr_lstore (pc := 18) (L2 := [(0, .ref o), (1, .ref a), (2, .int (nI r)), (3, .long 0), (5, .long 0)]) d_FR_holders_18 (by decide) rfl ?_
    refine fr_aload_n (pc := 20) d_FR_holders_20 rfl rfl ?_
    refine fr_astore (pc := 21) (L2 := [(0, .ref o), (1, .ref a), (2, .int (nI r)), (3, .long 0), (5, .long 0), (7, .ref a)]) d_FR_holders_21 (by decide) rfl ?_
    exact c_FR_hold_l h0 hG hr hok hA ha hr8 _ n a _ _ hchn ha _ rfl
  · have h7 : r = 7 := (ni_eq (b := 7) (by omega) (by omega)).mp q
    rw [if_pos h7]
    refine fr_lconst (pc := 6) (v := 1) d_FR_holders_6 (by decide) ?_
    refine fr_aload_n (pc := 7) d_FR_holders_7 rfl rfl ?_
    refine fr_get (pc := 8) (v := .int (nI N.2.2.1)) d_FR_holders_8 fg_FR_156 hca rfl ?_
    refine fr_lshl (pc := 11) d_FR_holders_11 rfl ?_
    refine fr_goto (pc := 12) (tgt := 16) d_FR_holders_12 (by decide) ?_
    refine fr_lstore_n (pc := 16) (L2 := [(0, .ref o), (1, .ref a), (2, .int (nI r)), (3, .long (1 <<< (((nI N.2.2.1)).toInt64 &&& 63)))]) d_FR_holders_16 rfl (by decide) rfl ?_
    refine fr_lload_n (pc := 17) d_FR_holders_17 rfl rfl ?_
    refine fr_lstore (pc := 18) (L2 := [(0, .ref o), (1, .ref a), (2, .int (nI r)), (3, .long (1 <<< (((nI N.2.2.1)).toInt64 &&& 63))), (5, .long (1 <<< (((nI N.2.2.1)).toInt64 &&& 63)))]) d_FR_holders_18 (by decide) rfl ?_
    refine fr_aload_n (pc := 20) d_FR_holders_20 rfl rfl ?_
    refine fr_astore (pc := 21) (L2 := [(0, .ref o), (1, .ref a), (2, .int (nI r)), (3, .long (1 <<< (((nI N.2.2.1)).toInt64 &&& 63))), (5, .long (1 <<< (((nI N.2.2.1)).toInt64 &&& 63))), (7, .ref a)]) d_FR_holders_21 (by decide) rfl ?_
    exact c_FR_hold_l h0 hG hr hok hA ha hr8 _ n a _ _ hchn ha _ rfl
theorem c_FR_fieldOf {g : fw_G} {nc ns : Nat} {w : fw_W} {f : Nat} {x y z : Int32} (hf : f < 3) : fw_R g m_FR_fieldOf (fw_pv (.int (if f = 0 then x else if f = 1 then y else z)) w) nc ns w 0 [(0, .int (nI f)), (1, .int x), (2, .int y), (3, .int z)] [] := by
  refine fr_iload_n (pc := 0) d_FR_fieldOf_0 rfl rfl ?_
  refine fr_if_ne (pc := 1) (tgt := 6) d_FR_fieldOf_1 (by decide) (fun q => ?_) (fun q => ?_)
  · have h0 : ¬ f = 0 := fun e => q (by rw [e]; rfl)
    rw [if_neg h0]
    refine fr_iload_n (pc := 6) d_FR_fieldOf_6 rfl rfl ?_
    refine fr_iconst (pc := 7) (v := 1) d_FR_fieldOf_7 (by decide) ?_
    refine fr_icmp_ne (pc := 8) (tgt := 15) d_FR_fieldOf_8 (by decide) (fun q2 => ?_) (fun q2 => ?_)
    · have h1 : ¬ f = 1 := fun e => q2 (by rw [e]; rfl)
      rw [if_neg h1]
      refine fr_iload_n (pc := 15) d_FR_fieldOf_15 rfl rfl ?_
      exact fr_iret rfl d_FR_fieldOf_16 ⟨rfl, rfl⟩
    · have h1 : f = 1 := (ni_eq (b := 1) (by omega) (by omega)).mp q2
      rw [if_pos h1]
      refine fr_iload_n (pc := 11) d_FR_fieldOf_11 rfl rfl ?_
      refine fr_goto (pc := 12) (tgt := 16) d_FR_fieldOf_12 (by decide) ?_
      exact fr_iret rfl d_FR_fieldOf_16 ⟨rfl, rfl⟩
  · have h0 : f = 0 := (ni_eq (b := 0) (by omega) (by omega)).mp q
    rw [if_pos h0]
    refine fr_iload_n (pc := 4) d_FR_fieldOf_4 rfl rfl ?_
    exact fr_iret rfl d_FR_fieldOf_5 ⟨rfl, rfl⟩

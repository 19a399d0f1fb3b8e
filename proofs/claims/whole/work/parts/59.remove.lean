theorem fs_pad {g : fw_G} {w : fw_W} {nd : fs_D} {ad : Nat → Option Nat} {lq ld lc : Nat → Nat} {lt : Nat → List Nat} (hr : fs_rN g w nd ad lq ld lc lt) {k p : Nat} {N : fs_N} (hk : nd k = some N) (hch : fs_ch nd k (fs_ab nd k)) (hp : N.2.1 = some p) : ∃ Pn b, nd p = some Pn ∧ ad p = some b := by
  obtain ⟨Pn, hPn⟩ : ∃ Pn, nd p = some Pn := by
    cases hab : fs_ab nd k with
    | nil => rw [hab] at hch; obtain ⟨N9, e1, e2⟩ := hch; rw [hk] at e1; cases e1; rw [hp] at e2; cases e2
    | cons p9 t9 => rw [hab] at hch; obtain ⟨⟨N9, e1, e2⟩, e3⟩ := hch; rw [hk] at e1; cases e1; rw [hp] at e2; cases e2; exact fs_ch_some _ _ e3 p (Or.inl rfl)
  obtain ⟨-, b, hb, -⟩ := hr.2.1 p Pn hPn
  exact ⟨Pn, b, hPn, hb⟩
theorem fs_sum_0 {f : Nat → Nat} : ∀ m k, fs_sum f m k = 0 → ∀ j, k ≤ j → j < k + m → f j = 0 := by
  intro m
  induction m with
  | zero => intro k _ j h1 h2; omega
  | succ m ih =>
    intro k h j h1 h2
    rw [fs_sum] at h
    by_cases e : j = k
    · subst e; omega
    · exact ih (k + 1) (by omega) j (by omega) (by omega)
theorem fs_sum_le {f : Nat → Nat} {B : Nat} (hf : ∀ k, f k ≤ B) : ∀ m k, fs_sum f m k ≤ m * B := by
  intro m
  induction m with
  | zero => intro k; simp [fs_sum]
  | succ m ih => intro k; rw [fs_sum, Nat.succ_mul]; have := hf k; have := ih (k + 1); omega
theorem fs_f4_1 (nd : fs_D) (t k : Nat) : fs_f4 nd t k ≤ 1 := by
  unfold fs_f4
  split
  · split <;> omega
  · omega
theorem fs_nokid {nd : fs_D} {t : Nat} (hb : ∀ k N, nd k = some N → k < 150) (h : fs_sum (fs_f4 nd t) 150 0 = 0) : ∀ j M, nd j = some M → M.2.1 ≠ some t := by
  intro j M hj hp
  have h1 := fs_sum_0 150 0 h j (Nat.zero_le _) (by have := hb j M hj; omega)
  simp [fs_f4, hj, hp] at h1
theorem fs_ch_off {nd nd2 : fs_D} : ∀ (l : List Nat) (k : Nat), (∀ x, x = k ∨ x ∈ l → nd2 x = nd x) → fs_ch nd k l → fs_ch nd2 k l := by
  intro l
  induction l with
  | nil =>
    rintro k h ⟨N, h1, h2⟩
    exact ⟨N, by rw [h k (Or.inl rfl)]; exact h1, h2⟩
  | cons p t ih =>
    rintro k h ⟨⟨N, h1, h2⟩, h3⟩
    exact ⟨⟨N, by rw [h k (Or.inl rfl)]; exact h1, h2⟩, ih p (fun x hx => h x (Or.inr (List.mem_cons.mpr hx))) h3⟩
theorem fs_ch_np {nd : fs_D} {t : Nat} (h : ∀ j M, nd j = some M → M.2.1 ≠ some t) : ∀ (l : List Nat) (k : Nat), fs_ch nd k l → t ∉ l := by
  intro l
  induction l with
  | nil => intro k _ hm; cases hm
  | cons p r ih =>
    rintro k ⟨⟨N, h1, h2⟩, h3⟩ hm
    rcases List.mem_cons.mp hm with rfl | hm
    · exact h k N h1 h2
    · exact ih p h3 hm
theorem fs_ab_of {nd : fs_D} {k : Nat} {l : List Nat} (h : fs_ch nd k l) (hl : l.length ≤ 20) : fs_ab nd k = l := fs_an_ch l k 21 h (by omega)
theorem fs_ok_rm {us n : Nat} {nd : fs_D} (h : fs_ok us n nd) {t : Nat} (ht : t ≠ 0) (hno : ∀ j M, nd j = some M → M.2.1 ≠ some t) : fs_ok us n (va_up nd t none) := by
  obtain ⟨q1, q2, q3, ⟨N0, q4, q6⟩, q5⟩ := h
  refine ⟨q1, q2, q3, ⟨N0, by rw [vu_ne (Ne.symm ht)]; exact q4, q6⟩, fun k N hk => ?_⟩
  have hkt : k ≠ t := fun e => by subst e; rw [vu_self] at hk; cases hk
  rw [vu_ne hkt] at hk
  obtain ⟨e1, e2, e3, e4, e5, e6, e7⟩ := q5 k N hk
  have hc := fs_ch_off (nd2 := va_up nd t none) _ _ (fun x hx => by
    refine vu_ne (fun e => ?_)
    subst e
    rcases hx with hx | hx
    · exact hkt hx.symm
    · exact fs_ch_np hno _ _ e6 hx) e6
  refine ⟨e1, e2, e3, e4, e5, ?_, ?_⟩
  · rw [fs_ab_of hc e7]; exact hc
  · rw [fs_ab_of hc e7]; exact e7
theorem fs_rN_rm {g : fw_G} {w : fw_W} {nd : fs_D} {ad : Nat → Option Nat} {lq ld lc : Nat → Nat} {lt : Nat → List Nat} (h : fs_rN g w nd ad lq ld lc lt) {t : Nat} (hno : ∀ j M, nd j = some M → M.2.1 ≠ some t) : fs_rN g w (va_up nd t none) (va_up ad t none) lq ld lc lt := by
  obtain ⟨h0, h1, h2, h3⟩ := h
  have hnn : ∀ j, va_up nd t none j ≠ none → nd j ≠ none := fun j hj => by
    by_cases e : j = t
    · subst e; rw [vu_self] at hj; exact absurd rfl hj
    · rwa [vu_ne e] at hj
  refine ⟨fun j hj => ?_, fun j M hj => ?_, fun i j e1 e2 => h2 i j (hnn i e1) (hnn j e2), fun i j e1 e2 => h3 i j (hnn i e1) (hnn j e2)⟩
  · by_cases e : j = t
    · subst e; exact vu_self
    · rw [vu_ne e] at hj ⊢; exact h0 j hj
  · have e : j ≠ t := fun e => by subst e; rw [vu_self] at hj; cases hj
    rw [vu_ne e] at hj
    obtain ⟨p1, a, ha, hc, hl, hE⟩ := h1 j M hj
    refine ⟨p1, a, by rw [vu_ne e]; exact ha, ?_, hl, hE⟩
    have eb : M.2.1.bind (va_up ad t none) = M.2.1.bind ad := by
      cases hp : M.2.1 with
      | none => rfl
      | some p =>
        show va_up ad t none p = ad p
        exact vu_ne (fun e2 => hno j M hj (by rw [hp, e2]))
    rw [eb]; exact hc
theorem fs_kk_no {g : fw_G} {ad : Nat → Option Nat} : ¬ fs_kk (fs_no g ad) := by
  rintro (⟨c2, f2, e, h1, h2⟩ | ⟨c, n, f, e, h⟩)
  · cases e
  · cases e; exact h rfl
theorem fr_aastNk {g : fw_G} {M : fw_M} {Post : fw_O → fw_W → Prop} {nc ns : Nat} {w : fw_W} {pc : Nat} {L : List (Nat × Value)} {rest : List Value} {a n k t : Nat} {C : String} {f : Nat → Option Nat} (hd : decode M.2.1 pc = .ok (.aastore, 1)) (ht : fw_kd t (.object C)) (ha : w a = some (.inl (fw_c g t, n, .inr (.inr (.inr (.inr f)))))) (hk : k < n) (hn : n < 2 ^ 31) (kk : fw_R g M Post nc ns (fw_up w a (.inl (fw_c g t, n, .inr (.inr (.inr (.inr (va_up f k none))))))) (pc + 1) L rest) : fw_R g M Post nc ns w pc L (.null :: .int (nI k) :: .ref a :: rest) :=
  fr_aastN hd ht ha (vp_in_nI hk hn) (by rw [nI_clamp (by omega)]; exact kk)
theorem fr_aastk {g : fw_G} {M : fw_M} {Post : fw_O → fw_W → Prop} {nc ns : Nat} {w : fw_W} {pc : Nat} {L : List (Nat × Value)} {rest : List Value} {a n k t v ci : Nat} {r : vw_C} {f : Nat → Option Nat} {vs : List Value} (hd : decode M.2.1 pc = .ok (.aastore, 1)) (hr : fw_cl[ci]? = some r) (ht : fw_kd t (.object r.1)) (ha : w a = some (.inl (fw_c g t, n, .inr (.inr (.inr (.inr f)))))) (hv : w v = some (.inr (ci, vs))) (hk : k < n) (hn : n < 2 ^ 31) (kk : fw_R g M Post nc ns (fw_up w a (.inl (fw_c g t, n, .inr (.inr (.inr (.inr (va_up f k (some v)))))))) (pc + 1) L rest) : fw_R g M Post nc ns w pc L (.ref v :: .int (nI k) :: .ref a :: rest) :=
  fr_aast hd hr ht ha hv (vp_in_nI hk hn) (by rw [nI_clamp (by omega)]; exact kk)
theorem p_FR_remove_n1 {g : fw_G} {w : fw_W} {o gr a1 a2 a3 a4 na us n : Nat} {hu hg : Nat → Nat → Bool} {nd : fs_D} (hX : fs_X g (o, gr, a1, a2, a3, a4, na) (us, n, hu, hg, nd) w) {x : Int32} (hx : ∀ k, x = nI k → nd k = none) : fw_R g m_FR_remove (fs_P g (o, gr, a1, a2, a3, a4, na) w (.inr "java/util/NoSuchElementException") (us, n, hu, hg, nd)) 3 18 w 0 [(0, .ref o), (1, .int x)] [] := by
  obtain ⟨f1, f2, f3, f4, ad, lq, ld, lc, lt, hok, h0, hG, hR, hN, hr⟩ := fs_X_el hX
  refine fr_aload_n (pc := 0) d_FR_remove_0 rfl rfl ?_
  refine fr_iload_n (pc := 1) d_FR_remove_1 rfl rfl ?_
  refine fr_callv_x (pc := 2) (nc := 2) (ns := 12) (N := m_FR_nodeAt) (rest := []) (as := [.int x]) d_FR_remove_2 vc_FR_63 ⟨by decide, by decide, Nat.le_of_ble_eq_true rfl⟩ (Nat.le_of_ble_eq_true rfl) h0 (x_FR_nodeAt h0 hN (fun k _ e => hr.1 k (hx k e))) rfl ?_
  exact fx_out (by decide) ⟨rfl, hX, fs_Fr_id⟩
theorem p_FR_remove_n2 {g : fw_G} {w : fw_W} {o gr a1 a2 a3 a4 na us n : Nat} {hu hg : Nat → Nat → Bool} {nd : fs_D} (hX : fs_X g (o, gr, a1, a2, a3, a4, na) (us, n, hu, hg, nd) w) {k : Nat} {N : fs_N} (hk : nd k = some N) (hp : N.2.1 = none) : fw_R g m_FR_remove (fs_P g (o, gr, a1, a2, a3, a4, na) w (.inr "java/lang/IllegalArgumentException") (us, n, hu, hg, nd)) 3 18 w 0 [(0, .ref o), (1, .int (nI k))] [] := by
  obtain ⟨f1, f2, f3, f4, ad, lq, ld, lc, lt, hok, h0, hG, hR, hN, hr⟩ := fs_X_el hX
  obtain ⟨hk150, a, ha, hc, hl, hE⟩ := hr.2.1 k N hk
  obtain ⟨-, hk0, how, hlen, hes, hch, hdep⟩ := hok.2.2.2.2 k N hk
  have h3 : (fs_nc k N (lq k) (N.2.1.bind ad))[3]? = some .null := by show some (va_rf (N.2.1.bind ad)) = _; rw [hp]; rfl
  refine fr_aload_n (pc := 0) d_FR_remove_0 rfl rfl ?_
  refine fr_iload_n (pc := 1) d_FR_remove_1 rfl rfl ?_
  refine fr_callv_p (pc := 2) (nc := 2) (ns := 12) (N := m_FR_nodeAt) (rest := []) (as := [.int (nI k)]) d_FR_remove_2 vc_FR_63 ⟨by decide, by decide, Nat.le_of_ble_eq_true rfl⟩ (Nat.le_of_ble_eq_true rfl) h0 (c_FR_nodeAt h0 hN hk150 ha) rfl ?_
  refine fr_astore_n (pc := 5) (L2 := [(0, .ref o), (1, .int (nI k)), (2, .ref a)]) d_FR_remove_5 rfl (by decide) rfl ?_
  refine fr_aload_n (pc := 6) d_FR_remove_6 rfl rfl ?_
  refine fr_calls_x (pc := 7) (nc := 1) (ns := 6) (N := m_FR_requireNotRoot) (rest := []) (as := [.ref a]) d_FR_remove_7 k_FR_requireNotRoot lk_FR_85 sc_FR_requireNotRoot np_FR_requireNotRoot ⟨by decide, by decide, Nat.le_of_ble_eq_true rfl⟩ (Nat.le_of_ble_eq_true rfl) (x_FR_requireNotRoot (p := 0) hc h3) rfl ?_
  exact fx_out (by decide) ⟨rfl, hX, fs_Fr_id⟩
theorem p_FR_remove_n3 {g : fw_G} {w : fw_W} {o gr a1 a2 a3 a4 na us n : Nat} {hu hg : Nat → Nat → Bool} {nd : fs_D} (hX : fs_X g (o, gr, a1, a2, a3, a4, na) (us, n, hu, hg, nd) w) {k : Nat} {N : fs_N} (hk : nd k = some N) {p : Nat} (hp : N.2.1 = some p) (hs : (fs_sum (fs_f4 nd k) 150 0) ≠ 0) : fw_R g m_FR_remove (fs_P g (o, gr, a1, a2, a3, a4, na) w (.inr "java/lang/IllegalStateException") (us, n, hu, hg, nd)) 3 18 w 0 [(0, .ref o), (1, .int (nI k))] [] := by
  obtain ⟨f1, f2, f3, f4, ad, lq, ld, lc, lt, hok, h0, hG, hR, hN, hr⟩ := fs_X_el hX
  obtain ⟨hk150, a, ha, hc, hl, hE⟩ := hr.2.1 k N hk
  obtain ⟨-, hk0, how, hlen, hes, hch, hdep⟩ := hok.2.2.2.2 k N hk
  have hs150 : fs_sum (fs_f4 nd k) 150 0 ≤ 150 := by have := fs_sum_le (fs_f4_1 nd k) 150 0; omega
  obtain ⟨Pn, pb, hPn, hpb⟩ := fs_pad hr hk hch hp
  have h3 : (fs_nc k N (lq k) (N.2.1.bind ad))[3]? = some (.ref pb) := by show some (va_rf (N.2.1.bind ad)) = _; rw [hp]; show some (va_rf (ad p)) = _; rw [rf_some hpb]
  refine fr_aload_n (pc := 0) d_FR_remove_0 rfl rfl ?_
  refine fr_iload_n (pc := 1) d_FR_remove_1 rfl rfl ?_
  refine fr_callv_p (pc := 2) (nc := 2) (ns := 12) (N := m_FR_nodeAt) (rest := []) (as := [.int (nI k)]) d_FR_remove_2 vc_FR_63 ⟨by decide, by decide, Nat.le_of_ble_eq_true rfl⟩ (Nat.le_of_ble_eq_true rfl) h0 (c_FR_nodeAt h0 hN hk150 ha) rfl ?_
  refine fr_astore_n (pc := 5) (L2 := [(0, .ref o), (1, .int (nI k)), (2, .ref a)]) d_FR_remove_5 rfl (by decide) rfl ?_
  refine fr_aload_n (pc := 6) d_FR_remove_6 rfl rfl ?_
  refine fr_calls_n (pc := 7) (nc := 1) (ns := 6) (N := m_FR_requireNotRoot) (rest := []) (as := [.ref a]) d_FR_remove_7 k_FR_requireNotRoot lk_FR_85 sc_FR_requireNotRoot np_FR_requireNotRoot ⟨by decide, by decide, Nat.le_of_ble_eq_true rfl⟩ (Nat.le_of_ble_eq_true rfl) (c_FR_requireNotRoot hc h3) rfl ?_
  refine fr_aload_n (pc := 10) d_FR_remove_10 rfl rfl ?_
  refine fr_aload_n (pc := 11) d_FR_remove_11 rfl rfl ?_
  refine fr_callv_p (pc := 12) (nc := 1) (ns := 6) (N := m_FR_childrenOf) (rest := []) (as := [.ref a]) d_FR_remove_12 vc_FR_114 ⟨by decide, by decide, Nat.le_of_ble_eq_true rfl⟩ (Nat.le_of_ble_eq_true rfl) h0 (by have hh := c_FR_childrenOf (nc := 0) (ns := 0) h0 hN hr (fs_ok_ch hok) hk ha; rw [Nat.zero_add] at hh; exact hh) rfl ?_
  refine fr_if_le (pc := 15) (tgt := 28) d_FR_remove_15 (by decide) (fun q => ?_) (fun q => ?_)
  · exact absurd ((ni_le (b := 0) (by omega) (by omega)).mp q) (by omega)
  · exact fr_throw (pc := 18) (nc := 0) (ns := 0) th_FR_117 d_FR_remove_18 d_FR_remove_21 d_FR_remove_22 d_FR_remove_24 d_FR_remove_27 (by decide) (by decide) (by decide) ⟨rfl, hX, fs_Fr_id⟩
theorem p_FR_remove_ok {g : fw_G} {w : fw_W} {o gr a1 a2 a3 a4 na us n : Nat} {hu hg : Nat → Nat → Bool} {nd : fs_D} (hX : fs_X g (o, gr, a1, a2, a3, a4, na) (us, n, hu, hg, nd) w) {k : Nat} {N : fs_N} (hk : nd k = some N) {p : Nat} (hp : N.2.1 = some p) (hs : (fs_sum (fs_f4 nd k) 150 0) = 0) : fw_R g m_FR_remove (fs_P g (o, gr, a1, a2, a3, a4, na) w (.inl (some (.int (nI N.2.2.2.2.2.length)))) (us, n, hu, hg, va_up nd k none)) 3 18 w 0 [(0, .ref o), (1, .int (nI k))] [] := by
  obtain ⟨f1, f2, f3, f4, ad, lq, ld, lc, lt, hok, h0, hG, hR, hN, hr⟩ := fs_X_el hX
  obtain ⟨hk150, a, ha, hc, hl, hE⟩ := hr.2.1 k N hk
  obtain ⟨-, hk0, how, hlen, hes, hch, hdep⟩ := hok.2.2.2.2 k N hk
  have hs150 : fs_sum (fs_f4 nd k) 150 0 ≤ 150 := by have := fs_sum_le (fs_f4_1 nd k) 150 0; omega
  obtain ⟨Pn, pb, hPn, hpb⟩ := fs_pad hr hk hch hp
  have h3 : (fs_nc k N (lq k) (N.2.1.bind ad))[3]? = some (.ref pb) := by show some (va_rf (N.2.1.bind ad)) = _; rw [hp]; show some (va_rf (ad p)) = _; rw [rf_some hpb]
  obtain ⟨mc, hl1, -⟩ := id hl
  have hno := fs_nokid (fun j M hj => (hok.2.2.2.2 j M hj).1) hs
  have hk00 : k ≠ 0 := fun z => by
    subst z
    obtain ⟨N0, e1, e2⟩ := hok.2.2.2.1
    rw [hk] at e1; cases e1; rw [hp] at e2; cases e2
  refine fr_dn (fun hdf => ?_)
  have hdn : w (fw_df g) = some (fs_no g ad) → False := fun z => by rw [hdf] at z; cases z
  refine fr_aload_n (pc := 0) d_FR_remove_0 rfl rfl ?_
  refine fr_iload_n (pc := 1) d_FR_remove_1 rfl rfl ?_
  refine fr_callv_p (pc := 2) (nc := 2) (ns := 12) (N := m_FR_nodeAt) (rest := []) (as := [.int (nI k)]) d_FR_remove_2 vc_FR_63 ⟨by decide, by decide, Nat.le_of_ble_eq_true rfl⟩ (Nat.le_of_ble_eq_true rfl) h0 (c_FR_nodeAt h0 hN hk150 ha) rfl ?_
  refine fr_astore_n (pc := 5) (L2 := [(0, .ref o), (1, .int (nI k)), (2, .ref a)]) d_FR_remove_5 rfl (by decide) rfl ?_
  refine fr_aload_n (pc := 6) d_FR_remove_6 rfl rfl ?_
  refine fr_calls_n (pc := 7) (nc := 1) (ns := 6) (N := m_FR_requireNotRoot) (rest := []) (as := [.ref a]) d_FR_remove_7 k_FR_requireNotRoot lk_FR_85 sc_FR_requireNotRoot np_FR_requireNotRoot ⟨by decide, by decide, Nat.le_of_ble_eq_true rfl⟩ (Nat.le_of_ble_eq_true rfl) (c_FR_requireNotRoot hc h3) rfl ?_
  refine fr_aload_n (pc := 10) d_FR_remove_10 rfl rfl ?_
  refine fr_aload_n (pc := 11) d_FR_remove_11 rfl rfl ?_
  refine fr_callv_p (pc := 12) (nc := 1) (ns := 6) (N := m_FR_childrenOf) (rest := []) (as := [.ref a]) d_FR_remove_12 vc_FR_114 ⟨by decide, by decide, Nat.le_of_ble_eq_true rfl⟩ (Nat.le_of_ble_eq_true rfl) h0 (by have hh := c_FR_childrenOf (nc := 0) (ns := 0) h0 hN hr (fs_ok_ch hok) hk ha; rw [Nat.zero_add] at hh; exact hh) rfl ?_
  refine fr_if_le (pc := 15) (tgt := 28) d_FR_remove_15 (by decide) (fun q => ?_) (fun q => ?_)
  · refine fr_aload_n (pc := 28) d_FR_remove_28 rfl rfl ?_
    refine fr_get (pc := 29) (v := .ref na) d_FR_remove_29 fg_FR_18 h0 rfl ?_
    refine fr_iload_n (pc := 32) d_FR_remove_32 rfl rfl ?_
    refine fr_null (pc := 33) d_FR_remove_33 ?_
    refine fr_aastNk (pc := 34) (t := 3) (C := "FolderRights$Node") d_FR_remove_34 rfl hN hk150 (by omega) ?_
    have hq1 := fw_up_at (a := na) (x := fs_no g (va_up ad k none)) hl1 (fs_ne hl1 hN (fun z => by cases z))
    have hrr := fs_rN_fr (fs_rN_rm hr hno) (fs_up_kk (y := fs_no g (va_up ad k none)) hN fs_kk_no)
    have hl2 := fs_li hl (u := fw_up w na (fs_no g (va_up ad k none))) (fun b e hb hor => fw_up_at hb (fun z => by
      subst z
      rw [hN] at hb; cases hb
      obtain ⟨mc2, e0, -, e3, e4⟩ := id hl
      rcases hor with z | z | z
      · rw [z, e0] at hN; cases hN
      · rcases e4 with ⟨e9, e10⟩ | ⟨e9, e10, e11⟩
        · exact hdn (by rw [← e9, ← z]; exact hN)
        · rw [← z, hN] at e9; have := congrArg (fun q => q.2.1) (Sum.inl.inj (Option.some.inj e9)); simp only at this; omega
      · obtain ⟨fs, hfs⟩ := e3 _ z; rw [hN] at hfs; cases hfs))
    refine fr_aload_n (pc := 35) d_FR_remove_35 rfl rfl ?_
    refine fr_get (pc := 36) (v := .ref (lq k)) d_FR_remove_36 fg_FR_119 (fw_up_at hc (fs_ne hc hN (fun z => by cases z))) rfl ?_
    refine fr_callv_p (pc := 39) (nc := 1) (ns := 6) (N := m_AL_size) (rest := []) (as := []) d_FR_remove_39 vc_FR_123 ⟨by decide, by decide, Nat.le_of_ble_eq_true rfl⟩ (Nat.le_of_ble_eq_true rfl) hq1 (c_AL_size hl2) rfl ?_
    refine fr_st (st2 := [.int (nI N.2.2.2.2.2.length)]) (by rw [hE.1]) ?_
    exact fr_iret rfl d_FR_remove_42 ⟨rfl, fs_X_in (fs_ok_rm hok hk00 hno) (fw_up_at h0 (fs_ne h0 hN (fun z => by cases z))) (fs_gr_fr hG (fun b e hb h1 h2 => fw_up_at hb (fs_ne hb hN (fun z => h2 _ _ _ z)))) hR fw_up_self hrr, fs_Fr_up fs_Fr_id (fun e he => by rw [hN] at he; cases he; exact Or.inr (Or.inl ⟨_, _, _, rfl⟩))⟩
  · exact absurd (by rw [hs]; decide) q

theorem fs_hi_ge {f : Nat → Nat} : ∀ m i c, c ≤ fs_hi f m i c ∧ ∀ j, i ≤ j → j < i + m → f j ≤ fs_hi f m i c := by
  intro m
  induction m with
  | zero => intro i c; exact ⟨Nat.le_refl _, fun j h1 h2 => by omega⟩
  | succ m ih =>
    intro i c
    obtain ⟨h1, h2⟩ := ih (i + 1) (max c (f i))
    rw [fs_hi]
    refine ⟨by omega, fun j hj1 hj2 => ?_⟩
    by_cases e : j = i
    · subst e; omega
    · exact h2 j (by omega) (by omega)
theorem fs_hi_le {f : Nat → Nat} {B : Nat} (hf : ∀ k, f k ≤ B) : ∀ m i c, c ≤ B → fs_hi f m i c ≤ B := by
  intro m
  induction m with
  | zero => intro i c h; exact h
  | succ m ih => intro i c h; rw [fs_hi]; exact ih _ _ (by have := hf i; omega)
theorem fs_f5_20 {us n : Nat} {nd : fs_D} (h : fs_ok us n nd) (t k : Nat) : fs_f5 nd t k ≤ 20 := by
  unfold fs_f5
  split
  · rename_i N hk
    split
    · have := (h.2.2.2.2 k N hk).2.2.2.2.2.2; omega
    · omega
  · omega
theorem fs_ch_mv {nd : fs_D} {k p : Nat} {N2 : fs_N} (hN2 : N2.2.1 = some p) (hck : fs_ch nd k (fs_ab nd k)) (hcp : fs_ch nd p (fs_ab nd p)) (hun : fs_un nd p k = false) : ∀ l j, fs_ch nd j l → (k = j ∨ k ∈ l) → ∃ l2, fs_ch (va_up nd k (some N2)) j l2 ∧ l2.length + (fs_ab nd k).length = l.length + (fs_ab nd p).length + 1 := by
  have hun2 : ¬ (k = p ∨ k ∈ fs_ab nd p) := of_decide_eq_false hun
  have hcp2 : fs_ch (va_up nd k (some N2)) p (fs_ab nd p) := fs_ch_off _ _ (fun x hx => vu_ne (fun e => by subst e; exact hun2 hx)) hcp
  intro l
  induction l with
  | nil =>
    intro j hj hor
    rcases hor with rfl | hm
    · rw [fs_ch_uq _ _ _ hj hck]
      exact ⟨p :: fs_ab nd p, ⟨⟨N2, vu_self, hN2⟩, hcp2⟩, by simp only [List.length_cons]; omega⟩
    · cases hm
  | cons q t ih =>
    intro j hj hor
    by_cases e : j = k
    · subst e
      rw [fs_ch_uq _ _ _ hj hck]
      exact ⟨p :: fs_ab nd p, ⟨⟨N2, vu_self, hN2⟩, hcp2⟩, by simp only [List.length_cons]; omega⟩
    · rcases hor with z | hm
      · exact absurd z.symm e
      · obtain ⟨⟨J, h1, h2⟩, h3⟩ := hj
        obtain ⟨l3, e1, e2⟩ := ih q h3 (List.mem_cons.mp hm)
        exact ⟨q :: l3, ⟨⟨J, by rw [vu_ne e]; exact h1, h2⟩, e1⟩, by simp only [List.length_cons]; omega⟩
theorem fs_ok_mv {us n : Nat} {nd : fs_D} (h : fs_ok us n nd) {k p : Nat} {N Q : fs_N} (hk : nd k = some N) (hp : nd p = some Q) (hk0 : k ≠ 0) (hun : fs_un nd p k = false) (hd : (fs_ab nd p).length + 1 + fs_hi (fs_f5 nd k) 150 0 0 ≤ 20) : fs_ok us n (va_up nd k (some (N.1, some p, N.2.2.1, N.2.2.2.1, N.2.2.2.2.1, N.2.2.2.2.2))) := by
  obtain ⟨q1, q2, q3, ⟨N0, q4, q6⟩, q5⟩ := id h
  have hck := fs_ok_ch h k N hk
  have hcp := fs_ok_ch h p Q hp
  refine ⟨q1, q2, q3, ⟨N0, by rw [vu_ne (Ne.symm hk0)]; exact q4, q6⟩, fun j M hj => ?_⟩
  obtain ⟨M0, hM0, hM1⟩ : ∃ M0, nd j = some M0 ∧ M.2.2.1 = M0.2.2.1 ∧ M.2.2.2.2.2 = M0.2.2.2.2.2 ∧ (M.2.1 = none → M0.2.1 = none) := by
    by_cases e : j = k
    · subst e; rw [vu_self] at hj; cases hj; exact ⟨N, hk, rfl, rfl, fun z => by cases z⟩
    · rw [vu_ne e] at hj; exact ⟨M, hj, rfl, rfl, id⟩
  obtain ⟨m1, m2, m3⟩ := hM1
  obtain ⟨e1, e2, e3, e4, e5, e6, e7⟩ := q5 j M0 hM0
  obtain ⟨l2, c1, c2⟩ : ∃ l2, fs_ch (va_up nd k (some (N.1, some p, N.2.2.1, N.2.2.2.1, N.2.2.2.2.1, N.2.2.2.2.2))) j l2 ∧ l2.length ≤ 20 := by
    cases hu : fs_un nd j k with
    | true =>
      obtain ⟨l2, z1, z2⟩ := fs_ch_mv (N2 := (N.1, some p, N.2.2.1, N.2.2.2.1, N.2.2.2.2.1, N.2.2.2.2.2)) rfl hck hcp hun _ _ e6 (of_decide_eq_true hu)
      refine ⟨l2, z1, ?_⟩
      have h1 := (fs_hi_ge (f := fs_f5 nd k) 150 0 0).2 j (Nat.zero_le _) (by omega)
      have h2 : fs_f5 nd k j = (fs_ab nd j).length - (fs_ab nd k).length := by simp [fs_f5, hM0, hu]
      have h3 := fs_dep_le e6 hck hu
      omega
    | false =>
      exact ⟨_, fs_ch_off _ _ (fun x hx => vu_ne (fun e => by subst e; exact (of_decide_eq_false hu) hx)) e6, e7⟩
  refine ⟨e1, fun z => e2 (m3 z), by rw [m1]; exact e3, by rw [m2]; exact e4, by rw [m2]; exact e5, ?_, ?_⟩
  · rw [fs_ab_of c1 c2]; exact c1
  · rw [fs_ab_of c1 c2]; exact c2
theorem p_FR_move_n1 {g : fw_G} {w : fw_W} {o gr a1 a2 a3 a4 na us n : Nat} {hu hg : Nat → Nat → Bool} {nd : fs_D} (hX : fs_X g (o, gr, a1, a2, a3, a4, na) (us, n, hu, hg, nd) w) {x y : Int32} (hx : ∀ k, x = nI k → nd k = none) : fw_R g m_FR_move (fs_P g (o, gr, a1, a2, a3, a4, na) w (.inr "java/util/NoSuchElementException") (us, n, hu, hg, nd)) 6 36 w 0 [(0, .ref o), (1, .int x), (2, .int y)] [] := by
  obtain ⟨f1, f2, f3, f4, ad, lq, ld, lc, lt, hok, h0, hG, hR, hN, hr⟩ := fs_X_el hX
  refine fr_aload_n (pc := 0) d_FR_move_0 rfl rfl ?_
  refine fr_iload_n (pc := 1) d_FR_move_1 rfl rfl ?_
  refine fr_callv_x (pc := 2) (nc := 5) (ns := 30) (N := m_FR_nodeAt) (rest := []) (as := [.int x]) d_FR_move_2 vc_FR_63 ⟨by decide, by decide, Nat.le_of_ble_eq_true rfl⟩ (Nat.le_of_ble_eq_true rfl) h0 (x_FR_nodeAt h0 hN (fun k _ e => hr.1 k (hx k e))) rfl ?_
  exact fx_out (by decide) ⟨rfl, hX, fs_Fr_id⟩
theorem p_FR_move_n2 {g : fw_G} {w : fw_W} {o gr a1 a2 a3 a4 na us n : Nat} {hu hg : Nat → Nat → Bool} {nd : fs_D} (hX : fs_X g (o, gr, a1, a2, a3, a4, na) (us, n, hu, hg, nd) w) {k : Nat} {N : fs_N} (hk : nd k = some N) {x : Int32} (hx : ∀ k, x = nI k → nd k = none) : fw_R g m_FR_move (fs_P g (o, gr, a1, a2, a3, a4, na) w (.inr "java/util/NoSuchElementException") (us, n, hu, hg, nd)) 6 36 w 0 [(0, .ref o), (1, .int (nI k)), (2, .int x)] [] := by
  obtain ⟨f1, f2, f3, f4, ad, lq, ld, lc, lt, hok, h0, hG, hR, hN, hr⟩ := fs_X_el hX
  obtain ⟨hk150, a, ha, hc, hl, hE⟩ := hr.2.1 k N hk
  obtain ⟨-, hk0, how, hlen, hes, hch, hdep⟩ := hok.2.2.2.2 k N hk
  refine fr_aload_n (pc := 0) d_FR_move_0 rfl rfl ?_
  refine fr_iload_n (pc := 1) d_FR_move_1 rfl rfl ?_
  refine fr_callv_p (pc := 2) (nc := 5) (ns := 30) (N := m_FR_nodeAt) (rest := []) (as := [.int (nI k)]) d_FR_move_2 vc_FR_63 ⟨by decide, by decide, Nat.le_of_ble_eq_true rfl⟩ (Nat.le_of_ble_eq_true rfl) h0 (c_FR_nodeAt h0 hN hk150 ha) rfl ?_
  refine fr_astore_n (pc := 5) (L2 := [(0, .ref o), (1, .int (nI k)), (2, .int x), (3, .ref a)]) d_FR_move_5 rfl (by decide) rfl ?_
  refine fr_aload_n (pc := 6) d_FR_move_6 rfl rfl ?_
  refine fr_iload_n (pc := 7) d_FR_move_7 rfl rfl ?_
  refine fr_callv_x (pc := 8) (nc := 4) (ns := 24) (N := m_FR_nodeAt) (rest := []) (as := [.int x]) d_FR_move_8 vc_FR_63 ⟨by decide, by decide, Nat.le_of_ble_eq_true rfl⟩ (Nat.le_of_ble_eq_true rfl) h0 (x_FR_nodeAt h0 hN (fun k _ e => hr.1 k (hx k e))) rfl ?_
  exact fx_out (by decide) ⟨rfl, hX, fs_Fr_id⟩
theorem p_FR_move_n3 {g : fw_G} {w : fw_W} {o gr a1 a2 a3 a4 na us n : Nat} {hu hg : Nat → Nat → Bool} {nd : fs_D} (hX : fs_X g (o, gr, a1, a2, a3, a4, na) (us, n, hu, hg, nd) w) {k : Nat} {N : fs_N} (hk : nd k = some N) {p : Nat} {Q : fs_N} (hp : nd p = some Q) (h0p : N.2.1 = none) : fw_R g m_FR_move (fs_P g (o, gr, a1, a2, a3, a4, na) w (.inr "java/lang/IllegalArgumentException") (us, n, hu, hg, nd)) 6 36 w 0 [(0, .ref o), (1, .int (nI k)), (2, .int (nI p))] [] := by
  obtain ⟨f1, f2, f3, f4, ad, lq, ld, lc, lt, hok, h0, hG, hR, hN, hr⟩ := fs_X_el hX
  obtain ⟨hk150, a, ha, hc, hl, hE⟩ := hr.2.1 k N hk
  obtain ⟨-, hk0, how, hlen, hes, hch, hdep⟩ := hok.2.2.2.2 k N hk
  obtain ⟨hp150, pb, hpb, hcq, -, -⟩ := hr.2.1 p Q hp
  obtain ⟨-, -, -, -, -, hchq, hdq⟩ := hok.2.2.2.2 p Q hp
  have h3 : (fs_nc k N (lq k) (N.2.1.bind ad))[3]? = some .null := by show some (va_rf (N.2.1.bind ad)) = _; rw [h0p]; rfl
  refine fr_aload_n (pc := 0) d_FR_move_0 rfl rfl ?_
  refine fr_iload_n (pc := 1) d_FR_move_1 rfl rfl ?_
  refine fr_callv_p (pc := 2) (nc := 5) (ns := 30) (N := m_FR_nodeAt) (rest := []) (as := [.int (nI k)]) d_FR_move_2 vc_FR_63 ⟨by decide, by decide, Nat.le_of_ble_eq_true rfl⟩ (Nat.le_of_ble_eq_true rfl) h0 (c_FR_nodeAt h0 hN hk150 ha) rfl ?_
  refine fr_astore_n (pc := 5) (L2 := [(0, .ref o), (1, .int (nI k)), (2, .int (nI p)), (3, .ref a)]) d_FR_move_5 rfl (by decide) rfl ?_
  refine fr_aload_n (pc := 6) d_FR_move_6 rfl rfl ?_
  refine fr_iload_n (pc := 7) d_FR_move_7 rfl rfl ?_
  refine fr_callv_p (pc := 8) (nc := 4) (ns := 24) (N := m_FR_nodeAt) (rest := []) (as := [.int (nI p)]) d_FR_move_8 vc_FR_63 ⟨by decide, by decide, Nat.le_of_ble_eq_true rfl⟩ (Nat.le_of_ble_eq_true rfl) h0 (c_FR_nodeAt h0 hN hp150 hpb) rfl ?_
  refine fr_astore (pc := 11) (L2 := [(0, .ref o), (1, .int (nI k)), (2, .int (nI p)), (3, .ref a), (4, .ref pb)]) d_FR_move_11 (by decide) rfl ?_
  refine fr_aload_n (pc := 13) d_FR_move_13 rfl rfl ?_
  refine fr_calls_x (pc := 14) (nc := 3) (ns := 18) (N := m_FR_requireNotRoot) (rest := []) (as := [.ref a]) d_FR_move_14 k_FR_requireNotRoot lk_FR_85 sc_FR_requireNotRoot np_FR_requireNotRoot ⟨by decide, by decide, Nat.le_of_ble_eq_true rfl⟩ (Nat.le_of_ble_eq_true rfl) (x_FR_requireNotRoot (p := 0) hc h3) rfl ?_
  exact fx_out (by decide) ⟨rfl, hX, fs_Fr_id⟩
theorem p_FR_move_n4 {g : fw_G} {w : fw_W} {o gr a1 a2 a3 a4 na us n : Nat} {hu hg : Nat → Nat → Bool} {nd : fs_D} (hX : fs_X g (o, gr, a1, a2, a3, a4, na) (us, n, hu, hg, nd) w) {k : Nat} {N : fs_N} (hk : nd k = some N) {p : Nat} {Q : fs_N} (hp : nd p = some Q) {p0 : Nat} (h0p : N.2.1 = some p0) (hfo : Q.1 = false) : fw_R g m_FR_move (fs_P g (o, gr, a1, a2, a3, a4, na) w (.inr "java/lang/IllegalArgumentException") (us, n, hu, hg, nd)) 6 36 w 0 [(0, .ref o), (1, .int (nI k)), (2, .int (nI p))] [] := by
  obtain ⟨f1, f2, f3, f4, ad, lq, ld, lc, lt, hok, h0, hG, hR, hN, hr⟩ := fs_X_el hX
  obtain ⟨hk150, a, ha, hc, hl, hE⟩ := hr.2.1 k N hk
  obtain ⟨-, hk0, how, hlen, hes, hch, hdep⟩ := hok.2.2.2.2 k N hk
  obtain ⟨hp150, pb, hpb, hcq, -, -⟩ := hr.2.1 p Q hp
  obtain ⟨-, -, -, -, -, hchq, hdq⟩ := hok.2.2.2.2 p Q hp
  obtain ⟨Pn, pb0, hPn, hpb0⟩ := fs_pad hr hk hch h0p
  have h3 : (fs_nc k N (lq k) (N.2.1.bind ad))[3]? = some (.ref pb0) := by show some (va_rf (N.2.1.bind ad)) = _; rw [h0p]; show some (va_rf (ad p0)) = _; rw [rf_some hpb0]
  refine fr_aload_n (pc := 0) d_FR_move_0 rfl rfl ?_
  refine fr_iload_n (pc := 1) d_FR_move_1 rfl rfl ?_
  refine fr_callv_p (pc := 2) (nc := 5) (ns := 30) (N := m_FR_nodeAt) (rest := []) (as := [.int (nI k)]) d_FR_move_2 vc_FR_63 ⟨by decide, by decide, Nat.le_of_ble_eq_true rfl⟩ (Nat.le_of_ble_eq_true rfl) h0 (c_FR_nodeAt h0 hN hk150 ha) rfl ?_
  refine fr_astore_n (pc := 5) (L2 := [(0, .ref o), (1, .int (nI k)), (2, .int (nI p)), (3, .ref a)]) d_FR_move_5 rfl (by decide) rfl ?_
  refine fr_aload_n (pc := 6) d_FR_move_6 rfl rfl ?_
  refine fr_iload_n (pc := 7) d_FR_move_7 rfl rfl ?_
  refine fr_callv_p (pc := 8) (nc := 4) (ns := 24) (N := m_FR_nodeAt) (rest := []) (as := [.int (nI p)]) d_FR_move_8 vc_FR_63 ⟨by decide, by decide, Nat.le_of_ble_eq_true rfl⟩ (Nat.le_of_ble_eq_true rfl) h0 (c_FR_nodeAt h0 hN hp150 hpb) rfl ?_
  refine fr_astore (pc := 11) (L2 := [(0, .ref o), (1, .int (nI k)), (2, .int (nI p)), (3, .ref a), (4, .ref pb)]) d_FR_move_11 (by decide) rfl ?_
  refine fr_aload_n (pc := 13) d_FR_move_13 rfl rfl ?_
  refine fr_calls_n (pc := 14) (nc := 3) (ns := 18) (N := m_FR_requireNotRoot) (rest := []) (as := [.ref a]) d_FR_move_14 k_FR_requireNotRoot lk_FR_85 sc_FR_requireNotRoot np_FR_requireNotRoot ⟨by decide, by decide, Nat.le_of_ble_eq_true rfl⟩ (Nat.le_of_ble_eq_true rfl) (c_FR_requireNotRoot hc h3) rfl ?_
  refine fr_aload (pc := 17) d_FR_move_17 rfl ?_
  refine fr_calls_x (pc := 19) (nc := 2) (ns := 12) (N := m_FR_requireFolder) (rest := []) (as := [.ref pb]) d_FR_move_19 k_FR_requireFolder lk_FR_70 sc_FR_requireFolder np_FR_requireFolder ⟨by decide, by decide, Nat.le_of_ble_eq_true rfl⟩ (Nat.le_of_ble_eq_true rfl) (x_FR_requireFolder hcq (by show some (Value.int (bI Q.1)) = _; rw [hfo])) rfl ?_
  exact fx_out (by decide) ⟨rfl, hX, fs_Fr_id⟩
theorem p_FR_move_n5 {g : fw_G} {w : fw_W} {o gr a1 a2 a3 a4 na us n : Nat} {hu hg : Nat → Nat → Bool} {nd : fs_D} (hX : fs_X g (o, gr, a1, a2, a3, a4, na) (us, n, hu, hg, nd) w) {k : Nat} {N : fs_N} (hk : nd k = some N) {p : Nat} {Q : fs_N} (hp : nd p = some Q) {p0 : Nat} (h0p : N.2.1 = some p0) (hfo : Q.1 = true) (hun : fs_un nd p k = true) : fw_R g m_FR_move (fs_P g (o, gr, a1, a2, a3, a4, na) w (.inr "java/lang/IllegalArgumentException") (us, n, hu, hg, nd)) 6 36 w 0 [(0, .ref o), (1, .int (nI k)), (2, .int (nI p))] [] := by
  obtain ⟨f1, f2, f3, f4, ad, lq, ld, lc, lt, hok, h0, hG, hR, hN, hr⟩ := fs_X_el hX
  obtain ⟨hk150, a, ha, hc, hl, hE⟩ := hr.2.1 k N hk
  obtain ⟨-, hk0, how, hlen, hes, hch, hdep⟩ := hok.2.2.2.2 k N hk
  obtain ⟨hp150, pb, hpb, hcq, -, -⟩ := hr.2.1 p Q hp
  obtain ⟨-, -, -, -, -, hchq, hdq⟩ := hok.2.2.2.2 p Q hp
  obtain ⟨Pn, pb0, hPn, hpb0⟩ := fs_pad hr hk hch h0p
  have h3 : (fs_nc k N (lq k) (N.2.1.bind ad))[3]? = some (.ref pb0) := by show some (va_rf (N.2.1.bind ad)) = _; rw [h0p]; show some (va_rf (ad p0)) = _; rw [rf_some hpb0]
  refine fr_aload_n (pc := 0) d_FR_move_0 rfl rfl ?_
  refine fr_iload_n (pc := 1) d_FR_move_1 rfl rfl ?_
  refine fr_callv_p (pc := 2) (nc := 5) (ns := 30) (N := m_FR_nodeAt) (rest := []) (as := [.int (nI k)]) d_FR_move_2 vc_FR_63 ⟨by decide, by decide, Nat.le_of_ble_eq_true rfl⟩ (Nat.le_of_ble_eq_true rfl) h0 (c_FR_nodeAt h0 hN hk150 ha) rfl ?_
  refine fr_astore_n (pc := 5) (L2 := [(0, .ref o), (1, .int (nI k)), (2, .int (nI p)), (3, .ref a)]) d_FR_move_5 rfl (by decide) rfl ?_
  refine fr_aload_n (pc := 6) d_FR_move_6 rfl rfl ?_
  refine fr_iload_n (pc := 7) d_FR_move_7 rfl rfl ?_
  refine fr_callv_p (pc := 8) (nc := 4) (ns := 24) (N := m_FR_nodeAt) (rest := []) (as := [.int (nI p)]) d_FR_move_8 vc_FR_63 ⟨by decide, by decide, Nat.le_of_ble_eq_true rfl⟩ (Nat.le_of_ble_eq_true rfl) h0 (c_FR_nodeAt h0 hN hp150 hpb) rfl ?_
  refine fr_astore (pc := 11) (L2 := [(0, .ref o), (1, .int (nI k)), (2, .int (nI p)), (3, .ref a), (4, .ref pb)]) d_FR_move_11 (by decide) rfl ?_
  refine fr_aload_n (pc := 13) d_FR_move_13 rfl rfl ?_
  refine fr_calls_n (pc := 14) (nc := 3) (ns := 18) (N := m_FR_requireNotRoot) (rest := []) (as := [.ref a]) d_FR_move_14 k_FR_requireNotRoot lk_FR_85 sc_FR_requireNotRoot np_FR_requireNotRoot ⟨by decide, by decide, Nat.le_of_ble_eq_true rfl⟩ (Nat.le_of_ble_eq_true rfl) (c_FR_requireNotRoot hc h3) rfl ?_
  refine fr_aload (pc := 17) d_FR_move_17 rfl ?_
  refine fr_calls_n (pc := 19) (nc := 2) (ns := 12) (N := m_FR_requireFolder) (rest := []) (as := [.ref pb]) d_FR_move_19 k_FR_requireFolder lk_FR_70 sc_FR_requireFolder np_FR_requireFolder ⟨by decide, by decide, Nat.le_of_ble_eq_true rfl⟩ (Nat.le_of_ble_eq_true rfl) (c_FR_requireFolder hcq (by show some (Value.int (bI Q.1)) = _; rw [hfo])) rfl ?_
  refine fr_aload (pc := 22) d_FR_move_22 rfl ?_
  refine fr_aload_n (pc := 24) d_FR_move_24 rfl rfl ?_
  refine fr_callv_p (pc := 25) (nc := 2) (ns := 12) (N := m_ND_liesWithin) (rest := []) (as := [.ref a]) d_FR_move_25 vc_FR_88 ⟨by decide, by decide, Nat.le_of_ble_eq_true rfl⟩ (Nat.le_of_ble_eq_true rfl) hcq (c_lies hr hchq hpb hk ha) rfl ?_
  refine fr_st (st2 := [.int (bI true)]) (by rw [hun]) ?_
  refine fr_if_eq (pc := 28) (tgt := 41) d_FR_move_28 (by decide) (fun q => ?_) (fun q => ?_)
  · exact absurd q (by decide)
  · exact fr_throw (pc := 31) (nc := 1) (ns := 6) th_FR_94 d_FR_move_31 d_FR_move_34 d_FR_move_35 d_FR_move_37 d_FR_move_40 (by decide) (by decide) (by decide) ⟨rfl, hX, fs_Fr_id⟩
theorem p_FR_move_n6 {g : fw_G} {w : fw_W} {o gr a1 a2 a3 a4 na us n : Nat} {hu hg : Nat → Nat → Bool} {nd : fs_D} (hX : fs_X g (o, gr, a1, a2, a3, a4, na) (us, n, hu, hg, nd) w) {k : Nat} {N : fs_N} (hk : nd k = some N) {p : Nat} {Q : fs_N} (hp : nd p = some Q) {p0 : Nat} (h0p : N.2.1 = some p0) (hfo : Q.1 = true) (hun : fs_un nd p k = false) (hd : ¬ (fs_ab nd p).length + 1 + (fs_hi (fs_f5 nd k) 150 0 0) ≤ 20) : fw_R g m_FR_move (fs_P g (o, gr, a1, a2, a3, a4, na) w (.inr "java/lang/IllegalStateException") (us, n, hu, hg, nd)) 6 36 w 0 [(0, .ref o), (1, .int (nI k)), (2, .int (nI p))] [] := by
  obtain ⟨f1, f2, f3, f4, ad, lq, ld, lc, lt, hok, h0, hG, hR, hN, hr⟩ := fs_X_el hX
  obtain ⟨hk150, a, ha, hc, hl, hE⟩ := hr.2.1 k N hk
  obtain ⟨-, hk0, how, hlen, hes, hch, hdep⟩ := hok.2.2.2.2 k N hk
  obtain ⟨hp150, pb, hpb, hcq, -, -⟩ := hr.2.1 p Q hp
  obtain ⟨-, -, -, -, -, hchq, hdq⟩ := hok.2.2.2.2 p Q hp
  obtain ⟨Pn, pb0, hPn, hpb0⟩ := fs_pad hr hk hch h0p
  have h3 : (fs_nc k N (lq k) (N.2.1.bind ad))[3]? = some (.ref pb0) := by show some (va_rf (N.2.1.bind ad)) = _; rw [h0p]; show some (va_rf (ad p0)) = _; rw [rf_some hpb0]
  have hhi := fs_hi_le (fs_f5_20 hok k) 150 0 0 (Nat.zero_le _)
  refine fr_aload_n (pc := 0) d_FR_move_0 rfl rfl ?_
  refine fr_iload_n (pc := 1) d_FR_move_1 rfl rfl ?_
  refine fr_callv_p (pc := 2) (nc := 5) (ns := 30) (N := m_FR_nodeAt) (rest := []) (as := [.int (nI k)]) d_FR_move_2 vc_FR_63 ⟨by decide, by decide, Nat.le_of_ble_eq_true rfl⟩ (Nat.le_of_ble_eq_true rfl) h0 (c_FR_nodeAt h0 hN hk150 ha) rfl ?_
  refine fr_astore_n (pc := 5) (L2 := [(0, .ref o), (1, .int (nI k)), (2, .int (nI p)), (3, .ref a)]) d_FR_move_5 rfl (by decide) rfl ?_
  refine fr_aload_n (pc := 6) d_FR_move_6 rfl rfl ?_
  refine fr_iload_n (pc := 7) d_FR_move_7 rfl rfl ?_
  refine fr_callv_p (pc := 8) (nc := 4) (ns := 24) (N := m_FR_nodeAt) (rest := []) (as := [.int (nI p)]) d_FR_move_8 vc_FR_63 ⟨by decide, by decide, Nat.le_of_ble_eq_true rfl⟩ (Nat.le_of_ble_eq_true rfl) h0 (c_FR_nodeAt h0 hN hp150 hpb) rfl ?_
  refine fr_astore (pc := 11) (L2 := [(0, .ref o), (1, .int (nI k)), (2, .int (nI p)), (3, .ref a), (4, .ref pb)]) d_FR_move_11 (by decide) rfl ?_
  refine fr_aload_n (pc := 13) d_FR_move_13 rfl rfl ?_
  refine fr_calls_n (pc := 14) (nc := 3) (ns := 18) (N := m_FR_requireNotRoot) (rest := []) (as := [.ref a]) d_FR_move_14 k_FR_requireNotRoot lk_FR_85 sc_FR_requireNotRoot np_FR_requireNotRoot ⟨by decide, by decide, Nat.le_of_ble_eq_true rfl⟩ (Nat.le_of_ble_eq_true rfl) (c_FR_requireNotRoot hc h3) rfl ?_
  refine fr_aload (pc := 17) d_FR_move_17 rfl ?_
  refine fr_calls_n (pc := 19) (nc := 2) (ns := 12) (N := m_FR_requireFolder) (rest := []) (as := [.ref pb]) d_FR_move_19 k_FR_requireFolder lk_FR_70 sc_FR_requireFolder np_FR_requireFolder ⟨by decide, by decide, Nat.le_of_ble_eq_true rfl⟩ (Nat.le_of_ble_eq_true rfl) (c_FR_requireFolder hcq (by show some (Value.int (bI Q.1)) = _; rw [hfo])) rfl ?_
  refine fr_aload (pc := 22) d_FR_move_22 rfl ?_
  refine fr_aload_n (pc := 24) d_FR_move_24 rfl rfl ?_
  refine fr_callv_p (pc := 25) (nc := 2) (ns := 12) (N := m_ND_liesWithin) (rest := []) (as := [.ref a]) d_FR_move_25 vc_FR_88 ⟨by decide, by decide, Nat.le_of_ble_eq_true rfl⟩ (Nat.le_of_ble_eq_true rfl) hcq (c_lies hr hchq hpb hk ha) rfl ?_
  refine fr_st (st2 := [.int (bI false)]) (by rw [hun]) ?_
  refine fr_if_eq (pc := 28) (tgt := 41) d_FR_move_28 (by decide) (fun q => ?_) (fun q => ?_)
  · refine fr_aload (pc := 41) d_FR_move_41 rfl ?_
    refine fr_callv_p (pc := 43) (nc := 2) (ns := 12) (N := m_ND_depth) (rest := []) (as := []) d_FR_move_43 vc_FR_80 ⟨by decide, by decide, Nat.le_of_ble_eq_true rfl⟩ (Nat.le_of_ble_eq_true rfl) hcq (c_dep hr hchq hpb) rfl ?_
    refine fr_iconst (pc := 46) (v := 1) d_FR_move_46 (by decide) ?_
    refine fr_iadd (pc := 47) d_FR_move_47 ?_
    refine fr_st (st2 := [.int (nI ((fs_ab nd p).length + 1))]) (by rw [← fi_1]; rfl) ?_
    refine fr_istore (pc := 48) (L2 := [(0, .ref o), (1, .int (nI k)), (2, .int (nI p)), (3, .ref a), (4, .ref pb), (5, .int (nI ((fs_ab nd p).length + 1)))]) d_FR_move_48 (by decide) rfl ?_
    refine fr_iload (pc := 50) d_FR_move_50 rfl ?_
    refine fr_aload_n (pc := 52) d_FR_move_52 rfl rfl ?_
    refine fr_aload_n (pc := 53) d_FR_move_53 rfl rfl ?_
    refine fr_callv_p (pc := 54) (nc := 2) (ns := 12) (N := m_FR_heightOf) (rest := [.int (nI ((fs_ab nd p).length + 1))]) (as := [.ref a]) d_FR_move_54 vc_FR_97 ⟨by decide, by decide, Nat.le_of_ble_eq_true rfl⟩ (Nat.le_of_ble_eq_true rfl) h0 (c_FR_heightOf h0 hN hr (fs_ok_ch hok) (fun j M hj => (hok.2.2.2.2 j M hj).2.2.2.2.2.2) hk ha) rfl ?_
    refine fr_iadd (pc := 57) d_FR_move_57 ?_
    refine fr_st (st2 := [.int (nI ((fs_ab nd p).length + 1 + (fs_hi (fs_f5 nd k) 150 0 0)))]) (by rw [ni_add]) ?_
    refine fr_bipush (pc := 58) (v := 20) d_FR_move_58 (by decide) ?_
    refine fr_icmp_le (pc := 60) (tgt := 73) d_FR_move_60 (by decide) (fun q2 => ?_) (fun q2 => ?_)
    · exact absurd ((ni_le (b := 20) (by omega) (by omega)).mp q2) hd
    · exact fr_throw (pc := 63) (nc := 1) (ns := 6) th_FR_101 d_FR_move_63 d_FR_move_66 d_FR_move_67 d_FR_move_69 d_FR_move_72 (by decide) (by decide) (by decide) ⟨rfl, hX, fs_Fr_id⟩
  · exact absurd rfl q
theorem p_FR_move_ok {g : fw_G} {w : fw_W} {o gr a1 a2 a3 a4 na us n : Nat} {hu hg : Nat → Nat → Bool} {nd : fs_D} (hX : fs_X g (o, gr, a1, a2, a3, a4, na) (us, n, hu, hg, nd) w) {k : Nat} {N : fs_N} (hk : nd k = some N) {p : Nat} {Q : fs_N} (hp : nd p = some Q) {p0 : Nat} (h0p : N.2.1 = some p0) (hfo : Q.1 = true) (hun : fs_un nd p k = false) (hd : (fs_ab nd p).length + 1 + (fs_hi (fs_f5 nd k) 150 0 0) ≤ 20) : fw_R g m_FR_move (fs_P g (o, gr, a1, a2, a3, a4, na) w (.inl (some (.int (nI ((fs_ab nd p).length + 1))))) (us, n, hu, hg, (va_up (fs_mk (va_up nd k (some (N.1, some p, N.2.2.1, N.2.2.2.1, N.2.2.2.2.1, N.2.2.2.2.2))) k 150) k (some (N.1, some p, N.2.2.1, N.2.2.2.1, true, N.2.2.2.2.2))))) 6 36 w 0 [(0, .ref o), (1, .int (nI k)), (2, .int (nI p))] [] := by
  obtain ⟨f1, f2, f3, f4, ad, lq, ld, lc, lt, hok, h0, hG, hR, hN, hr⟩ := fs_X_el hX
  obtain ⟨hk150, a, ha, hc, hl, hE⟩ := hr.2.1 k N hk
  obtain ⟨-, hk0, how, hlen, hes, hch, hdep⟩ := hok.2.2.2.2 k N hk
  obtain ⟨hp150, pb, hpb, hcq, -, -⟩ := hr.2.1 p Q hp
  obtain ⟨-, -, -, -, -, hchq, hdq⟩ := hok.2.2.2.2 p Q hp
  obtain ⟨Pn, pb0, hPn, hpb0⟩ := fs_pad hr hk hch h0p
  have h3 : (fs_nc k N (lq k) (N.2.1.bind ad))[3]? = some (.ref pb0) := by show some (va_rf (N.2.1.bind ad)) = _; rw [h0p]; show some (va_rf (ad p0)) = _; rw [rf_some hpb0]
  have hhi := fs_hi_le (fs_f5_20 hok k) 150 0 0 (Nat.zero_le _)
  have hk00 : k ≠ 0 := fun z => by
    subst z
    obtain ⟨N0, e1, e2⟩ := hok.2.2.2.1
    rw [hk] at e1; cases e1; rw [h0p] at e2; cases e2
  refine fr_aload_n (pc := 0) d_FR_move_0 rfl rfl ?_
  refine fr_iload_n (pc := 1) d_FR_move_1 rfl rfl ?_
  refine fr_callv_p (pc := 2) (nc := 5) (ns := 30) (N := m_FR_nodeAt) (rest := []) (as := [.int (nI k)]) d_FR_move_2 vc_FR_63 ⟨by decide, by decide, Nat.le_of_ble_eq_true rfl⟩ (Nat.le_of_ble_eq_true rfl) h0 (c_FR_nodeAt h0 hN hk150 ha) rfl ?_
  refine fr_astore_n (pc := 5) (L2 := [(0, .ref o), (1, .int (nI k)), (2, .int (nI p)), (3, .ref a)]) d_FR_move_5 rfl (by decide) rfl ?_
  refine fr_aload_n (pc := 6) d_FR_move_6 rfl rfl ?_
  refine fr_iload_n (pc := 7) d_FR_move_7 rfl rfl ?_
  refine fr_callv_p (pc := 8) (nc := 4) (ns := 24) (N := m_FR_nodeAt) (rest := []) (as := [.int (nI p)]) d_FR_move_8 vc_FR_63 ⟨by decide, by decide, Nat.le_of_ble_eq_true rfl⟩ (Nat.le_of_ble_eq_true rfl) h0 (c_FR_nodeAt h0 hN hp150 hpb) rfl ?_
  refine fr_astore (pc := 11) (L2 := [(0, .ref o), (1, .int (nI k)), (2, .int (nI p)), (3, .ref a), (4, .ref pb)]) d_FR_move_11 (by decide) rfl ?_
  refine fr_aload_n (pc := 13) d_FR_move_13 rfl rfl ?_
  refine fr_calls_n (pc := 14) (nc := 3) (ns := 18) (N := m_FR_requireNotRoot) (rest := []) (as := [.ref a]) d_FR_move_14 k_FR_requireNotRoot lk_FR_85 sc_FR_requireNotRoot np_FR_requireNotRoot ⟨by decide, by decide, Nat.le_of_ble_eq_true rfl⟩ (Nat.le_of_ble_eq_true rfl) (c_FR_requireNotRoot hc h3) rfl ?_
  refine fr_aload (pc := 17) d_FR_move_17 rfl ?_
  refine fr_calls_n (pc := 19) (nc := 2) (ns := 12) (N := m_FR_requireFolder) (rest := []) (as := [.ref pb]) d_FR_move_19 k_FR_requireFolder lk_FR_70 sc_FR_requireFolder np_FR_requireFolder ⟨by decide, by decide, Nat.le_of_ble_eq_true rfl⟩ (Nat.le_of_ble_eq_true rfl) (c_FR_requireFolder hcq (by show some (Value.int (bI Q.1)) = _; rw [hfo])) rfl ?_
  refine fr_aload (pc := 22) d_FR_move_22 rfl ?_
  refine fr_aload_n (pc := 24) d_FR_move_24 rfl rfl ?_
  refine fr_callv_p (pc := 25) (nc := 2) (ns := 12) (N := m_ND_liesWithin) (rest := []) (as := [.ref a]) d_FR_move_25 vc_FR_88 ⟨by decide, by decide, Nat.le_of_ble_eq_true rfl⟩ (Nat.le_of_ble_eq_true rfl) hcq (c_lies hr hchq hpb hk ha) rfl ?_
  refine fr_st (st2 := [.int (bI false)]) (by rw [hun]) ?_
  refine fr_if_eq (pc := 28) (tgt := 41) d_FR_move_28 (by decide) (fun q => ?_) (fun q => ?_)
  · refine fr_aload (pc := 41) d_FR_move_41 rfl ?_
    refine fr_callv_p (pc := 43) (nc := 2) (ns := 12) (N := m_ND_depth) (rest := []) (as := []) d_FR_move_43 vc_FR_80 ⟨by decide, by decide, Nat.le_of_ble_eq_true rfl⟩ (Nat.le_of_ble_eq_true rfl) hcq (c_dep hr hchq hpb) rfl ?_
    refine fr_iconst (pc := 46) (v := 1) d_FR_move_46 (by decide) ?_
    refine fr_iadd (pc := 47) d_FR_move_47 ?_
    refine fr_st (st2 := [.int (nI ((fs_ab nd p).length + 1))]) (by rw [← fi_1]; rfl) ?_
    refine fr_istore (pc := 48) (L2 := [(0, .ref o), (1, .int (nI k)), (2, .int (nI p)), (3, .ref a), (4, .ref pb), (5, .int (nI ((fs_ab nd p).length + 1)))]) d_FR_move_48 (by decide) rfl ?_
    refine fr_iload (pc := 50) d_FR_move_50 rfl ?_
    refine fr_aload_n (pc := 52) d_FR_move_52 rfl rfl ?_
    refine fr_aload_n (pc := 53) d_FR_move_53 rfl rfl ?_
    refine fr_callv_p (pc := 54) (nc := 2) (ns := 12) (N := m_FR_heightOf) (rest := [.int (nI ((fs_ab nd p).length + 1))]) (as := [.ref a]) d_FR_move_54 vc_FR_97 ⟨by decide, by decide, Nat.le_of_ble_eq_true rfl⟩ (Nat.le_of_ble_eq_true rfl) h0 (c_FR_heightOf h0 hN hr (fs_ok_ch hok) (fun j M hj => (hok.2.2.2.2 j M hj).2.2.2.2.2.2) hk ha) rfl ?_
    refine fr_iadd (pc := 57) d_FR_move_57 ?_
    refine fr_st (st2 := [.int (nI ((fs_ab nd p).length + 1 + (fs_hi (fs_f5 nd k) 150 0 0)))]) (by rw [ni_add]) ?_
    refine fr_bipush (pc := 58) (v := 20) d_FR_move_58 (by decide) ?_
    refine fr_icmp_le (pc := 60) (tgt := 73) d_FR_move_60 (by decide) (fun q2 => ?_) (fun q2 => ?_)
    · refine fr_aload_n (pc := 73) d_FR_move_73 rfl rfl ?_
      refine fr_aload (pc := 74) d_FR_move_74 rfl ?_
      refine fr_put (pc := 76) (fs2 := fs_nc k (N.1, some p, N.2.2.1, N.2.2.2.1, N.2.2.2.2.1, N.2.2.2.2.2) (lq k) (some pb)) d_FR_move_76 fp_FR_move_103 hc (Nat.le_of_ble_eq_true rfl) rfl rfl rfl ?_
      have hF1 := fs_F2_up (x := .inr (2, fs_nc k (N.1, some p, N.2.2.1, N.2.2.2.1, N.2.2.2.2.1, N.2.2.2.2.2) (lq k) (some pb))) fs_F2_id hc
      have hr1 : fs_rN g (fw_up w a (.inr (2, fs_nc k (N.1, some p, N.2.2.1, N.2.2.2.1, N.2.2.2.2.1, N.2.2.2.2.2) (lq k) (some pb)))) (va_up nd k (some (N.1, some p, N.2.2.1, N.2.2.2.1, N.2.2.2.2.1, N.2.2.2.2.2))) ad lq ld lc lt := by
        have hh := fs_rN_put hr (N2 := (N.1, some p, N.2.2.1, N.2.2.2.1, N.2.2.2.2.1, N.2.2.2.2.2)) hk ha rfl
        rw [show (some p).bind ad = some pb from hpb] at hh
        exact hh
      have hok1 := fs_ok_mv hok hk hp hk00 hun hd
      refine fr_aload_n (pc := 79) d_FR_move_79 rfl rfl ?_
      refine fr_aload_n (pc := 80) d_FR_move_80 rfl rfl ?_
      refine fr_callV (pc := 81) (nc := 2) (ns := 12) (N := m_FR_markStaleBelow) (rest := []) (as := [.ref a]) d_FR_move_81 vc_FR_107 ⟨by decide, by decide, Nat.le_of_ble_eq_true rfl⟩ (Nat.le_of_ble_eq_true rfl) (fs_F2_3 hF1 _ h0 (fun fs z => by cases z)) (c_FR_mark (fs_F2_3 hF1 _ h0 (fun fs z => by cases z)) (fs_F2_3 hF1 _ hN (fun fs z => by cases z)) (fs_ok_ch hok1) vu_self ha hr1) rfl (fun v1 u h => ?_) (fun C u h => by obtain ⟨h1, -⟩ := h; cases h1)
      obtain ⟨h1, hr2, hF2⟩ := h
      cases h1
      have hm : fs_mk (va_up nd k (some (N.1, some p, N.2.2.1, N.2.2.2.1, N.2.2.2.2.1, N.2.2.2.2.2))) k 150 k = some (N.1, some p, N.2.2.1, N.2.2.2.1, N.2.2.2.2.1, N.2.2.2.2.2) := by simp [fs_mk, vu_self]
      obtain ⟨-, a9, ha9, hc9, -⟩ := hr2.2.1 k _ hm
      rw [ha] at ha9; cases ha9
      refine fr_aload_n (pc := 84) d_FR_move_84 rfl rfl ?_
      refine fr_iconst (pc := 85) (v := 1) d_FR_move_85 (by decide) ?_
      refine fr_put (pc := 86) (fs2 := fs_nc k (N.1, some p, N.2.2.1, N.2.2.2.1, true, N.2.2.2.2.2) (lq k) ((some p).bind ad)) d_FR_move_86 fp_FR_move_110 hc9 (Nat.le_of_ble_eq_true rfl) rfl rfl rfl ?_
      refine fr_iload (pc := 89) d_FR_move_89 rfl ?_
      have hF3 := fs_F2_up2 (x := .inr (2, fs_nc k (N.1, some p, N.2.2.1, N.2.2.2.1, true, N.2.2.2.2.2) (lq k) ((some p).bind ad))) (fs_F2_trans hF1 hF2) hc9
      exact fr_iret rfl d_FR_move_91 ⟨rfl, fs_X_F2 (fs_ok_up (fs_ok_mk hok1) (N2 := (N.1, some p, N.2.2.1, N.2.2.2.1, true, N.2.2.2.2.2)) hm rfl how hlen hes) h0 hG hR hN hF3 (fs_rN_put hr2 (N2 := (N.1, some p, N.2.2.1, N.2.2.2.1, true, N.2.2.2.2.2)) hm ha rfl), fs_F2_Fr hF3⟩
    · exact absurd ((ni_le (b := 20) (by omega) (by omega)).mpr hd) q2
  · exact absurd rfl q

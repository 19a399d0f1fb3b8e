theorem fs_X_tu {g : fw_G} {w : fw_W} {o gr a1 a2 a3 a4 na us n : Nat} {hu hg : Nat → Nat → Bool} {nd : fs_D} {f1 f2 f3 f4 : Nat → Int64} {ad : Nat → Option Nat} {lq ld lc : Nat → Nat} {lt : Nat → List Nat} (hok : fs_ok us n nd) (h0 : w o = some (.inr (0, [.ref gr, .ref na, .int (nI us)]))) (hG : gr_at g w gr a1 a2 a3 a4 n f1 f2 f3 f4) (hR : gr_rep hu hg n us f1 f2 f3 f4) (hN : w na = some (fs_no g ad)) (hr : fs_rN g w nd ad lq ld lc lt) {i j : Nat} {b : Bool} (hi : i < n) (hj : j < (if b then n else us)) :
    fs_X g (o, gr, a1, a2, a3, a4, na) (us, n, (if b then hu else gr_tg hu i j), (if b then gr_tg hg i j else hg), nd) (gr_tu g w a1 a2 a3 a4 n f1 f2 f3 f4 i j b) ∧ fs_Fr (o, gr, a1, a2, a3, a4, na) w (gr_tu g w a1 a2 a3 a4 n f1 f2 f3 f4 i j b) := by
  obtain ⟨g0, g1, g2, g3, g4, g5, n12, n13, n14, n23, n24, n34, m1, m2, m3, m4⟩ := id hG
  have key : ∀ (x : Nat) (fx : Nat → Int64) (y1 y2 y3 : va_E), w x = some (gr_ar g fx) → ∀ b e, w b = some e → (∀ c n f, e ≠ .inl (c, n, .inr (.inl f))) → fw_up (fw_up (fw_up w x y1) a3 y2) a4 y3 b = some e := by
    intro x fx y1 y2 y3 hx b e hb he
    exact fw_up_at (fw_up_at (fw_up_at hb (fs_ne hb hx (fun z => he _ _ _ z))) (fs_ne hb g3 (fun z => he _ _ _ z))) (fs_ne hb g4 (fun z => he _ _ _ z))
  have hkk : ∀ e, fs_kk e → ∀ c n f, e ≠ .inl (c, n, .inr (.inl f)) := fun e he c n f z => by subst z; exact fs_kk_l he
  cases b with
  | true =>
    rw [if_pos rfl] at hj
    refine ⟨fs_X_in hok ?_ ⟨?_, ?_, ?_, ?_, ?_, g5, n12, n13, n14, n23, n24, n34, m1, m2, m3, m4⟩ (gr_rep_g hR hi hj) ?_ (fs_rN_fr hr (fun b e hb he => key a2 f2 _ _ _ g2 b e hb (hkk e he))), ?_⟩
    · exact key a2 f2 _ _ _ g2 _ _ h0 (fun c n f z => by cases z)
    · exact key a2 f2 _ _ _ g2 _ _ g0 (fun c n f z => by cases z)
    · exact fw_up_at (fw_up_at (fw_up_at g1 n12) n13) n14
    · exact fw_up_at (fw_up_at fw_up_self n23) n24
    · exact fw_up_at fw_up_self n34
    · exact fw_up_self
    · exact key a2 f2 _ _ _ g2 _ _ hN (fun c n f z => by cases z)
    · exact fs_Fr_up (fs_Fr_up (fs_Fr_up fs_Fr_id (fun e _ => Or.inr (Or.inr (Or.inr (Or.inl rfl))))) (fun e _ => Or.inr (Or.inr (Or.inr (Or.inr (Or.inl rfl)))))) (fun e _ => Or.inr (Or.inr (Or.inr (Or.inr (Or.inr rfl)))))
  | false =>
    rw [if_neg (by decide)] at hj
    refine ⟨fs_X_in hok ?_ ⟨?_, ?_, ?_, ?_, ?_, g5, n12, n13, n14, n23, n24, n34, m1, m2, m3, m4⟩ (gr_rep_u hR hi hj) ?_ (fs_rN_fr hr (fun b e hb he => key a1 f1 _ _ _ g1 b e hb (hkk e he))), ?_⟩
    · exact key a1 f1 _ _ _ g1 _ _ h0 (fun c n f z => by cases z)
    · exact key a1 f1 _ _ _ g1 _ _ g0 (fun c n f z => by cases z)
    · exact fw_up_at (fw_up_at fw_up_self n13) n14
    · exact fw_up_at (fw_up_at (fw_up_at g2 (Ne.symm n12)) n23) n24
    · exact fw_up_at fw_up_self n34
    · exact fw_up_self
    · exact key a1 f1 _ _ _ g1 _ _ hN (fun c n f z => by cases z)
    · exact fs_Fr_up (fs_Fr_up (fs_Fr_up fs_Fr_id (fun e _ => Or.inr (Or.inr (Or.inl rfl)))) (fun e _ => Or.inr (Or.inr (Or.inr (Or.inr (Or.inl rfl)))))) (fun e _ => Or.inr (Or.inr (Or.inr (Or.inr (Or.inr rfl)))))
def fs_hh (hu hg : Nat → Nat → Bool) (b : Bool) (i j : Nat) : Bool := if b then hg i j else hu i j
theorem fs_hh_f {hu hg : Nat → Nat → Bool} {n us : Nat} {f1 f2 f3 f4 : Nat → Int64} (h : gr_rep hu hg n us f1 f2 f3 f4) (b : Bool) (i j : Nat) : bb ((if b then f2 else f1) i) j = fs_hh hu hg b i j := by
  cases b with
  | true => exact h.2.1 i j
  | false => exact h.1 i j
theorem fs_cir {hu hg : Nat → Nat → Bool} {n us : Nat} {f1 f2 f3 f4 : Nat → Int64} (h : gr_rep hu hg n us f1 f2 f3 f4) (i j : Nat) : (decide (i = j) || bb (f3 j) i) = true ↔ cl_rt hg j i := by
  rw [cl_rt_iff, Bool.or_eq_true, decide_eq_true_iff, h.2.2.1 j i]
  constructor
  · rintro (e | e)
    · exact Or.inl e.symm
    · exact Or.inr e
  · rintro (e | e)
    · exact Or.inl e.symm
    · exact Or.inr e
theorem p_FR_join_n1 {g : fw_G} {w : fw_W} {o gr a1 a2 a3 a4 na us n : Nat} {hu hg : Nat → Nat → Bool} {nd : fs_D} (hX : fs_X g (o, gr, a1, a2, a3, a4, na) (us, n, hu, hg, nd) w) {x y : Int32} {b : Bool} (hx : fs_no2 x n) : fw_R g m_FR_join (fs_P g (o, gr, a1, a2, a3, a4, na) w (.inr "java/util/NoSuchElementException") (us, n, hu, hg, nd)) 4 24 w 0 [(0, .ref o), (1, .int x), (2, .int y), (3, .int (bI b))] [] := by
  obtain ⟨f1, f2, f3, f4, ad, lq, ld, lc, lt, hok, h0, hG, hR, hN, hr⟩ := fs_X_el hX
  have hb : n < 2 ^ 31 := by have := hok.2.2.1; omega
  have hb2 : us < 2 ^ 31 := by have := hok.2.1; omega
  refine fr_aload_n (pc := 0) d_FR_join_0 rfl rfl ?_
  refine fr_iload_n (pc := 1) d_FR_join_1 rfl rfl ?_
  refine fr_callv_x (pc := 2) (nc := 3) (ns := 18) (N := m_FR_requireGroup) (rest := []) (as := [.int x]) d_FR_join_2 vc_FR_41 ⟨by decide, by decide, Nat.le_of_ble_eq_true rfl⟩ (Nat.le_of_ble_eq_true rfl) h0 (x_FR_requireGroup h0 hG.1 hx hb) rfl ?_
  exact fx_out (by decide) ⟨rfl, hX, fs_Fr_id⟩
theorem p_FR_join_n2 {g : fw_G} {w : fw_W} {o gr a1 a2 a3 a4 na us n : Nat} {hu hg : Nat → Nat → Bool} {nd : fs_D} (hX : fs_X g (o, gr, a1, a2, a3, a4, na) (us, n, hu, hg, nd) w) {i : Nat} {y : Int32} {b : Bool} (hi : i < n) (hy : fs_no2 y (if b then n else us)) : fw_R g m_FR_join (fs_P g (o, gr, a1, a2, a3, a4, na) w (.inr "java/util/NoSuchElementException") (us, n, hu, hg, nd)) 4 24 w 0 [(0, .ref o), (1, .int (nI i)), (2, .int y), (3, .int (bI b))] [] := by
  obtain ⟨f1, f2, f3, f4, ad, lq, ld, lc, lt, hok, h0, hG, hR, hN, hr⟩ := fs_X_el hX
  have hb : n < 2 ^ 31 := by have := hok.2.2.1; omega
  have hb2 : us < 2 ^ 31 := by have := hok.2.1; omega
  refine fr_aload_n (pc := 0) d_FR_join_0 rfl rfl ?_
  refine fr_iload_n (pc := 1) d_FR_join_1 rfl rfl ?_
  refine fr_callv_n (pc := 2) (nc := 3) (ns := 18) (N := m_FR_requireGroup) (rest := []) (as := [.int (nI i)]) d_FR_join_2 vc_FR_41 ⟨by decide, by decide, Nat.le_of_ble_eq_true rfl⟩ (Nat.le_of_ble_eq_true rfl) h0 (c_FR_requireGroup h0 hG.1 hi hb) rfl ?_
  refine fr_aload_n (pc := 5) d_FR_join_5 rfl rfl ?_
  refine fr_iload_n (pc := 6) d_FR_join_6 rfl rfl ?_
  refine fr_iload_n (pc := 7) d_FR_join_7 rfl rfl ?_
  refine fr_callv_x (pc := 8) (nc := 1) (ns := 6) (N := m_FR_requireUserOrGroup) (rest := []) (as := [.int y, .int (bI b)]) d_FR_join_8 vc_FR_45 ⟨by decide, by decide, Nat.le_of_ble_eq_true rfl⟩ (Nat.le_of_ble_eq_true rfl) h0 (x_FR_requireUserOrGroup h0 hG.1 hy hb hb2) rfl ?_
  exact fx_out (by decide) ⟨rfl, hX, fs_Fr_id⟩
theorem p_FR_leave_n1 {g : fw_G} {w : fw_W} {o gr a1 a2 a3 a4 na us n : Nat} {hu hg : Nat → Nat → Bool} {nd : fs_D} (hX : fs_X g (o, gr, a1, a2, a3, a4, na) (us, n, hu, hg, nd) w) {x y : Int32} {b : Bool} (hx : fs_no2 x n) : fw_R g m_FR_leave (fs_P g (o, gr, a1, a2, a3, a4, na) w (.inr "java/util/NoSuchElementException") (us, n, hu, hg, nd)) 3 18 w 0 [(0, .ref o), (1, .int x), (2, .int y), (3, .int (bI b))] [] := by
  obtain ⟨f1, f2, f3, f4, ad, lq, ld, lc, lt, hok, h0, hG, hR, hN, hr⟩ := fs_X_el hX
  have hb : n < 2 ^ 31 := by have := hok.2.2.1; omega
  have hb2 : us < 2 ^ 31 := by have := hok.2.1; omega
  refine fr_aload_n (pc := 0) d_FR_leave_0 rfl rfl ?_
  refine fr_iload_n (pc := 1) d_FR_leave_1 rfl rfl ?_
  refine fr_callv_x (pc := 2) (nc := 2) (ns := 12) (N := m_FR_requireGroup) (rest := []) (as := [.int x]) d_FR_leave_2 vc_FR_41 ⟨by decide, by decide, Nat.le_of_ble_eq_true rfl⟩ (Nat.le_of_ble_eq_true rfl) h0 (x_FR_requireGroup h0 hG.1 hx hb) rfl ?_
  exact fx_out (by decide) ⟨rfl, hX, fs_Fr_id⟩
theorem p_FR_leave_n2 {g : fw_G} {w : fw_W} {o gr a1 a2 a3 a4 na us n : Nat} {hu hg : Nat → Nat → Bool} {nd : fs_D} (hX : fs_X g (o, gr, a1, a2, a3, a4, na) (us, n, hu, hg, nd) w) {i : Nat} {y : Int32} {b : Bool} (hi : i < n) (hy : fs_no2 y (if b then n else us)) : fw_R g m_FR_leave (fs_P g (o, gr, a1, a2, a3, a4, na) w (.inr "java/util/NoSuchElementException") (us, n, hu, hg, nd)) 3 18 w 0 [(0, .ref o), (1, .int (nI i)), (2, .int y), (3, .int (bI b))] [] := by
  obtain ⟨f1, f2, f3, f4, ad, lq, ld, lc, lt, hok, h0, hG, hR, hN, hr⟩ := fs_X_el hX
  have hb : n < 2 ^ 31 := by have := hok.2.2.1; omega
  have hb2 : us < 2 ^ 31 := by have := hok.2.1; omega
  refine fr_aload_n (pc := 0) d_FR_leave_0 rfl rfl ?_
  refine fr_iload_n (pc := 1) d_FR_leave_1 rfl rfl ?_
  refine fr_callv_n (pc := 2) (nc := 2) (ns := 12) (N := m_FR_requireGroup) (rest := []) (as := [.int (nI i)]) d_FR_leave_2 vc_FR_41 ⟨by decide, by decide, Nat.le_of_ble_eq_true rfl⟩ (Nat.le_of_ble_eq_true rfl) h0 (c_FR_requireGroup h0 hG.1 hi hb) rfl ?_
  refine fr_aload_n (pc := 5) d_FR_leave_5 rfl rfl ?_
  refine fr_iload_n (pc := 6) d_FR_leave_6 rfl rfl ?_
  refine fr_iload_n (pc := 7) d_FR_leave_7 rfl rfl ?_
  refine fr_callv_x (pc := 8) (nc := 0) (ns := 0) (N := m_FR_requireUserOrGroup) (rest := []) (as := [.int y, .int (bI b)]) d_FR_leave_8 vc_FR_45 ⟨by decide, by decide, Nat.le_of_ble_eq_true rfl⟩ (Nat.le_of_ble_eq_true rfl) h0 (x_FR_requireUserOrGroup h0 hG.1 hy hb hb2) rfl ?_
  exact fx_out (by decide) ⟨rfl, hX, fs_Fr_id⟩
theorem p_FR_join_cir {g : fw_G} {w : fw_W} {o gr a1 a2 a3 a4 na us n : Nat} {hu hg : Nat → Nat → Bool} {nd : fs_D} (hX : fs_X g (o, gr, a1, a2, a3, a4, na) (us, n, hu, hg, nd) w) {i j : Nat} (hi : i < n) (hj : j < n) (hc : cl_rt hg j i) : fw_R g m_FR_join (fs_P g (o, gr, a1, a2, a3, a4, na) w (.inr "java/lang/IllegalStateException") (us, n, hu, hg, nd)) 4 24 w 0 [(0, .ref o), (1, .int (nI i)), (2, .int (nI j)), (3, .int (bI true))] [] := by
  obtain ⟨f1, f2, f3, f4, ad, lq, ld, lc, lt, hok, h0, hG, hR, hN, hr⟩ := fs_X_el hX
  have hb : n < 2 ^ 31 := by have := hok.2.2.1; omega
  have hb2 : us < 2 ^ 31 := by have := hok.2.1; omega
  refine fr_aload_n (pc := 0) d_FR_join_0 rfl rfl ?_
  refine fr_iload_n (pc := 1) d_FR_join_1 rfl rfl ?_
  refine fr_callv_n (pc := 2) (nc := 3) (ns := 18) (N := m_FR_requireGroup) (rest := []) (as := [.int (nI i)]) d_FR_join_2 vc_FR_41 ⟨by decide, by decide, Nat.le_of_ble_eq_true rfl⟩ (Nat.le_of_ble_eq_true rfl) h0 (c_FR_requireGroup h0 hG.1 hi hb) rfl ?_
  refine fr_aload_n (pc := 5) d_FR_join_5 rfl rfl ?_
  refine fr_iload_n (pc := 6) d_FR_join_6 rfl rfl ?_
  refine fr_iload_n (pc := 7) d_FR_join_7 rfl rfl ?_
  refine fr_callv_n (pc := 8) (nc := 1) (ns := 6) (N := m_FR_requireUserOrGroup) (rest := []) (as := [.int (nI j), .int (bI true)]) d_FR_join_8 vc_FR_45 ⟨by decide, by decide, Nat.le_of_ble_eq_true rfl⟩ (Nat.le_of_ble_eq_true rfl) h0 (c_FR_requireUserOrGroup h0 hG.1 (b := true) hj hb hb2) rfl ?_
  refine fr_iload_n (pc := 11) d_FR_join_11 rfl rfl ?_
  refine fr_if_eq (pc := 12) (tgt := 37) d_FR_join_12 (by decide) (fun q => ?_) (fun q => ?_)
  · exact absurd q (by decide)
  · refine fr_aload_n (pc := 15) d_FR_join_15 rfl rfl ?_
    refine fr_get (pc := 16) (v := .ref gr) d_FR_join_16 fg_FR_10 h0 rfl ?_
    refine fr_iload_n (pc := 19) d_FR_join_19 rfl rfl ?_
    refine fr_iload_n (pc := 20) d_FR_join_20 rfl rfl ?_
    refine fr_callv_p (pc := 21) (nc := 1) (ns := 6) (N := m_GR_wouldHoldItself) (rest := []) (as := [.int (nI i), .int (nI j)]) d_FR_join_21 vc_FR_49 ⟨by decide, by decide, Nat.le_of_ble_eq_true rfl⟩ (Nat.le_of_ble_eq_true rfl) hG.1 (c_GR_would hG hi hj) rfl ?_
    refine fr_st (st2 := [.int (bI true)]) (by rw [(fs_cir hR i j).mpr hc]) ?_
    refine fr_if_eq (pc := 24) (tgt := 37) d_FR_join_24 (by decide) (fun q2 => ?_) (fun q2 => ?_)
    · exact absurd q2 (by decide)
    · exact fr_throw (pc := 27) (nc := 0) (ns := 0) th_FR_53 d_FR_join_27 d_FR_join_30 d_FR_join_31 d_FR_join_33 d_FR_join_36 (by decide) (by decide) (by decide) ⟨rfl, hX, fs_Fr_id⟩
theorem p_FR_join_has {g : fw_G} {w : fw_W} {o gr a1 a2 a3 a4 na us n : Nat} {hu hg : Nat → Nat → Bool} {nd : fs_D} (hX : fs_X g (o, gr, a1, a2, a3, a4, na) (us, n, hu, hg, nd) w) {i j : Nat} {b : Bool} (hi : i < n) (hj : j < (if b then n else us)) (hc : b = true → ¬ cl_rt hg j i) (hh : fs_hh hu hg b i j = true) : fw_R g m_FR_join (fs_P g (o, gr, a1, a2, a3, a4, na) w (.inl (some (.int (bI false)))) (us, n, hu, hg, nd)) 4 24 w 0 [(0, .ref o), (1, .int (nI i)), (2, .int (nI j)), (3, .int (bI b))] [] := by
  obtain ⟨f1, f2, f3, f4, ad, lq, ld, lc, lt, hok, h0, hG, hR, hN, hr⟩ := fs_X_el hX
  have hb : n < 2 ^ 31 := by have := hok.2.2.1; omega
  have hb2 : us < 2 ^ 31 := by have := hok.2.1; omega
  have hj64 : j < 64 := by
    have h1 := hok.2.1
    have h2 := hok.2.2.1
    cases b <;> simp at hj <;> omega
  refine fr_aload_n (pc := 0) d_FR_join_0 rfl rfl ?_
  refine fr_iload_n (pc := 1) d_FR_join_1 rfl rfl ?_
  refine fr_callv_n (pc := 2) (nc := 3) (ns := 18) (N := m_FR_requireGroup) (rest := []) (as := [.int (nI i)]) d_FR_join_2 vc_FR_41 ⟨by decide, by decide, Nat.le_of_ble_eq_true rfl⟩ (Nat.le_of_ble_eq_true rfl) h0 (c_FR_requireGroup h0 hG.1 hi hb) rfl ?_
  refine fr_aload_n (pc := 5) d_FR_join_5 rfl rfl ?_
  refine fr_iload_n (pc := 6) d_FR_join_6 rfl rfl ?_
  refine fr_iload_n (pc := 7) d_FR_join_7 rfl rfl ?_
  refine fr_callv_n (pc := 8) (nc := 1) (ns := 6) (N := m_FR_requireUserOrGroup) (rest := []) (as := [.int (nI j), .int (bI b)]) d_FR_join_8 vc_FR_45 ⟨by decide, by decide, Nat.le_of_ble_eq_true rfl⟩ (Nat.le_of_ble_eq_true rfl) h0 (c_FR_requireUserOrGroup h0 hG.1 hj hb hb2) rfl ?_
  refine fr_iload_n (pc := 11) d_FR_join_11 rfl rfl ?_
  refine fr_if_eq (pc := 12) (tgt := 37) d_FR_join_12 (by decide) (fun q => ?_) (fun q => ?_)
  · refine fr_aload_n (pc := 37) d_FR_join_37 rfl rfl ?_
    refine fr_get (pc := 38) (v := .ref gr) d_FR_join_38 fg_FR_10 h0 rfl ?_
    refine fr_iload_n (pc := 41) d_FR_join_41 rfl rfl ?_
    refine fr_iload_n (pc := 42) d_FR_join_42 rfl rfl ?_
    refine fr_iload_n (pc := 43) d_FR_join_43 rfl rfl ?_
    refine fr_callv_p (pc := 44) (nc := 1) (ns := 6) (N := m_GR_hasMember) (rest := []) (as := [.int (nI i), .int (nI j), .int (bI b)]) d_FR_join_44 vc_FR_55 ⟨by decide, by decide, Nat.le_of_ble_eq_true rfl⟩ (Nat.le_of_ble_eq_true rfl) hG.1 (by have hh := c_GR_has (nc := 0) (ns := 0) hG (b := b) hi hj64; rw [fs_hh_f hR] at hh; exact hh) rfl ?_
    refine fr_st (st2 := [.int (bI true)]) (by rw [hh]) ?_
    refine fr_if_eq (pc := 47) (tgt := 52) d_FR_join_47 (by decide) (fun q9 => ?_) (fun q9 => ?_)
    · exact absurd q9 (by decide)
    · refine fr_iconst (pc := 50) (v := 0) d_FR_join_50 (by decide) ?_
      refine fr_st (st2 := [.int (bI false)]) rfl ?_
      exact fr_zret rfl (by first | exact bI_01 _ | exact Or.inl rfl | exact Or.inr rfl) d_FR_join_51 ⟨rfl, hX, fs_Fr_id⟩
  · have hbt : b = true := ts_nf (fun z => q (bI_0.mpr z))
    have hjn : j < n := by rw [hbt] at hj; simpa using hj
    have hcf : (decide (i = j) || bb (f3 j) i) = false := by
      cases hd : (decide (i = j) || bb (f3 j) i) with
      | false => rfl
      | true => exact absurd ((fs_cir hR i j).mp hd) (hc hbt)
    refine fr_aload_n (pc := 15) d_FR_join_15 rfl rfl ?_
    refine fr_get (pc := 16) (v := .ref gr) d_FR_join_16 fg_FR_10 h0 rfl ?_
    refine fr_iload_n (pc := 19) d_FR_join_19 rfl rfl ?_
    refine fr_iload_n (pc := 20) d_FR_join_20 rfl rfl ?_
    refine fr_callv_p (pc := 21) (nc := 1) (ns := 6) (N := m_GR_wouldHoldItself) (rest := []) (as := [.int (nI i), .int (nI j)]) d_FR_join_21 vc_FR_49 ⟨by decide, by decide, Nat.le_of_ble_eq_true rfl⟩ (Nat.le_of_ble_eq_true rfl) hG.1 (c_GR_would hG hi hjn) rfl ?_
    refine fr_st (st2 := [.int (bI false)]) (by rw [hcf]) ?_
    refine fr_if_eq (pc := 24) (tgt := 37) d_FR_join_24 (by decide) (fun q2 => ?_) (fun q2 => ?_)
    · refine fr_aload_n (pc := 37) d_FR_join_37 rfl rfl ?_
      refine fr_get (pc := 38) (v := .ref gr) d_FR_join_38 fg_FR_10 h0 rfl ?_
      refine fr_iload_n (pc := 41) d_FR_join_41 rfl rfl ?_
      refine fr_iload_n (pc := 42) d_FR_join_42 rfl rfl ?_
      refine fr_iload_n (pc := 43) d_FR_join_43 rfl rfl ?_
      refine fr_callv_p (pc := 44) (nc := 1) (ns := 6) (N := m_GR_hasMember) (rest := []) (as := [.int (nI i), .int (nI j), .int (bI b)]) d_FR_join_44 vc_FR_55 ⟨by decide, by decide, Nat.le_of_ble_eq_true rfl⟩ (Nat.le_of_ble_eq_true rfl) hG.1 (by have hh := c_GR_has (nc := 0) (ns := 0) hG (b := b) hi hj64; rw [fs_hh_f hR] at hh; exact hh) rfl ?_
      refine fr_st (st2 := [.int (bI true)]) (by rw [hh]) ?_
      refine fr_if_eq (pc := 47) (tgt := 52) d_FR_join_47 (by decide) (fun q9 => ?_) (fun q9 => ?_)
      · exact absurd q9 (by decide)
      · refine fr_iconst (pc := 50) (v := 0) d_FR_join_50 (by decide) ?_
        refine fr_st (st2 := [.int (bI false)]) rfl ?_
        exact fr_zret rfl (by first | exact bI_01 _ | exact Or.inl rfl | exact Or.inr rfl) d_FR_join_51 ⟨rfl, hX, fs_Fr_id⟩
    · exact absurd rfl q2
theorem p_FR_join_new {g : fw_G} {w : fw_W} {o gr a1 a2 a3 a4 na us n : Nat} {hu hg : Nat → Nat → Bool} {nd : fs_D} (hX : fs_X g (o, gr, a1, a2, a3, a4, na) (us, n, hu, hg, nd) w) {i j : Nat} {b : Bool} (hi : i < n) (hj : j < (if b then n else us)) (hc : b = true → ¬ cl_rt hg j i) (hh : fs_hh hu hg b i j = false) : fw_R g m_FR_join (fs_P g (o, gr, a1, a2, a3, a4, na) w (.inl (some (.int (bI true)))) (us, n, (if b then hu else gr_tg hu i j), (if b then gr_tg hg i j else hg), nd)) 4 24 w 0 [(0, .ref o), (1, .int (nI i)), (2, .int (nI j)), (3, .int (bI b))] [] := by
  obtain ⟨f1, f2, f3, f4, ad, lq, ld, lc, lt, hok, h0, hG, hR, hN, hr⟩ := fs_X_el hX
  have hb : n < 2 ^ 31 := by have := hok.2.2.1; omega
  have hb2 : us < 2 ^ 31 := by have := hok.2.1; omega
  have hj64 : j < 64 := by
    have h1 := hok.2.1
    have h2 := hok.2.2.1
    cases b <;> simp at hj <;> omega
  refine fr_aload_n (pc := 0) d_FR_join_0 rfl rfl ?_
  refine fr_iload_n (pc := 1) d_FR_join_1 rfl rfl ?_
  refine fr_callv_n (pc := 2) (nc := 3) (ns := 18) (N := m_FR_requireGroup) (rest := []) (as := [.int (nI i)]) d_FR_join_2 vc_FR_41 ⟨by decide, by decide, Nat.le_of_ble_eq_true rfl⟩ (Nat.le_of_ble_eq_true rfl) h0 (c_FR_requireGroup h0 hG.1 hi hb) rfl ?_
  refine fr_aload_n (pc := 5) d_FR_join_5 rfl rfl ?_
  refine fr_iload_n (pc := 6) d_FR_join_6 rfl rfl ?_
  refine fr_iload_n (pc := 7) d_FR_join_7 rfl rfl ?_
  refine fr_callv_n (pc := 8) (nc := 1) (ns := 6) (N := m_FR_requireUserOrGroup) (rest := []) (as := [.int (nI j), .int (bI b)]) d_FR_join_8 vc_FR_45 ⟨by decide, by decide, Nat.le_of_ble_eq_true rfl⟩ (Nat.le_of_ble_eq_true rfl) h0 (c_FR_requireUserOrGroup h0 hG.1 hj hb hb2) rfl ?_
  refine fr_iload_n (pc := 11) d_FR_join_11 rfl rfl ?_
  refine fr_if_eq (pc := 12) (tgt := 37) d_FR_join_12 (by decide) (fun q => ?_) (fun q => ?_)
  · refine fr_aload_n (pc := 37) d_FR_join_37 rfl rfl ?_
    refine fr_get (pc := 38) (v := .ref gr) d_FR_join_38 fg_FR_10 h0 rfl ?_
    refine fr_iload_n (pc := 41) d_FR_join_41 rfl rfl ?_
    refine fr_iload_n (pc := 42) d_FR_join_42 rfl rfl ?_
    refine fr_iload_n (pc := 43) d_FR_join_43 rfl rfl ?_
    refine fr_callv_p (pc := 44) (nc := 1) (ns := 6) (N := m_GR_hasMember) (rest := []) (as := [.int (nI i), .int (nI j), .int (bI b)]) d_FR_join_44 vc_FR_55 ⟨by decide, by decide, Nat.le_of_ble_eq_true rfl⟩ (Nat.le_of_ble_eq_true rfl) hG.1 (by have hh := c_GR_has (nc := 0) (ns := 0) hG (b := b) hi hj64; rw [fs_hh_f hR] at hh; exact hh) rfl ?_
    refine fr_st (st2 := [.int (bI false)]) (by rw [hh]) ?_
    refine fr_if_eq (pc := 47) (tgt := 52) d_FR_join_47 (by decide) (fun q9 => ?_) (fun q9 => ?_)
    · refine fr_aload_n (pc := 52) d_FR_join_52 rfl rfl ?_
      refine fr_get (pc := 53) (v := .ref gr) d_FR_join_53 fg_FR_10 h0 rfl ?_
      refine fr_iload_n (pc := 56) d_FR_join_56 rfl rfl ?_
      refine fr_iload_n (pc := 57) d_FR_join_57 rfl rfl ?_
      refine fr_iload_n (pc := 58) d_FR_join_58 rfl rfl ?_
      refine fr_callv_n (pc := 59) (nc := 1) (ns := 6) (N := m_GR_turnMember) (rest := []) (as := [.int (nI i), .int (nI j), .int (bI b)]) d_FR_join_59 vc_FR_59 ⟨by decide, by decide, Nat.le_of_ble_eq_true rfl⟩ (Nat.le_of_ble_eq_true rfl) hG.1 (c_GR_turn hG hi) rfl ?_
      obtain ⟨hX2, hF2⟩ := fs_X_tu hok h0 hG hR hN hr hi hj
      refine fr_iconst (pc := 62) (v := 1) d_FR_join_62 (by decide) ?_
      refine fr_st (st2 := [.int (bI true)]) rfl ?_
      exact fr_zret rfl (by first | exact bI_01 _ | exact Or.inl rfl | exact Or.inr rfl) d_FR_join_63 ⟨rfl, hX2, hF2⟩
    · exact absurd rfl q9
  · have hbt : b = true := ts_nf (fun z => q (bI_0.mpr z))
    have hjn : j < n := by rw [hbt] at hj; simpa using hj
    have hcf : (decide (i = j) || bb (f3 j) i) = false := by
      cases hd : (decide (i = j) || bb (f3 j) i) with
      | false => rfl
      | true => exact absurd ((fs_cir hR i j).mp hd) (hc hbt)
    refine fr_aload_n (pc := 15) d_FR_join_15 rfl rfl ?_
    refine fr_get (pc := 16) (v := .ref gr) d_FR_join_16 fg_FR_10 h0 rfl ?_
    refine fr_iload_n (pc := 19) d_FR_join_19 rfl rfl ?_
    refine fr_iload_n (pc := 20) d_FR_join_20 rfl rfl ?_
    refine fr_callv_p (pc := 21) (nc := 1) (ns := 6) (N := m_GR_wouldHoldItself) (rest := []) (as := [.int (nI i), .int (nI j)]) d_FR_join_21 vc_FR_49 ⟨by decide, by decide, Nat.le_of_ble_eq_true rfl⟩ (Nat.le_of_ble_eq_true rfl) hG.1 (c_GR_would hG hi hjn) rfl ?_
    refine fr_st (st2 := [.int (bI false)]) (by rw [hcf]) ?_
    refine fr_if_eq (pc := 24) (tgt := 37) d_FR_join_24 (by decide) (fun q2 => ?_) (fun q2 => ?_)
    · refine fr_aload_n (pc := 37) d_FR_join_37 rfl rfl ?_
      refine fr_get (pc := 38) (v := .ref gr) d_FR_join_38 fg_FR_10 h0 rfl ?_
      refine fr_iload_n (pc := 41) d_FR_join_41 rfl rfl ?_
      refine fr_iload_n (pc := 42) d_FR_join_42 rfl rfl ?_
      refine fr_iload_n (pc := 43) d_FR_join_43 rfl rfl ?_
      refine fr_callv_p (pc := 44) (nc := 1) (ns := 6) (N := m_GR_hasMember) (rest := []) (as := [.int (nI i), .int (nI j), .int (bI b)]) d_FR_join_44 vc_FR_55 ⟨by decide, by decide, Nat.le_of_ble_eq_true rfl⟩ (Nat.le_of_ble_eq_true rfl) hG.1 (by have hh := c_GR_has (nc := 0) (ns := 0) hG (b := b) hi hj64; rw [fs_hh_f hR] at hh; exact hh) rfl ?_
      refine fr_st (st2 := [.int (bI false)]) (by rw [hh]) ?_
      refine fr_if_eq (pc := 47) (tgt := 52) d_FR_join_47 (by decide) (fun q9 => ?_) (fun q9 => ?_)
      · refine fr_aload_n (pc := 52) d_FR_join_52 rfl rfl ?_
        refine fr_get (pc := 53) (v := .ref gr) d_FR_join_53 fg_FR_10 h0 rfl ?_
        refine fr_iload_n (pc := 56) d_FR_join_56 rfl rfl ?_
        refine fr_iload_n (pc := 57) d_FR_join_57 rfl rfl ?_
        refine fr_iload_n (pc := 58) d_FR_join_58 rfl rfl ?_
        refine fr_callv_n (pc := 59) (nc := 1) (ns := 6) (N := m_GR_turnMember) (rest := []) (as := [.int (nI i), .int (nI j), .int (bI b)]) d_FR_join_59 vc_FR_59 ⟨by decide, by decide, Nat.le_of_ble_eq_true rfl⟩ (Nat.le_of_ble_eq_true rfl) hG.1 (c_GR_turn hG hi) rfl ?_
        obtain ⟨hX2, hF2⟩ := fs_X_tu hok h0 hG hR hN hr hi hj
        refine fr_iconst (pc := 62) (v := 1) d_FR_join_62 (by decide) ?_
        refine fr_st (st2 := [.int (bI true)]) rfl ?_
        exact fr_zret rfl (by first | exact bI_01 _ | exact Or.inl rfl | exact Or.inr rfl) d_FR_join_63 ⟨rfl, hX2, hF2⟩
      · exact absurd rfl q9
    · exact absurd rfl q2
theorem p_FR_leave_no {g : fw_G} {w : fw_W} {o gr a1 a2 a3 a4 na us n : Nat} {hu hg : Nat → Nat → Bool} {nd : fs_D} (hX : fs_X g (o, gr, a1, a2, a3, a4, na) (us, n, hu, hg, nd) w) {i j : Nat} {b : Bool} (hi : i < n) (hj : j < (if b then n else us)) (hh : fs_hh hu hg b i j = false) : fw_R g m_FR_leave (fs_P g (o, gr, a1, a2, a3, a4, na) w (.inl (some (.int (bI false)))) (us, n, hu, hg, nd)) 3 18 w 0 [(0, .ref o), (1, .int (nI i)), (2, .int (nI j)), (3, .int (bI b))] [] := by
  obtain ⟨f1, f2, f3, f4, ad, lq, ld, lc, lt, hok, h0, hG, hR, hN, hr⟩ := fs_X_el hX
  have hb : n < 2 ^ 31 := by have := hok.2.2.1; omega
  have hb2 : us < 2 ^ 31 := by have := hok.2.1; omega
  have hj64 : j < 64 := by
    have h1 := hok.2.1
    have h2 := hok.2.2.1
    cases b <;> simp at hj <;> omega
  refine fr_aload_n (pc := 0) d_FR_leave_0 rfl rfl ?_
  refine fr_iload_n (pc := 1) d_FR_leave_1 rfl rfl ?_
  refine fr_callv_n (pc := 2) (nc := 2) (ns := 12) (N := m_FR_requireGroup) (rest := []) (as := [.int (nI i)]) d_FR_leave_2 vc_FR_41 ⟨by decide, by decide, Nat.le_of_ble_eq_true rfl⟩ (Nat.le_of_ble_eq_true rfl) h0 (c_FR_requireGroup h0 hG.1 hi hb) rfl ?_
  refine fr_aload_n (pc := 5) d_FR_leave_5 rfl rfl ?_
  refine fr_iload_n (pc := 6) d_FR_leave_6 rfl rfl ?_
  refine fr_iload_n (pc := 7) d_FR_leave_7 rfl rfl ?_
  refine fr_callv_n (pc := 8) (nc := 0) (ns := 0) (N := m_FR_requireUserOrGroup) (rest := []) (as := [.int (nI j), .int (bI b)]) d_FR_leave_8 vc_FR_45 ⟨by decide, by decide, Nat.le_of_ble_eq_true rfl⟩ (Nat.le_of_ble_eq_true rfl) h0 (c_FR_requireUserOrGroup h0 hG.1 hj hb hb2) rfl ?_
  refine fr_aload_n (pc := 11) d_FR_leave_11 rfl rfl ?_
  refine fr_get (pc := 12) (v := .ref gr) d_FR_leave_12 fg_FR_10 h0 rfl ?_
  refine fr_iload_n (pc := 15) d_FR_leave_15 rfl rfl ?_
  refine fr_iload_n (pc := 16) d_FR_leave_16 rfl rfl ?_
  refine fr_iload_n (pc := 17) d_FR_leave_17 rfl rfl ?_
  refine fr_callv_p (pc := 18) (nc := 0) (ns := 0) (N := m_GR_hasMember) (rest := []) (as := [.int (nI i), .int (nI j), .int (bI b)]) d_FR_leave_18 vc_FR_55 ⟨by decide, by decide, Nat.le_of_ble_eq_true rfl⟩ (Nat.le_of_ble_eq_true rfl) hG.1 (by have hh := c_GR_has (nc := 0) (ns := 0) hG (b := b) hi hj64; rw [fs_hh_f hR] at hh; exact hh) rfl ?_
  refine fr_st (st2 := [.int (bI false)]) (by rw [hh]) ?_
  refine fr_if_ne (pc := 21) (tgt := 26) d_FR_leave_21 (by decide) (fun q9 => ?_) (fun q9 => ?_)
  · exact absurd rfl q9
  · refine fr_iconst (pc := 24) (v := 0) d_FR_leave_24 (by decide) ?_
    refine fr_st (st2 := [.int (bI false)]) rfl ?_
    exact fr_zret rfl (by first | exact bI_01 _ | exact Or.inl rfl | exact Or.inr rfl) d_FR_leave_25 ⟨rfl, hX, fs_Fr_id⟩
theorem p_FR_leave_has {g : fw_G} {w : fw_W} {o gr a1 a2 a3 a4 na us n : Nat} {hu hg : Nat → Nat → Bool} {nd : fs_D} (hX : fs_X g (o, gr, a1, a2, a3, a4, na) (us, n, hu, hg, nd) w) {i j : Nat} {b : Bool} (hi : i < n) (hj : j < (if b then n else us)) (hh : fs_hh hu hg b i j = true) : fw_R g m_FR_leave (fs_P g (o, gr, a1, a2, a3, a4, na) w (.inl (some (.int (bI true)))) (us, n, (if b then hu else gr_tg hu i j), (if b then gr_tg hg i j else hg), nd)) 3 18 w 0 [(0, .ref o), (1, .int (nI i)), (2, .int (nI j)), (3, .int (bI b))] [] := by
  obtain ⟨f1, f2, f3, f4, ad, lq, ld, lc, lt, hok, h0, hG, hR, hN, hr⟩ := fs_X_el hX
  have hb : n < 2 ^ 31 := by have := hok.2.2.1; omega
  have hb2 : us < 2 ^ 31 := by have := hok.2.1; omega
  have hj64 : j < 64 := by
    have h1 := hok.2.1
    have h2 := hok.2.2.1
    cases b <;> simp at hj <;> omega
  refine fr_aload_n (pc := 0) d_FR_leave_0 rfl rfl ?_
  refine fr_iload_n (pc := 1) d_FR_leave_1 rfl rfl ?_
  refine fr_callv_n (pc := 2) (nc := 2) (ns := 12) (N := m_FR_requireGroup) (rest := []) (as := [.int (nI i)]) d_FR_leave_2 vc_FR_41 ⟨by decide, by decide, Nat.le_of_ble_eq_true rfl⟩ (Nat.le_of_ble_eq_true rfl) h0 (c_FR_requireGroup h0 hG.1 hi hb) rfl ?_
  refine fr_aload_n (pc := 5) d_FR_leave_5 rfl rfl ?_
  refine fr_iload_n (pc := 6) d_FR_leave_6 rfl rfl ?_
  refine fr_iload_n (pc := 7) d_FR_leave_7 rfl rfl ?_
  refine fr_callv_n (pc := 8) (nc := 0) (ns := 0) (N := m_FR_requireUserOrGroup) (rest := []) (as := [.int (nI j), .int (bI b)]) d_FR_leave_8 vc_FR_45 ⟨by decide, by decide, Nat.le_of_ble_eq_true rfl⟩ (Nat.le_of_ble_eq_true rfl) h0 (c_FR_requireUserOrGroup h0 hG.1 hj hb hb2) rfl ?_
  refine fr_aload_n (pc := 11) d_FR_leave_11 rfl rfl ?_
  refine fr_get (pc := 12) (v := .ref gr) d_FR_leave_12 fg_FR_10 h0 rfl ?_
  refine fr_iload_n (pc := 15) d_FR_leave_15 rfl rfl ?_
  refine fr_iload_n (pc := 16) d_FR_leave_16 rfl rfl ?_
  refine fr_iload_n (pc := 17) d_FR_leave_17 rfl rfl ?_
  refine fr_callv_p (pc := 18) (nc := 0) (ns := 0) (N := m_GR_hasMember) (rest := []) (as := [.int (nI i), .int (nI j), .int (bI b)]) d_FR_leave_18 vc_FR_55 ⟨by decide, by decide, Nat.le_of_ble_eq_true rfl⟩ (Nat.le_of_ble_eq_true rfl) hG.1 (by have hh := c_GR_has (nc := 0) (ns := 0) hG (b := b) hi hj64; rw [fs_hh_f hR] at hh; exact hh) rfl ?_
  refine fr_st (st2 := [.int (bI true)]) (by rw [hh]) ?_
  refine fr_if_ne (pc := 21) (tgt := 26) d_FR_leave_21 (by decide) (fun q9 => ?_) (fun q9 => ?_)
  · refine fr_aload_n (pc := 26) d_FR_leave_26 rfl rfl ?_
    refine fr_get (pc := 27) (v := .ref gr) d_FR_leave_27 fg_FR_10 h0 rfl ?_
    refine fr_iload_n (pc := 30) d_FR_leave_30 rfl rfl ?_
    refine fr_iload_n (pc := 31) d_FR_leave_31 rfl rfl ?_
    refine fr_iload_n (pc := 32) d_FR_leave_32 rfl rfl ?_
    refine fr_callv_n (pc := 33) (nc := 0) (ns := 0) (N := m_GR_turnMember) (rest := []) (as := [.int (nI i), .int (nI j), .int (bI b)]) d_FR_leave_33 vc_FR_59 ⟨by decide, by decide, Nat.le_of_ble_eq_true rfl⟩ (Nat.le_of_ble_eq_true rfl) hG.1 (c_GR_turn hG hi) rfl ?_
    obtain ⟨hX2, hF2⟩ := fs_X_tu hok h0 hG hR hN hr hi hj
    refine fr_iconst (pc := 36) (v := 1) d_FR_leave_36 (by decide) ?_
    refine fr_st (st2 := [.int (bI true)]) rfl ?_
    exact fr_zret rfl (by first | exact bI_01 _ | exact Or.inl rfl | exact Or.inr rfl) d_FR_leave_37 ⟨rfl, hX2, hF2⟩
  · exact absurd q9 (by decide)
theorem c_FR_step_n {g : fw_G} {nc ns : Nat} {w : fw_W} {o gr na us : Nat} (h0 : w o = some (.inr (0, [.ref gr, .ref na, .int (nI us)]))) {nd : fs_D} {ad : Nat → Option Nat} {lq ld lc : Nat → Nat} {lt : Nat → List Nat} (hN : w na = some (fs_no g ad)) (hr : fs_rN g w nd ad lq ld lc lt) (hno : ∀ j M, j < 150 → nd j = some M → M.2.2.2.2.1 = false) : ∀ m i, i + m = 150 → ∀ L : List (Nat × Value), L = [(0, .ref o), (1, .ref na), (2, .int (nI 150)), (3, .int (nI i))] → fw_R g m_FR_step (fw_pv (.int (-1)) w) nc ns w 10 L [] := by
  intro m
  induction m with
  | zero =>
    intro i hi L hL
    have hk2 : i = 150 := by omega
    subst hk2 hL
    refine fr_iload_n (pc := 10) d_FR_step_10 rfl rfl ?_
    refine fr_iload_n (pc := 11) d_FR_step_11 rfl rfl ?_
    refine fr_icmp_ge (pc := 12) (tgt := 51) d_FR_step_12 (by decide) (fun q => ?_) (fun q => ?_)
    · refine fr_iconst (pc := 51) (v := -1) d_FR_step_51 (by decide) ?_
      exact fr_iret rfl d_FR_step_52 ⟨rfl, rfl⟩
    · exact absurd ((ni_le (a := 150) (b := 150) (by omega) (by omega)).mpr (by omega)) q
  | succ m ih =>
    intro i hi L hL
    subst hL
    refine fr_iload_n (pc := 10) d_FR_step_10 rfl rfl ?_
    refine fr_iload_n (pc := 11) d_FR_step_11 rfl rfl ?_
    refine fr_icmp_ge (pc := 12) (tgt := 51) d_FR_step_12 (by decide) (fun q => ?_) (fun q => ?_)
    · exact absurd ((ni_le (a := 150) (by omega) (by omega)).mp q) (by omega)
    · refine fr_aload_n (pc := 15) d_FR_step_15 rfl rfl ?_
      refine fr_iload_n (pc := 16) d_FR_step_16 rfl rfl ?_
      refine fr_aaldN (pc := 17) (t := 3) (n := 150) (k := i) (C := "FolderRights$Node") (f := ad) d_FR_step_17 rfl hN (by omega) (by omega) ?_
      cases hA : nd i with
      | none =>
        refine fr_st (st2 := [.null]) (by rw [rf_none (hr.1 i hA)]) ?_
        refine fr_astoreN (pc := 18) (L2 := [(0, .ref o), (1, .ref na), (2, .int (nI 150)), (3, .int (nI i)), (4, .null)]) d_FR_step_18 (by decide) rfl ?_
        refine fr_aloadN (pc := 20) d_FR_step_20 rfl ?_
        refine fr_ifnullN (pc := 22) (tgt := 45) d_FR_step_22 (by decide) ?_
        refine fr_iinc (pc := 45) (v := (nI (i + 1))) (L2 := [(0, .ref o), (1, .ref na), (2, .int (nI 150)), (3, .int (nI (i + 1))), (4, .null)]) d_FR_step_45 rfl (fi_1 _) (by decide) rfl ?_
        refine fr_goto (pc := 48) (tgt := 10) d_FR_step_48 (by decide) ?_
        exact fr_Ld (ih (i + 1) (by omega) _ rfl)
      | some M =>
        obtain ⟨-, a, ha, hc, -, -⟩ := hr.2.1 i M hA
        have hs : M.2.2.2.2.1 = false := hno i M (by omega) hA
        refine fr_st (st2 := [.ref a]) (by rw [rf_some ha]) ?_
        refine fr_astore (pc := 18) (L2 := [(0, .ref o), (1, .ref na), (2, .int (nI 150)), (3, .int (nI i)), (4, .ref a)]) d_FR_step_18 (by decide) rfl ?_
        refine fr_aload (pc := 20) d_FR_step_20 rfl ?_
        refine fr_ifnull (pc := 22) d_FR_step_22 ?_
        refine fr_aload (pc := 25) d_FR_step_25 rfl ?_
        refine fr_get (pc := 27) (v := .int (bI M.2.2.2.2.1)) d_FR_step_27 fg_FR_110 hc rfl ?_
        refine fr_if_eq (pc := 30) (tgt := 45) d_FR_step_30 (by decide) (fun q => ?_) (fun q => ?_)
        · refine fr_iinc (pc := 45) (v := (nI (i + 1))) (L2 := [(0, .ref o), (1, .ref na), (2, .int (nI 150)), (3, .int (nI (i + 1))), (4, .ref a)]) d_FR_step_45 rfl (fi_1 _) (by decide) rfl ?_
          refine fr_goto (pc := 48) (tgt := 10) d_FR_step_48 (by decide) ?_
          exact fr_Ld (ih (i + 1) (by omega) _ rfl)
        · exact absurd (bI_0.mpr hs) q
theorem c_FR_step_y {g : fw_G} {nc ns : Nat} {w : fw_W} {o gr na us : Nat} (h0 : w o = some (.inr (0, [.ref gr, .ref na, .int (nI us)]))) {nd : fs_D} {ad : Nat → Option Nat} {lq ld lc : Nat → Nat} {lt : Nat → List Nat} (hN : w na = some (fs_no g ad)) (hr : fs_rN g w nd ad lq ld lc lt) {k a : Nat} {N : fs_N} (hk : nd k = some N) (ha2 : ad k = some a) (hs2 : N.2.2.2.2.1 = true) (hno : ∀ j M, j < k → nd j = some M → M.2.2.2.2.1 = false) : ∀ m i, i + m = k → ∀ L : List (Nat × Value), L = [(0, .ref o), (1, .ref na), (2, .int (nI 150)), (3, .int (nI i))] → fw_R g m_FR_step (fw_pv (.int (nI k)) (fw_up w a (.inr (2, fs_nc k (fs_st N false) (lq k) (N.2.1.bind ad))))) nc ns w 10 L [] := by
  obtain ⟨hk150, a0, ha0, hc2, -, -⟩ := hr.2.1 k N hk
  rw [ha2] at ha0; cases ha0
  intro m
  induction m with
  | zero =>
    intro i hi L hL
    have hk2 : i = k := by omega
    subst hk2 hL
    refine fr_iload_n (pc := 10) d_FR_step_10 rfl rfl ?_
    refine fr_iload_n (pc := 11) d_FR_step_11 rfl rfl ?_
    refine fr_icmp_ge (pc := 12) (tgt := 51) d_FR_step_12 (by decide) (fun q => ?_) (fun q => ?_)
    · exact absurd ((ni_le (a := 150) (by omega) (by omega)).mp q) (by omega)
    · refine fr_aload_n (pc := 15) d_FR_step_15 rfl rfl ?_
      refine fr_iload_n (pc := 16) d_FR_step_16 rfl rfl ?_
      refine fr_aaldN (pc := 17) (t := 3) (n := 150) (k := i) (C := "FolderRights$Node") (f := ad) d_FR_step_17 rfl hN (by omega) (by omega) ?_
      refine fr_st (st2 := [.ref a]) (by rw [rf_some ha2]) ?_
      refine fr_astore (pc := 18) (L2 := [(0, .ref o), (1, .ref na), (2, .int (nI 150)), (3, .int (nI i)), (4, .ref a)]) d_FR_step_18 (by decide) rfl ?_
      refine fr_aload (pc := 20) d_FR_step_20 rfl ?_
      refine fr_ifnull (pc := 22) d_FR_step_22 ?_
      refine fr_aload (pc := 25) d_FR_step_25 rfl ?_
      refine fr_get (pc := 27) (v := .int (bI N.2.2.2.2.1)) d_FR_step_27 fg_FR_110 hc2 rfl ?_
      refine fr_if_eq (pc := 30) (tgt := 45) d_FR_step_30 (by decide) (fun q2 => ?_) (fun q2 => ?_)
      · exact absurd (bI_0.mp q2) (by rw [hs2]; decide)
      · refine fr_aload (pc := 33) d_FR_step_33 rfl ?_
        refine fr_iconst (pc := 35) (v := 0) d_FR_step_35 (by decide) ?_
        refine fr_put (pc := 36) (fs2 := fs_nc i (fs_st N false) (lq i) (N.2.1.bind ad)) d_FR_step_36 fp_FR_step_110 hc2 (Nat.le_of_ble_eq_true rfl) rfl rfl rfl ?_
        refine fr_aload (pc := 39) d_FR_step_39 rfl ?_
        refine fr_get (pc := 41) (v := .int (nI i)) d_FR_step_41 fg_FR_186 fw_up_self rfl ?_
        exact fr_iret rfl d_FR_step_44 ⟨rfl, rfl⟩
  | succ m ih =>
    intro i hi L hL
    subst hL
    refine fr_iload_n (pc := 10) d_FR_step_10 rfl rfl ?_
    refine fr_iload_n (pc := 11) d_FR_step_11 rfl rfl ?_
    refine fr_icmp_ge (pc := 12) (tgt := 51) d_FR_step_12 (by decide) (fun q => ?_) (fun q => ?_)
    · exact absurd ((ni_le (a := 150) (by omega) (by omega)).mp q) (by omega)
    · refine fr_aload_n (pc := 15) d_FR_step_15 rfl rfl ?_
      refine fr_iload_n (pc := 16) d_FR_step_16 rfl rfl ?_
      refine fr_aaldN (pc := 17) (t := 3) (n := 150) (k := i) (C := "FolderRights$Node") (f := ad) d_FR_step_17 rfl hN (by omega) (by omega) ?_
      cases hA : nd i with
      | none =>
        refine fr_st (st2 := [.null]) (by rw [rf_none (hr.1 i hA)]) ?_
        refine fr_astoreN (pc := 18) (L2 := [(0, .ref o), (1, .ref na), (2, .int (nI 150)), (3, .int (nI i)), (4, .null)]) d_FR_step_18 (by decide) rfl ?_
        refine fr_aloadN (pc := 20) d_FR_step_20 rfl ?_
        refine fr_ifnullN (pc := 22) (tgt := 45) d_FR_step_22 (by decide) ?_
        refine fr_iinc (pc := 45) (v := (nI (i + 1))) (L2 := [(0, .ref o), (1, .ref na), (2, .int (nI 150)), (3, .int (nI (i + 1))), (4, .null)]) d_FR_step_45 rfl (fi_1 _) (by decide) rfl ?_
        refine fr_goto (pc := 48) (tgt := 10) d_FR_step_48 (by decide) ?_
        exact fr_Ld (ih (i + 1) (by omega) _ rfl)
      | some M =>
        obtain ⟨-, a, ha, hc, -, -⟩ := hr.2.1 i M hA
        have hs : M.2.2.2.2.1 = false := hno i M (by omega) hA
        refine fr_st (st2 := [.ref a]) (by rw [rf_some ha]) ?_
        refine fr_astore (pc := 18) (L2 := [(0, .ref o), (1, .ref na), (2, .int (nI 150)), (3, .int (nI i)), (4, .ref a)]) d_FR_step_18 (by decide) rfl ?_
        refine fr_aload (pc := 20) d_FR_step_20 rfl ?_
        refine fr_ifnull (pc := 22) d_FR_step_22 ?_
        refine fr_aload (pc := 25) d_FR_step_25 rfl ?_
        refine fr_get (pc := 27) (v := .int (bI M.2.2.2.2.1)) d_FR_step_27 fg_FR_110 hc rfl ?_
        refine fr_if_eq (pc := 30) (tgt := 45) d_FR_step_30 (by decide) (fun q => ?_) (fun q => ?_)
        · refine fr_iinc (pc := 45) (v := (nI (i + 1))) (L2 := [(0, .ref o), (1, .ref na), (2, .int (nI 150)), (3, .int (nI (i + 1))), (4, .ref a)]) d_FR_step_45 rfl (fi_1 _) (by decide) rfl ?_
          refine fr_goto (pc := 48) (tgt := 10) d_FR_step_48 (by decide) ?_
          exact fr_Ld (ih (i + 1) (by omega) _ rfl)
        · exact absurd (bI_0.mpr hs) q
theorem p_FR_step_n {g : fw_G} {w : fw_W} {o gr a1 a2 a3 a4 na us n : Nat} {hu hg : Nat → Nat → Bool} {nd : fs_D} (hX : fs_X g (o, gr, a1, a2, a3, a4, na) (us, n, hu, hg, nd) w) (hno : ∀ j M, nd j = some M → M.2.2.2.2.1 = false) : fw_R g m_FR_step (fs_P g (o, gr, a1, a2, a3, a4, na) w (.inl (some (.int (-1)))) (us, n, hu, hg, nd)) 0 0 w 0 [(0, .ref o)] [] := by
  obtain ⟨f1, f2, f3, f4, ad, lq, ld, lc, lt, hok, h0, hG, hR, hN, hr⟩ := fs_X_el hX
  refine fr_po (Post := fw_pv (.int (-1)) w) (fun r u h => by obtain ⟨e1, e2⟩ := h; subst e2; exact ⟨e1, hX, fs_Fr_id⟩) ?_
  refine fr_aload_n (pc := 0) d_FR_step_0 rfl rfl ?_
  refine fr_get (pc := 1) (v := .ref na) d_FR_step_1 fg_FR_18 h0 rfl ?_
  refine fr_astore_n (pc := 4) (L2 := [(0, .ref o), (1, .ref na)]) d_FR_step_4 rfl (by decide) rfl ?_
  refine fr_aload_n (pc := 5) d_FR_step_5 rfl rfl ?_
  refine fr_alen (pc := 6) (t := 3) (v := (nI 150)) d_FR_step_6 rfl hN rfl ?_
  refine fr_istore_n (pc := 7) (L2 := [(0, .ref o), (1, .ref na), (2, .int (nI 150))]) d_FR_step_7 rfl (by decide) rfl ?_
  refine fr_iconst (pc := 8) (v := 0) d_FR_step_8 (by decide) ?_
  refine fr_istore_n (pc := 9) (L2 := [(0, .ref o), (1, .ref na), (2, .int (nI 150)), (3, .int 0)]) d_FR_step_9 rfl (by decide) rfl ?_
  exact c_FR_step_n h0 hN hr (fun j M _ => hno j M) 150 0 rfl _ rfl
theorem p_FR_step_y {g : fw_G} {w : fw_W} {o gr a1 a2 a3 a4 na us n : Nat} {hu hg : Nat → Nat → Bool} {nd : fs_D} (hX : fs_X g (o, gr, a1, a2, a3, a4, na) (us, n, hu, hg, nd) w) {k : Nat} {N : fs_N} (hk : nd k = some N) (hs : N.2.2.2.2.1 = true) (hno : ∀ j M, j < k → nd j = some M → M.2.2.2.2.1 = false) : fw_R g m_FR_step (fs_P g (o, gr, a1, a2, a3, a4, na) w (.inl (some (.int (nI k)))) (us, n, hu, hg, va_up nd k (some (fs_st N false)))) 0 0 w 0 [(0, .ref o)] [] := by
  obtain ⟨f1, f2, f3, f4, ad, lq, ld, lc, lt, hok, h0, hG, hR, hN, hr⟩ := fs_X_el hX
  obtain ⟨hk150, a, ha, hc, hl, hE⟩ := hr.2.1 k N hk
  obtain ⟨-, hk0, how, hlen, hes, hch, hdep⟩ := hok.2.2.2.2 k N hk
  refine fr_po (Post := fw_pv (.int (nI k)) (fw_up w a (.inr (2, fs_nc k (fs_st N false) (lq k) (N.2.1.bind ad))))) (fun r u h => by obtain ⟨e1, e2⟩ := h; subst e2; exact ⟨e1, fs_X_F2 (fs_ok_up hok (N2 := fs_st N false) hk rfl how hlen hes) h0 hG hR hN (fs_F2_up fs_F2_id hc) (fs_rN_put hr (N2 := fs_st N false) hk ha rfl), fs_F2_Fr (fs_F2_up fs_F2_id hc)⟩) ?_
  refine fr_aload_n (pc := 0) d_FR_step_0 rfl rfl ?_
  refine fr_get (pc := 1) (v := .ref na) d_FR_step_1 fg_FR_18 h0 rfl ?_
  refine fr_astore_n (pc := 4) (L2 := [(0, .ref o), (1, .ref na)]) d_FR_step_4 rfl (by decide) rfl ?_
  refine fr_aload_n (pc := 5) d_FR_step_5 rfl rfl ?_
  refine fr_alen (pc := 6) (t := 3) (v := (nI 150)) d_FR_step_6 rfl hN rfl ?_
  refine fr_istore_n (pc := 7) (L2 := [(0, .ref o), (1, .ref na), (2, .int (nI 150))]) d_FR_step_7 rfl (by decide) rfl ?_
  refine fr_iconst (pc := 8) (v := 0) d_FR_step_8 (by decide) ?_
  refine fr_istore_n (pc := 9) (L2 := [(0, .ref o), (1, .ref na), (2, .int (nI 150)), (3, .int 0)]) d_FR_step_9 rfl (by decide) rfl ?_
  exact c_FR_step_y h0 hN hr hk ha hs hno k 0 (Nat.zero_add _) _ rfl

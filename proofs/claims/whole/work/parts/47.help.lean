theorem ix_le {x : Int32} {n : Nat} (hn : n < 2 ^ 31) (h : ¬ x < 0) (h2 : ¬ nI n ≤ x) : ∃ k, k < n ∧ x = nI k := by
  obtain ⟨h3, h4⟩ := ix_of h
  rw [h4] at h2
  exact ⟨_, by have := mt (ni_le hn h3).mpr h2; omega, h4⟩
theorem rf_some {r : Option Nat} {a : Nat} (h : r = some a) : va_rf r = .ref a := by rw [h]; rfl
theorem rf_none {r : Option Nat} (h : r = none) : va_rf r = .null := by rw [h]; rfl
def fs_no2 (x : Int32) (n : Nat) : Prop := ∀ k, k < n → x ≠ nI k
theorem c_FR_requireUser {g : fw_G} {w : fw_W} {o gr na us : Nat} (h0 : w o = some (.inr (0, [.ref gr, .ref na, .int (nI us)]))) {u : Nat} (hu : u < us) (hb : us < 2 ^ 31) : fw_R g m_FR_requireUser (fw_pn w) 1 6 w 0 [(0, .ref o), (1, .int (nI u))] [] := by
  refine fr_iload_n (pc := 0) d_FR_requireUser_0 rfl rfl ?_
  refine fr_if_lt (pc := 1) (tgt := 12) d_FR_requireUser_1 (by decide) (fun b1 => ?_) (fun b1 => ?_)
  · first | exact absurd b1 (ix_nn (by omega)) | exact absurd ((ni_lt (by omega) (by omega)).mpr hu) b9
  · refine fr_iload_n (pc := 4) d_FR_requireUser_4 rfl rfl ?_
    refine fr_aload_n (pc := 5) d_FR_requireUser_5 rfl rfl ?_
    refine fr_get (pc := 6) (v := .int (nI us)) d_FR_requireUser_6 fg_FR_25 h0 rfl ?_
    refine fr_icmp_lt (pc := 9) (tgt := 22) d_FR_requireUser_9 (by decide) (fun b9 => ?_) (fun b9 => ?_)
    · exact fr_vret rfl d_FR_requireUser_22 ⟨rfl, rfl⟩
    · first | exact absurd b1 (ix_nn (by omega)) | exact absurd ((ni_lt (by omega) (by omega)).mpr hu) b9
theorem x_FR_requireUser {g : fw_G} {w : fw_W} {o gr na us : Nat} (h0 : w o = some (.inr (0, [.ref gr, .ref na, .int (nI us)]))) {x : Int32} (hx : fs_no2 x us) (hb : us < 2 ^ 31) : fw_R g m_FR_requireUser (fw_px "java/util/NoSuchElementException" w) 1 6 w 0 [(0, .ref o), (1, .int x)] [] := by
  refine fr_iload_n (pc := 0) d_FR_requireUser_0 rfl rfl ?_
  refine fr_if_lt (pc := 1) (tgt := 12) d_FR_requireUser_1 (by decide) (fun b1 => ?_) (fun b1 => ?_)
  · exact fr_throwX (pc := 12) (nc := 0) (ns := 0) th_FR_248 d_FR_requireUser_12 d_FR_requireUser_15 d_FR_requireUser_16 d_FR_requireUser_18 d_FR_requireUser_21 (by decide) (by decide) (by decide) ⟨rfl, rfl⟩
  · refine fr_iload_n (pc := 4) d_FR_requireUser_4 rfl rfl ?_
    refine fr_aload_n (pc := 5) d_FR_requireUser_5 rfl rfl ?_
    refine fr_get (pc := 6) (v := .int (nI us)) d_FR_requireUser_6 fg_FR_25 h0 rfl ?_
    refine fr_icmp_lt (pc := 9) (tgt := 22) d_FR_requireUser_9 (by decide) (fun b9 => ?_) (fun b9 => ?_)
    · obtain ⟨k, hk, e⟩ := ix_lt hb b1 b9
      exact absurd e (hx k hk)
    · exact fr_throwX (pc := 12) (nc := 0) (ns := 0) th_FR_248 d_FR_requireUser_12 d_FR_requireUser_15 d_FR_requireUser_16 d_FR_requireUser_18 d_FR_requireUser_21 (by decide) (by decide) (by decide) ⟨rfl, rfl⟩
theorem c_FR_requireGroup {g : fw_G} {w : fw_W} {o gr na us : Nat} (h0 : w o = some (.inr (0, [.ref gr, .ref na, .int (nI us)]))) {n a1 a2 a3 a4 : Nat} (hG : w gr = some (.inr (1, [.int (nI n), .ref a1, .ref a2, .ref a3, .ref a4]))) {u : Nat} (hu : u < n) (hb : n < 2 ^ 31) : fw_R g m_FR_requireGroup (fw_pn w) 1 6 w 0 [(0, .ref o), (1, .int (nI u))] [] := by
  refine fr_iload_n (pc := 0) d_FR_requireGroup_0 rfl rfl ?_
  refine fr_if_lt (pc := 1) (tgt := 15) d_FR_requireGroup_1 (by decide) (fun b1 => ?_) (fun b1 => ?_)
  · first | exact absurd b1 (ix_nn (by omega)) | exact absurd ((ni_lt (by omega) (by omega)).mpr hu) b12
  · refine fr_iload_n (pc := 4) d_FR_requireGroup_4 rfl rfl ?_
    refine fr_aload_n (pc := 5) d_FR_requireGroup_5 rfl rfl ?_
    refine fr_get (pc := 6) (v := .ref gr) d_FR_requireGroup_6 fg_FR_10 h0 rfl ?_
    refine fr_get (pc := 9) (v := .int (nI n)) d_FR_requireGroup_9 fg_FR_36 hG rfl ?_
    refine fr_icmp_lt (pc := 12) (tgt := 25) d_FR_requireGroup_12 (by decide) (fun b12 => ?_) (fun b12 => ?_)
    · exact fr_vret rfl d_FR_requireGroup_25 ⟨rfl, rfl⟩
    · first | exact absurd b1 (ix_nn (by omega)) | exact absurd ((ni_lt (by omega) (by omega)).mpr hu) b12
theorem x_FR_requireGroup {g : fw_G} {w : fw_W} {o gr na us : Nat} (h0 : w o = some (.inr (0, [.ref gr, .ref na, .int (nI us)]))) {n a1 a2 a3 a4 : Nat} (hG : w gr = some (.inr (1, [.int (nI n), .ref a1, .ref a2, .ref a3, .ref a4]))) {x : Int32} (hx : fs_no2 x n) (hb : n < 2 ^ 31) : fw_R g m_FR_requireGroup (fw_px "java/util/NoSuchElementException" w) 1 6 w 0 [(0, .ref o), (1, .int x)] [] := by
  refine fr_iload_n (pc := 0) d_FR_requireGroup_0 rfl rfl ?_
  refine fr_if_lt (pc := 1) (tgt := 15) d_FR_requireGroup_1 (by decide) (fun b1 => ?_) (fun b1 => ?_)
  · exact fr_throwX (pc := 15) (nc := 0) (ns := 0) th_FR_250 d_FR_requireGroup_15 d_FR_requireGroup_18 d_FR_requireGroup_19 d_FR_requireGroup_21 d_FR_requireGroup_24 (by decide) (by decide) (by decide) ⟨rfl, rfl⟩
  · refine fr_iload_n (pc := 4) d_FR_requireGroup_4 rfl rfl ?_
    refine fr_aload_n (pc := 5) d_FR_requireGroup_5 rfl rfl ?_
    refine fr_get (pc := 6) (v := .ref gr) d_FR_requireGroup_6 fg_FR_10 h0 rfl ?_
    refine fr_get (pc := 9) (v := .int (nI n)) d_FR_requireGroup_9 fg_FR_36 hG rfl ?_
    refine fr_icmp_lt (pc := 12) (tgt := 25) d_FR_requireGroup_12 (by decide) (fun b12 => ?_) (fun b12 => ?_)
    · obtain ⟨k, hk, e⟩ := ix_lt hb b1 b12
      exact absurd e (hx k hk)
    · exact fr_throwX (pc := 15) (nc := 0) (ns := 0) th_FR_250 d_FR_requireGroup_15 d_FR_requireGroup_18 d_FR_requireGroup_19 d_FR_requireGroup_21 d_FR_requireGroup_24 (by decide) (by decide) (by decide) ⟨rfl, rfl⟩
theorem c_FR_requireUserOrGroup {g : fw_G} {w : fw_W} {o gr na us : Nat} (h0 : w o = some (.inr (0, [.ref gr, .ref na, .int (nI us)]))) {n a1 a2 a3 a4 : Nat} (hG : w gr = some (.inr (1, [.int (nI n), .ref a1, .ref a2, .ref a3, .ref a4]))) {b : Bool} {u : Nat} (hu : u < (if b then n else us)) (hb : n < 2 ^ 31) (hb2 : us < 2 ^ 31) : fw_R g m_FR_requireUserOrGroup (fw_pn w) 2 12 w 0 [(0, .ref o), (1, .int (nI u)), (2, .int (bI b))] [] := by
  cases b
  · refine fr_iload_n (pc := 0) d_FR_requireUserOrGroup_0 rfl rfl ?_
    refine fr_if_eq (pc := 1) (tgt := 12) d_FR_requireUserOrGroup_1 (by decide) (fun q => ?_) (fun q => ?_)
    · refine fr_aload_n (pc := 12) d_FR_requireUserOrGroup_12 rfl rfl ?_
      refine fr_iload_n (pc := 13) d_FR_requireUserOrGroup_13 rfl rfl ?_
      refine fr_callv_n (pc := 14) (nc := 1) (ns := 6) (N := m_FR_requireUser) (rest := []) (as := [.int (nI u)]) d_FR_requireUserOrGroup_14 vc_FR_67 ⟨by decide, by decide, Nat.le_of_ble_eq_true rfl⟩ (Nat.le_of_ble_eq_true rfl) h0 (c_FR_requireUser h0 hu hb2) rfl ?_
      exact fr_vret rfl d_FR_requireUserOrGroup_17 ⟨rfl, rfl⟩
    · exact absurd rfl q
  · refine fr_iload_n (pc := 0) d_FR_requireUserOrGroup_0 rfl rfl ?_
    refine fr_if_eq (pc := 1) (tgt := 12) d_FR_requireUserOrGroup_1 (by decide) (fun q => ?_) (fun q => ?_)
    · exact absurd q (by decide)
    · refine fr_aload_n (pc := 4) d_FR_requireUserOrGroup_4 rfl rfl ?_
      refine fr_iload_n (pc := 5) d_FR_requireUserOrGroup_5 rfl rfl ?_
      refine fr_callv_n (pc := 6) (nc := 1) (ns := 6) (N := m_FR_requireGroup) (rest := []) (as := [.int (nI u)]) d_FR_requireUserOrGroup_6 vc_FR_41 ⟨by decide, by decide, Nat.le_of_ble_eq_true rfl⟩ (Nat.le_of_ble_eq_true rfl) h0 (c_FR_requireGroup h0 hG hu hb) rfl ?_
      refine fr_goto (pc := 9) (tgt := 17) d_FR_requireUserOrGroup_9 (by decide) ?_
      exact fr_vret rfl d_FR_requireUserOrGroup_17 ⟨rfl, rfl⟩
theorem x_FR_requireUserOrGroup {g : fw_G} {w : fw_W} {o gr na us : Nat} (h0 : w o = some (.inr (0, [.ref gr, .ref na, .int (nI us)]))) {n a1 a2 a3 a4 : Nat} (hG : w gr = some (.inr (1, [.int (nI n), .ref a1, .ref a2, .ref a3, .ref a4]))) {b : Bool} {x : Int32} (hu : fs_no2 x (if b then n else us)) (hb : n < 2 ^ 31) (hb2 : us < 2 ^ 31) : fw_R g m_FR_requireUserOrGroup (fw_px "java/util/NoSuchElementException" w) 2 12 w 0 [(0, .ref o), (1, .int x), (2, .int (bI b))] [] := by
  cases b
  · refine fr_iload_n (pc := 0) d_FR_requireUserOrGroup_0 rfl rfl ?_
    refine fr_if_eq (pc := 1) (tgt := 12) d_FR_requireUserOrGroup_1 (by decide) (fun q => ?_) (fun q => ?_)
    · refine fr_aload_n (pc := 12) d_FR_requireUserOrGroup_12 rfl rfl ?_
      refine fr_iload_n (pc := 13) d_FR_requireUserOrGroup_13 rfl rfl ?_
      refine fr_callv_x (pc := 14) (nc := 1) (ns := 6) (N := m_FR_requireUser) (rest := []) (as := [.int x]) d_FR_requireUserOrGroup_14 vc_FR_67 ⟨by decide, by decide, Nat.le_of_ble_eq_true rfl⟩ (Nat.le_of_ble_eq_true rfl) h0 (x_FR_requireUser h0 hu hb2) rfl ?_
      exact fx_out (by decide) ⟨rfl, rfl⟩
    · exact absurd rfl q
  · refine fr_iload_n (pc := 0) d_FR_requireUserOrGroup_0 rfl rfl ?_
    refine fr_if_eq (pc := 1) (tgt := 12) d_FR_requireUserOrGroup_1 (by decide) (fun q => ?_) (fun q => ?_)
    · exact absurd q (by decide)
    · refine fr_aload_n (pc := 4) d_FR_requireUserOrGroup_4 rfl rfl ?_
      refine fr_iload_n (pc := 5) d_FR_requireUserOrGroup_5 rfl rfl ?_
      refine fr_callv_x (pc := 6) (nc := 1) (ns := 6) (N := m_FR_requireGroup) (rest := []) (as := [.int x]) d_FR_requireUserOrGroup_6 vc_FR_41 ⟨by decide, by decide, Nat.le_of_ble_eq_true rfl⟩ (Nat.le_of_ble_eq_true rfl) h0 (x_FR_requireGroup h0 hG hu hb) rfl ?_
      exact fx_out (by decide) ⟨rfl, rfl⟩
theorem c_FR_nodeAt {g : fw_G} {w : fw_W} {o gr na us : Nat} (h0 : w o = some (.inr (0, [.ref gr, .ref na, .int (nI us)]))) {ad : Nat → Option Nat} (hN : w na = some (fs_no g ad)) {k a : Nat} (hk : k < 150) (ha : ad k = some a) : fw_R g m_FR_nodeAt (fw_pv (.ref a) w) 1 6 w 0 [(0, .ref o), (1, .int (nI k))] [] := by
  refine fr_iload_n (pc := 0) d_FR_nodeAt_0 rfl rfl ?_
  refine fr_if_lt (pc := 1) (tgt := 20) d_FR_nodeAt_1 (by decide) (fun b1 => ?_) (fun b1 => ?_)
  · first | exact absurd b1 (ix_nn (by omega)) | exact absurd ((ni_le (by omega) (by omega)).mp (show nI 150 ≤ nI k from b8)) (by omega)
  · refine fr_iload_n (pc := 4) d_FR_nodeAt_4 rfl rfl ?_
    refine fr_sipush (pc := 5) (v := 150) d_FR_nodeAt_5 (by decide) ?_
    refine fr_icmp_ge (pc := 8) (tgt := 20) d_FR_nodeAt_8 (by decide) (fun b8 => ?_) (fun b8 => ?_)
    · first | exact absurd b1 (ix_nn (by omega)) | exact absurd ((ni_le (by omega) (by omega)).mp (show nI 150 ≤ nI k from b8)) (by omega)
    · refine fr_aload_n (pc := 11) d_FR_nodeAt_11 rfl rfl ?_
      refine fr_get (pc := 12) (v := .ref na) d_FR_nodeAt_12 fg_FR_18 h0 rfl ?_
      refine fr_iload_n (pc := 15) d_FR_nodeAt_15 rfl rfl ?_
      refine fr_aaldN (pc := 16) (t := 3) (n := 150) (k := k) (C := "FolderRights$Node") (f := ad) d_FR_nodeAt_16 rfl hN hk (by omega) ?_
      refine fr_st (st2 := [.ref a]) (by rw [rf_some ha]) ?_
      refine fr_ifnonnull (pc := 17) (tgt := 30) d_FR_nodeAt_17 (by decide) ?_
      refine fr_aload_n (pc := 30) d_FR_nodeAt_30 rfl rfl ?_
      refine fr_get (pc := 31) (v := .ref na) d_FR_nodeAt_31 fg_FR_18 h0 rfl ?_
      refine fr_iload_n (pc := 34) d_FR_nodeAt_34 rfl rfl ?_
      refine fr_aaldN (pc := 35) (t := 3) (n := 150) (k := k) (C := "FolderRights$Node") (f := ad) d_FR_nodeAt_35 rfl hN hk (by omega) ?_
      refine fr_st (st2 := [.ref a]) (by rw [rf_some ha]) ?_
      exact fr_aret rfl (by first | exact Or.inl ⟨_, rfl⟩ | exact Or.inr ⟨_, rfl⟩) (by first | exact Or.inl rfl | exact Or.inr ⟨_, rfl⟩) d_FR_nodeAt_36 ⟨rfl, rfl⟩
theorem x_FR_nodeAt {g : fw_G} {w : fw_W} {o gr na us : Nat} (h0 : w o = some (.inr (0, [.ref gr, .ref na, .int (nI us)]))) {ad : Nat → Option Nat} (hN : w na = some (fs_no g ad)) {x : Int32} (hx : ∀ k, k < 150 → x = nI k → ad k = none) : fw_R g m_FR_nodeAt (fw_px "java/util/NoSuchElementException" w) 1 6 w 0 [(0, .ref o), (1, .int x)] [] := by
  refine fr_iload_n (pc := 0) d_FR_nodeAt_0 rfl rfl ?_
  refine fr_if_lt (pc := 1) (tgt := 20) d_FR_nodeAt_1 (by decide) (fun b1 => ?_) (fun b1 => ?_)
  · exact fr_throwX (pc := 20) (nc := 0) (ns := 0) th_FR_246 d_FR_nodeAt_20 d_FR_nodeAt_23 d_FR_nodeAt_24 d_FR_nodeAt_26 d_FR_nodeAt_29 (by decide) (by decide) (by decide) ⟨rfl, rfl⟩
  · refine fr_iload_n (pc := 4) d_FR_nodeAt_4 rfl rfl ?_
    refine fr_sipush (pc := 5) (v := 150) d_FR_nodeAt_5 (by decide) ?_
    refine fr_icmp_ge (pc := 8) (tgt := 20) d_FR_nodeAt_8 (by decide) (fun b8 => ?_) (fun b8 => ?_)
    · exact fr_throwX (pc := 20) (nc := 0) (ns := 0) th_FR_246 d_FR_nodeAt_20 d_FR_nodeAt_23 d_FR_nodeAt_24 d_FR_nodeAt_26 d_FR_nodeAt_29 (by decide) (by decide) (by decide) ⟨rfl, rfl⟩
    · refine fr_aload_n (pc := 11) d_FR_nodeAt_11 rfl rfl ?_
      refine fr_get (pc := 12) (v := .ref na) d_FR_nodeAt_12 fg_FR_18 h0 rfl ?_
      refine fr_iload_n (pc := 15) d_FR_nodeAt_15 rfl rfl ?_
      obtain ⟨k, hk, rfl⟩ := ix_le (n := 150) (by omega) b1 b8
      refine fr_aaldN (pc := 16) (t := 3) (n := 150) (k := k) (C := "FolderRights$Node") (f := ad) d_FR_nodeAt_16 rfl hN hk (by omega) ?_
      refine fr_st (st2 := [.null]) (by rw [rf_none (hx k hk rfl)]) ?_
      refine fr_ifnonnullN (pc := 17) d_FR_nodeAt_17 ?_
      exact fr_throwX (pc := 20) (nc := 0) (ns := 0) th_FR_246 d_FR_nodeAt_20 d_FR_nodeAt_23 d_FR_nodeAt_24 d_FR_nodeAt_26 d_FR_nodeAt_29 (by decide) (by decide) (by decide) ⟨rfl, rfl⟩
theorem c_FR_requireFolder {g : fw_G} {w : fw_W} {a : Nat} {fs : List Value} (h : w a = some (.inr (2, fs))) (h1 : fs[1]? = some (.int (bI true))) : fw_R g m_FR_requireFolder (fw_pn w) 1 6 w 0 [(0, .ref a)] [] := by
  refine fr_aload_n (pc := 0) d_FR_requireFolder_0 rfl rfl ?_
  refine fr_get (pc := 1) (v := .int (bI true)) d_FR_requireFolder_1 fg_FR_200 h h1 ?_
  refine fr_if_ne (pc := 4) (tgt := 17) d_FR_requireFolder_4 (by decide) (fun b4 => ?_) (fun b4 => ?_)
  · exact fr_vret rfl d_FR_requireFolder_17 ⟨rfl, rfl⟩
  · exact absurd b4 (by decide)
theorem x_FR_requireFolder {g : fw_G} {w : fw_W} {a : Nat} {fs : List Value} (h : w a = some (.inr (2, fs))) (h1 : fs[1]? = some (.int (bI false))) : fw_R g m_FR_requireFolder (fw_px "java/lang/IllegalArgumentException" w) 1 6 w 0 [(0, .ref a)] [] := by
  refine fr_aload_n (pc := 0) d_FR_requireFolder_0 rfl rfl ?_
  refine fr_get (pc := 1) (v := .int (bI false)) d_FR_requireFolder_1 fg_FR_200 h h1 ?_
  refine fr_if_ne (pc := 4) (tgt := 17) d_FR_requireFolder_4 (by decide) (fun b4 => ?_) (fun b4 => ?_)
  · exact absurd rfl b4
  · exact fr_throw (pc := 7) (nc := 0) (ns := 0) th_FR_252 d_FR_requireFolder_7 d_FR_requireFolder_10 d_FR_requireFolder_11 d_FR_requireFolder_13 d_FR_requireFolder_16 (by decide) (by decide) (by decide) ⟨rfl, rfl⟩
theorem c_FR_requireNotRoot {g : fw_G} {w : fw_W} {a p : Nat} {fs : List Value} (h : w a = some (.inr (2, fs))) (h1 : fs[3]? = some (.ref p)) : fw_R g m_FR_requireNotRoot (fw_pn w) 1 6 w 0 [(0, .ref a)] [] := by
  refine fr_aload_n (pc := 0) d_FR_requireNotRoot_0 rfl rfl ?_
  refine fr_get (pc := 1) (v := .ref p) d_FR_requireNotRoot_1 fg_FR_103 h h1 ?_
  refine fr_ifnonnull (pc := 4) (tgt := 17) d_FR_requireNotRoot_4 (by decide) ?_
  exact fr_vret rfl d_FR_requireNotRoot_17 ⟨rfl, rfl⟩
theorem x_FR_requireNotRoot {g : fw_G} {w : fw_W} {a p : Nat} {fs : List Value} (h : w a = some (.inr (2, fs))) (h1 : fs[3]? = some (.null)) : fw_R g m_FR_requireNotRoot (fw_px "java/lang/IllegalArgumentException" w) 1 6 w 0 [(0, .ref a)] [] := by
  refine fr_aload_n (pc := 0) d_FR_requireNotRoot_0 rfl rfl ?_
  refine fr_get (pc := 1) (v := .null) d_FR_requireNotRoot_1 fg_FR_103 h h1 ?_
  refine fr_ifnonnullN (pc := 4) d_FR_requireNotRoot_4 ?_
  exact fr_throw (pc := 7) (nc := 0) (ns := 0) th_FR_254 d_FR_requireNotRoot_7 d_FR_requireNotRoot_10 d_FR_requireNotRoot_11 d_FR_requireNotRoot_13 d_FR_requireNotRoot_16 (by decide) (by decide) (by decide) ⟨rfl, rfl⟩
theorem c_FR_requireRight {g : fw_G} {w : fw_W} {r : Nat} (hr : r < 8) : fw_R g m_FR_requireRight (fw_pn w) 1 6 w 0 [(0, .int (nI r))] [] := by
  refine fr_iload_n (pc := 0) d_FR_requireRight_0 rfl rfl ?_
  refine fr_if_lt (pc := 1) (tgt := 10) d_FR_requireRight_1 (by decide) (fun b1 => ?_) (fun b1 => ?_)
  · first | exact absurd b1 (ix_nn (by omega)) | exact absurd ((ni_lt (by omega) (by omega)).mpr hr) b7
  · refine fr_iload_n (pc := 4) d_FR_requireRight_4 rfl rfl ?_
    refine fr_bipush (pc := 5) (v := 8) d_FR_requireRight_5 (by decide) ?_
    refine fr_icmp_lt (pc := 7) (tgt := 21) d_FR_requireRight_7 (by decide) (fun b7 => ?_) (fun b7 => ?_)
    · exact fr_vret rfl d_FR_requireRight_21 ⟨rfl, rfl⟩
    · first | exact absurd b1 (ix_nn (by omega)) | exact absurd ((ni_lt (by omega) (by omega)).mpr hr) b7
theorem x_FR_requireRight {g : fw_G} {w : fw_W} {x : Int32} (hx : fs_no2 x 8) : fw_R g m_FR_requireRight (fw_px "java/lang/IllegalArgumentException" w) 1 6 w 0 [(0, .int x)] [] := by
  refine fr_iload_n (pc := 0) d_FR_requireRight_0 rfl rfl ?_
  refine fr_if_lt (pc := 1) (tgt := 10) d_FR_requireRight_1 (by decide) (fun b1 => ?_) (fun b1 => ?_)
  · exact fr_throwW (pc := 10) (nc := 0) (ns := 0) th_FR_256 d_FR_requireRight_10 d_FR_requireRight_13 d_FR_requireRight_14 d_FR_requireRight_17 d_FR_requireRight_20 (by decide) (by decide) (by decide) ⟨rfl, rfl⟩
  · refine fr_iload_n (pc := 4) d_FR_requireRight_4 rfl rfl ?_
    refine fr_bipush (pc := 5) (v := 8) d_FR_requireRight_5 (by decide) ?_
    refine fr_icmp_lt (pc := 7) (tgt := 21) d_FR_requireRight_7 (by decide) (fun b7 => ?_) (fun b7 => ?_)
    · obtain ⟨k, hk, e⟩ := ix_lt (n := 8) (by omega) b1 b7
      exact absurd e (hx k hk)
    · exact fr_throwW (pc := 10) (nc := 0) (ns := 0) th_FR_256 d_FR_requireRight_10 d_FR_requireRight_13 d_FR_requireRight_14 d_FR_requireRight_17 d_FR_requireRight_20 (by decide) (by decide) (by decide) ⟨rfl, rfl⟩
theorem c_FR_requirePlace {g : fw_G} {w : fw_W} {x : Int32} (hx : ¬ x < 0) : fw_R g m_FR_requirePlace (fw_pn w) 1 6 w 0 [(0, .int x)] [] := by
  refine fr_iload_n (pc := 0) d_FR_requirePlace_0 rfl rfl ?_
  refine fr_if_ge (pc := 1) (tgt := 15) d_FR_requirePlace_1 (by decide) (fun b1 => ?_) (fun b1 => ?_)
  · exact fr_vret rfl d_FR_requirePlace_15 ⟨rfl, rfl⟩
  · exact absurd (Int32.not_lt.mp hx) b1
theorem x_FR_requirePlace {g : fw_G} {w : fw_W} {x : Int32} (hx : x < 0) : fw_R g m_FR_requirePlace (fw_px "java/lang/IllegalArgumentException" w) 1 6 w 0 [(0, .int x)] [] := by
  refine fr_iload_n (pc := 0) d_FR_requirePlace_0 rfl rfl ?_
  refine fr_if_ge (pc := 1) (tgt := 15) d_FR_requirePlace_1 (by decide) (fun b1 => ?_) (fun b1 => ?_)
  · exact absurd hx (Int32.not_lt.mpr b1)
  · exact fr_throwW (pc := 4) (nc := 0) (ns := 0) th_FR_258 d_FR_requirePlace_4 d_FR_requirePlace_7 d_FR_requirePlace_8 d_FR_requirePlace_11 d_FR_requirePlace_14 (by decide) (by decide) (by decide) ⟨rfl, rfl⟩
def fs_fr (ad : Nat → Option Nat) : Nat → Nat → Option Nat
  | 0, _ => none
  | m + 1, k => if ad k = none then some k else fs_fr ad m (k + 1)
def fs_ov (r : Option Nat) : Int32 := match r with
  | some k => nI k
  | none => -1
theorem c_FR_free_l {g : fw_G} {nc ns : Nat} {w : fw_W} {o gr na us : Nat} (h0 : w o = some (.inr (0, [.ref gr, .ref na, .int (nI us)]))) {ad : Nat → Option Nat} (hN : w na = some (fs_no g ad)) : ∀ m k, k + m = 150 → fw_R g m_FR_freeNumber (fw_pv (.int (fs_ov (fs_fr ad m k))) w) nc ns w 2 [(0, .ref o), (1, .int (nI k))] [] := by
  intro m
  induction m with
  | zero =>
    intro k hk
    have hk2 : k = 150 := by omega
    subst hk2
    refine fr_iload_n (pc := 2) d_FR_freeNumber_2 rfl rfl ?_
    refine fr_sipush (pc := 3) (v := 150) d_FR_freeNumber_3 (by decide) ?_
    refine fr_icmp_ge (pc := 6) (tgt := 26) d_FR_freeNumber_6 (by decide) (fun q => ?_) (fun q => ?_)
    · refine fr_iconst (pc := 26) (v := -1) d_FR_freeNumber_26 (by decide) ?_
      exact fr_iret rfl d_FR_freeNumber_27 ⟨rfl, rfl⟩
    · exact absurd ((ni_le (a := 150) (b := 150) (by omega) (by omega)).mpr (by omega)) q
  | succ m ih =>
    intro k hk
    refine fr_iload_n (pc := 2) d_FR_freeNumber_2 rfl rfl ?_
    refine fr_sipush (pc := 3) (v := 150) d_FR_freeNumber_3 (by decide) ?_
    refine fr_icmp_ge (pc := 6) (tgt := 26) d_FR_freeNumber_6 (by decide) (fun q => ?_) (fun q => ?_)
    · exact absurd ((ni_le (a := 150) (by omega) (by omega)).mp q) (by omega)
    · refine fr_aload_n (pc := 9) d_FR_freeNumber_9 rfl rfl ?_
      refine fr_get (pc := 10) (v := .ref na) d_FR_freeNumber_10 fg_FR_18 h0 rfl ?_
      refine fr_iload_n (pc := 13) d_FR_freeNumber_13 rfl rfl ?_
      refine fr_aaldN (pc := 14) (t := 3) (n := 150) (k := k) (C := "FolderRights$Node") (f := ad) d_FR_freeNumber_14 rfl hN (by omega) (by omega) ?_
      by_cases hA : ad k = none
      · refine fr_st (st2 := [.null]) (by rw [rf_none hA]) ?_
        refine fr_ifnonnullN (pc := 15) d_FR_freeNumber_15 ?_
        refine fr_iload_n (pc := 18) d_FR_freeNumber_18 rfl rfl ?_
        refine fr_st (st2 := [.int (fs_ov (fs_fr ad (m + 1) k))]) (by simp [fs_fr, hA, fs_ov]) ?_
        exact fr_iret rfl d_FR_freeNumber_19 ⟨rfl, rfl⟩
      · obtain ⟨a, ha⟩ := Option.ne_none_iff_exists'.mp hA
        refine fr_st (st2 := [.ref a]) (by rw [rf_some ha]) ?_
        refine fr_ifnonnull (pc := 15) (tgt := 20) d_FR_freeNumber_15 (by decide) ?_
        refine fr_iinc (pc := 20) (v := (nI (k + 1))) (L2 := [(0, .ref o), (1, .int (nI (k + 1)))]) d_FR_freeNumber_20 rfl (fi_1 _) (by decide) rfl ?_
        refine fr_goto (pc := 23) (tgt := 2) d_FR_freeNumber_23 (by decide) ?_
        have e : fs_fr ad (m + 1) k = fs_fr ad m (k + 1) := by simp [fs_fr, hA]
        rw [e]
        exact ih (k + 1) (by omega)
theorem c_FR_free {g : fw_G} {nc ns : Nat} {w : fw_W} {o gr na us : Nat} (h0 : w o = some (.inr (0, [.ref gr, .ref na, .int (nI us)]))) {ad : Nat → Option Nat} (hN : w na = some (fs_no g ad)) : fw_R g m_FR_freeNumber (fw_pv (.int (fs_ov (fs_fr ad 150 0))) w) nc ns w 0 [(0, .ref o)] [] := by
  refine fr_iconst (pc := 0) (v := 0) d_FR_freeNumber_0 (by decide) ?_
  refine fr_istore_n (pc := 1) (L2 := [(0, .ref o), (1, .int 0)]) d_FR_freeNumber_1 rfl (by decide) rfl ?_
  exact c_FR_free_l h0 hN 150 0 rfl

theorem fm_c_2 {us n : Nat} {hu hg : Nat → Nat → Bool} {nd : fs_D} {F : fm_F} {f : Nat → Int32} (hc : fm_c us n hu hg nd F) (hf : ∀ j, f j = 0 ∨ f j = 1) : fm_c us n hu hg nd (fm_s F 2 f) := by
  obtain ⟨e0, e1, e3, e4, e7, eN, eE, eB⟩ := hc
  refine ⟨fun i u h1 h2 => by rw [fm_s_ne (by decide)]; exact e0 i u h1 h2, fun i u h1 h2 => by rw [fm_s_ne (by decide)]; exact e1 i u h1 h2, fun i u h1 h2 => by rw [fm_s_ne (by decide)]; exact e3 i u h1 h2, fun j hj => by rw [fm_s_ne (by decide)]; exact e4 j hj, fun j hj => by rw [fm_s_ne (by decide)]; exact e7 j hj, fun j M hj => ?_, fun j M i E hj hE => ?_, fun j i hj => ?_⟩
  · rw [fm_s_ne (by decide), fm_s_ne (by decide), fm_s_ne (by decide), fm_s_ne (by decide), fm_s_ne (by decide)]
    exact eN j M hj
  · rw [fm_s_ne (by decide), fm_s_ne (by decide), fm_s_ne (by decide), fm_s_ne (by decide), fm_s_ne (by decide)]
    exact eE j M i E hj hE
  · by_cases e : j = 2
    · subst e; rw [fm_s_self]; exact hf i
    · rw [fm_s_ne e]; exact eB j i hj
theorem fm_c_set {us n : Nat} {hu hg hu2 hg2 : Nat → Nat → Bool} {nd : fs_D} {F F1 : fm_F} {f h : Nat → Int32} (hc : fm_c us n hu hg nd F) (hs : ∀ j, 4 ≤ j → F1 j = F j) (h0 : ∀ i u, i < 24 → u < 60 → F1 0 (60 * i + u) = bI (hu2 i u)) (h1 : ∀ i j, i < 24 → j < 24 → F1 1 (24 * i + j) = bI (hg2 i j)) (hB0 : ∀ i, F1 0 i = 0 ∨ F1 0 i = 1) (hB1 : ∀ i, F1 1 i = 0 ∨ F1 1 i = 1)
    (hf : ∀ j, f j = 0 ∨ f j = 1) (hh : ∀ j, h j = 0 ∨ h j = 1) (h3 : ∀ x y, x < 24 → y < 60 → h (60 * x + y) = bI (fs_in hu2 hg2 x y)) : fm_c us n hu2 hg2 nd (fm_s (fm_s F1 2 f) 3 h) := by
  obtain ⟨e0, e1, e3, e4, e7, eN, eE, eB⟩ := hc
  have hne : ∀ j, 4 ≤ j → fm_s (fm_s F1 2 f) 3 h j = F j := fun j hj => by rw [fm_s_ne (by omega), fm_s_ne (by omega)]; exact hs j hj
  refine ⟨fun i u q1 q2 => by rw [fm_s_ne (by decide), fm_s_ne (by decide)]; exact h0 i u q1 q2, fun i u q1 q2 => by rw [fm_s_ne (by decide), fm_s_ne (by decide)]; exact h1 i u q1 q2, fun i u q1 q2 => by rw [fm_s_self]; exact h3 i u q1 q2, fun j hj => by rw [hne 4 (by omega)]; exact e4 j hj, fun j hj => by rw [hne 7 (by omega)]; exact e7 j hj, fun j M hj => ?_, fun j M i E hj hE => ?_, fun j i hj => ?_⟩
  · rw [hne 5 (by omega), hne 6 (by omega), hne 8 (by omega), hne 9 (by omega), hne 10 (by omega)]
    exact eN j M hj
  · rw [hne 11 (by omega), hne 12 (by omega), hne 13 (by omega), hne 14 (by omega), hne 15 (by omega)]
    exact eE j M i E hj hE
  · by_cases q : 4 ≤ j
    · rw [hne j q]; exact eB j i hj
    · have q2 : j = 0 ∨ j = 1 ∨ j = 2 ∨ j = 3 := by omega
      rcases q2 with rfl | rfl | rfl | rfl
      · rw [fm_s_ne (by decide), fm_s_ne (by decide)]; exact hB0 i
      · rw [fm_s_ne (by decide), fm_s_ne (by decide)]; exact hB1 i
      · rw [fm_s_ne (by decide), fm_s_self]; exact hf i
      · rw [fm_s_self]; exact hh i
theorem fm_tab60 {G : Nat → Int32} {t t2 : Nat → Nat → Bool} {i j : Nat} {v : Int32} (h : ∀ x y, x < 24 → y < 60 → G (60 * x + y) = bI (t x y)) (hj : j < 60) (hv : v = bI (t2 i j)) (ht : ∀ x y, ¬ (x = i ∧ y = j) → t2 x y = t x y) : ∀ x y, x < 24 → y < 60 → (if 60 * x + y = 60 * i + j then v else G (60 * x + y)) = bI (t2 x y) := by
  intro x y hx hy
  by_cases e : x = i ∧ y = j
  · obtain ⟨rfl, rfl⟩ := e; rw [if_pos rfl, hv]
  · rw [if_neg (by omega), h x y hx hy, ht x y e]
theorem fm_tab24 {G : Nat → Int32} {t t2 : Nat → Nat → Bool} {i j : Nat} {v : Int32} (h : ∀ x y, x < 24 → y < 24 → G (24 * x + y) = bI (t x y)) (hj : j < 24) (hv : v = bI (t2 i j)) (ht : ∀ x y, ¬ (x = i ∧ y = j) → t2 x y = t x y) : ∀ x y, x < 24 → y < 24 → (if 24 * x + y = 24 * i + j then v else G (24 * x + y)) = bI (t2 x y) := by
  intro x y hx hy
  by_cases e : x = i ∧ y = j
  · obtain ⟨rfl, rfl⟩ := e; rw [if_pos rfl, hv]
  · rw [if_neg (by omega), h x y hx hy, ht x y e]
theorem tg_ne {h : Nat → Nat → Bool} {i j x y : Nat} (e : ¬ (x = i ∧ y = j)) : gr_tg h i j x y = h x y := by unfold gr_tg; rw [if_neg e]
theorem tg_at {h : Nat → Nat → Bool} {i j : Nat} : gr_tg h i j i j = !h i j := by unfold gr_tg; rw [if_pos ⟨rfl, rfl⟩]
theorem tg_b {h : Nat → Nat → Bool} {i j a b : Nat} (hb : ∀ x y, h x y = true → x < a ∧ y < b) (hi : i < a) (hj : j < b) (x y : Nat) (hx : gr_tg h i j x y = true) : x < a ∧ y < b := by
  by_cases e : x = i ∧ y = j
  · obtain ⟨rfl, rfl⟩ := e; exact ⟨hi, hj⟩
  · rw [tg_ne e] at hx; exact hb x y hx
theorem p_MO_join_n1 {g : fw_G} {nc ns : Nat} {w0 : fw_W} {mo : Nat} {ar : Nat → Nat} (hA : fm_ad mo ar) {th so pl po : Int32} {us n : Nat} {F : fm_F} {hu hg : Nat → Nat → Bool} {nd : fs_D} (hc : fm_c us n hu hg nd F) (hs : fm_S us n hu hg nd) {x y : Int32} {b : Bool} (hx : fs_no2 x n) : fw_R g m_MO_join (fm_P g w0 mo ar (.int 0) 1 (us, n, hu, hg, nd)) nc ns (fm_W g w0 mo ar (th, us, n, so, pl, po) F) 0 [(0, .ref mo), (1, .int x), (2, .int y), (3, .int (bI b))] [] := by
  obtain ⟨hok, hub, hgb⟩ := id hs
  have hus := hok.2.1
  have hn := hok.2.2.1
  refine fr_aload_n (pc := 0) d_MO_join_0 rfl rfl ?_
  refine fr_iload_n (pc := 1) d_MO_join_1 rfl rfl ?_
  refine fr_callv_p (pc := 2) (nc := nc) (ns := ns) (N := m_MO_isGroup) (rest := []) (as := [.int x]) d_MO_join_2 vc_MO_73 ⟨by decide, by decide, Nat.le_of_ble_eq_true rfl⟩ (Nat.le_of_ble_eq_true rfl) fm_mo (c_MO_isGroup_n hA hx (by omega)) rfl ?_
  refine fr_if_eq (pc := 5) (tgt := 21) d_MO_join_5 (by decide) (fun _ => ?_) (fun q => absurd q (by decide))
  refine fr_iconst (pc := 21) (v := 0) d_MO_join_21 (by decide) ?_
  refine fr_istore (pc := 22) (L2 := [(0, .ref mo), (1, .int x), (2, .int y), (3, .int (bI b)), (4, .int 0)]) d_MO_join_22 (by decide) rfl ?_
  refine fr_iconst (pc := 24) (v := 0) d_MO_join_24 (by decide) ?_
  refine fr_istore (pc := 25) (L2 := [(0, .ref mo), (1, .int x), (2, .int y), (3, .int (bI b)), (4, .int 0), (5, .int 0)]) d_MO_join_25 (by decide) rfl ?_
  refine fr_iload (pc := 27) d_MO_join_27 rfl ?_
  refine fr_if_eq (pc := 29) (tgt := 49) d_MO_join_29 (by decide) (fun _ => ?_) (fun q => absurd q (by decide))
  refine fr_aload_n (pc := 49) d_MO_join_49 rfl rfl ?_
  refine fr_iload (pc := 50) d_MO_join_50 rfl ?_
  refine fr_iload (pc := 52) d_MO_join_52 rfl ?_
  refine fr_if_ne (pc := 54) (tgt := 61) d_MO_join_54 (by decide) (fun q => absurd q (by decide)) (fun _ => ?_)
  refine fr_iconst (pc := 57) (v := 1) d_MO_join_57 (by decide) ?_
  refine fr_goto (pc := 58) (tgt := 62) d_MO_join_58 (by decide) ?_
  refine fr_iconst (pc := 62) (v := 1) d_MO_join_62 (by decide) ?_
  refine fr_callv_p (pc := 63) (nc := nc) (ns := ns) (N := m_MO_goes) (rest := []) (as := [.int 0, .int 1, .int 1]) d_MO_join_63 vc_MO_69 ⟨by decide, by decide, Nat.le_of_ble_eq_true rfl⟩ (Nat.le_of_ble_eq_true rfl) fm_mo (c_MO_goes1 hA) rfl ?_
  refine fr_if_ne (pc := 66) (tgt := 71) d_MO_join_66 (by decide) (fun q => absurd q (by decide)) (fun _ => ?_)
  refine fr_iconst (pc := 69) (v := 0) d_MO_join_69 (by decide) ?_
  exact fr_zret rfl (by first | exact bI_01 _ | exact Or.inl rfl | exact Or.inr rfl) d_MO_join_70 ⟨rfl, _, _, _, _, rfl, hc⟩
theorem p_MO_join_n2 {g : fw_G} {nc ns : Nat} {w0 : fw_W} {mo : Nat} {ar : Nat → Nat} (hA : fm_ad mo ar) {th so pl po : Int32} {us n : Nat} {F : fm_F} {hu hg : Nat → Nat → Bool} {nd : fs_D} (hc : fm_c us n hu hg nd F) (hs : fm_S us n hu hg nd) {i : Nat} {y : Int32} {b : Bool} (hi : i < n) (hy : fs_no2 y (if b then n else us)) : fw_R g m_MO_join (fm_P g w0 mo ar (.int 0) 1 (us, n, hu, hg, nd)) nc ns (fm_W g w0 mo ar (th, us, n, so, pl, po) F) 0 [(0, .ref mo), (1, .int (nI i)), (2, .int y), (3, .int (bI b))] [] := by
  obtain ⟨hok, hub, hgb⟩ := id hs
  have hus := hok.2.1
  have hn := hok.2.2.1
  refine fr_aload_n (pc := 0) d_MO_join_0 rfl rfl ?_
  refine fr_iload_n (pc := 1) d_MO_join_1 rfl rfl ?_
  refine fr_callv_p (pc := 2) (nc := nc) (ns := ns) (N := m_MO_isGroup) (rest := []) (as := [.int (nI i)]) d_MO_join_2 vc_MO_73 ⟨by decide, by decide, Nat.le_of_ble_eq_true rfl⟩ (Nat.le_of_ble_eq_true rfl) fm_mo (c_MO_isGroup_y hA hi (by omega)) rfl ?_
  refine fr_if_eq (pc := 5) (tgt := 21) d_MO_join_5 (by decide) (fun q => absurd q (by decide)) (fun _ => ?_)
  refine fr_aload_n (pc := 8) d_MO_join_8 rfl rfl ?_
  refine fr_iload_n (pc := 9) d_MO_join_9 rfl rfl ?_
  refine fr_iload_n (pc := 10) d_MO_join_10 rfl rfl ?_
  refine fr_callv_p (pc := 11) (nc := nc) (ns := ns) (N := m_MO_isMember) (rest := []) (as := [.int y, .int (bI b)]) d_MO_join_11 vc_MO_80 ⟨by decide, by decide, Nat.le_of_ble_eq_true rfl⟩ (Nat.le_of_ble_eq_true rfl) fm_mo (c_MO_isMember_n hA hy (by omega) (by omega)) rfl ?_
  refine fr_if_eq (pc := 14) (tgt := 21) d_MO_join_14 (by decide) (fun _ => ?_) (fun q => absurd q (by decide))
  refine fr_iconst (pc := 21) (v := 0) d_MO_join_21 (by decide) ?_
  refine fr_istore (pc := 22) (L2 := [(0, .ref mo), (1, .int (nI i)), (2, .int y), (3, .int (bI b)), (4, .int 0)]) d_MO_join_22 (by decide) rfl ?_
  refine fr_iconst (pc := 24) (v := 0) d_MO_join_24 (by decide) ?_
  refine fr_istore (pc := 25) (L2 := [(0, .ref mo), (1, .int (nI i)), (2, .int y), (3, .int (bI b)), (4, .int 0), (5, .int 0)]) d_MO_join_25 (by decide) rfl ?_
  refine fr_iload (pc := 27) d_MO_join_27 rfl ?_
  refine fr_if_eq (pc := 29) (tgt := 49) d_MO_join_29 (by decide) (fun _ => ?_) (fun q => absurd q (by decide))
  refine fr_aload_n (pc := 49) d_MO_join_49 rfl rfl ?_
  refine fr_iload (pc := 50) d_MO_join_50 rfl ?_
  refine fr_iload (pc := 52) d_MO_join_52 rfl ?_
  refine fr_if_ne (pc := 54) (tgt := 61) d_MO_join_54 (by decide) (fun q => absurd q (by decide)) (fun _ => ?_)
  refine fr_iconst (pc := 57) (v := 1) d_MO_join_57 (by decide) ?_
  refine fr_goto (pc := 58) (tgt := 62) d_MO_join_58 (by decide) ?_
  refine fr_iconst (pc := 62) (v := 1) d_MO_join_62 (by decide) ?_
  refine fr_callv_p (pc := 63) (nc := nc) (ns := ns) (N := m_MO_goes) (rest := []) (as := [.int 0, .int 1, .int 1]) d_MO_join_63 vc_MO_69 ⟨by decide, by decide, Nat.le_of_ble_eq_true rfl⟩ (Nat.le_of_ble_eq_true rfl) fm_mo (c_MO_goes1 hA) rfl ?_
  refine fr_if_ne (pc := 66) (tgt := 71) d_MO_join_66 (by decide) (fun q => absurd q (by decide)) (fun _ => ?_)
  refine fr_iconst (pc := 69) (v := 0) d_MO_join_69 (by decide) ?_
  exact fr_zret rfl (by first | exact bI_01 _ | exact Or.inl rfl | exact Or.inr rfl) d_MO_join_70 ⟨rfl, _, _, _, _, rfl, hc⟩
theorem p_MO_leave_n1 {g : fw_G} {nc ns : Nat} {w0 : fw_W} {mo : Nat} {ar : Nat → Nat} (hA : fm_ad mo ar) {th so pl po : Int32} {us n : Nat} {F : fm_F} {hu hg : Nat → Nat → Bool} {nd : fs_D} (hc : fm_c us n hu hg nd F) (hs : fm_S us n hu hg nd) {x y : Int32} {b : Bool} (hx : fs_no2 x n) : fw_R g m_MO_leave (fm_P g w0 mo ar (.int 0) 1 (us, n, hu, hg, nd)) nc ns (fm_W g w0 mo ar (th, us, n, so, pl, po) F) 0 [(0, .ref mo), (1, .int x), (2, .int y), (3, .int (bI b))] [] := by
  obtain ⟨hok, hub, hgb⟩ := id hs
  have hus := hok.2.1
  have hn := hok.2.2.1
  refine fr_aload_n (pc := 0) d_MO_leave_0 rfl rfl ?_
  refine fr_aload_n (pc := 1) d_MO_leave_1 rfl rfl ?_
  refine fr_iload_n (pc := 2) d_MO_leave_2 rfl rfl ?_
  refine fr_callv_p (pc := 3) (nc := nc) (ns := ns) (N := m_MO_isGroup) (rest := [.ref mo]) (as := [.int x]) d_MO_leave_3 vc_MO_73 ⟨by decide, by decide, Nat.le_of_ble_eq_true rfl⟩ (Nat.le_of_ble_eq_true rfl) fm_mo (c_MO_isGroup_n hA hx (by omega)) rfl ?_
  refine fr_if_eq (pc := 6) (tgt := 22) d_MO_leave_6 (by decide) (fun _ => ?_) (fun q => absurd q (by decide))
  refine fr_iconst (pc := 22) (v := 0) d_MO_leave_22 (by decide) ?_
  refine fr_iconst (pc := 23) (v := 1) d_MO_leave_23 (by decide) ?_
  refine fr_iconst (pc := 24) (v := 1) d_MO_leave_24 (by decide) ?_
  refine fr_callv_p (pc := 25) (nc := nc) (ns := ns) (N := m_MO_goes) (rest := []) (as := [.int 0, .int 1, .int 1]) d_MO_leave_25 vc_MO_69 ⟨by decide, by decide, Nat.le_of_ble_eq_true rfl⟩ (Nat.le_of_ble_eq_true rfl) fm_mo (c_MO_goes1 hA) rfl ?_
  refine fr_if_ne (pc := 28) (tgt := 33) d_MO_leave_28 (by decide) (fun q => absurd q (by decide)) (fun _ => ?_)
  refine fr_iconst (pc := 31) (v := 0) d_MO_leave_31 (by decide) ?_
  exact fr_zret rfl (by first | exact bI_01 _ | exact Or.inl rfl | exact Or.inr rfl) d_MO_leave_32 ⟨rfl, _, _, _, _, rfl, hc⟩
theorem p_MO_leave_n2 {g : fw_G} {nc ns : Nat} {w0 : fw_W} {mo : Nat} {ar : Nat → Nat} (hA : fm_ad mo ar) {th so pl po : Int32} {us n : Nat} {F : fm_F} {hu hg : Nat → Nat → Bool} {nd : fs_D} (hc : fm_c us n hu hg nd F) (hs : fm_S us n hu hg nd) {i : Nat} {y : Int32} {b : Bool} (hi : i < n) (hy : fs_no2 y (if b then n else us)) : fw_R g m_MO_leave (fm_P g w0 mo ar (.int 0) 1 (us, n, hu, hg, nd)) nc ns (fm_W g w0 mo ar (th, us, n, so, pl, po) F) 0 [(0, .ref mo), (1, .int (nI i)), (2, .int y), (3, .int (bI b))] [] := by
  obtain ⟨hok, hub, hgb⟩ := id hs
  have hus := hok.2.1
  have hn := hok.2.2.1
  refine fr_aload_n (pc := 0) d_MO_leave_0 rfl rfl ?_
  refine fr_aload_n (pc := 1) d_MO_leave_1 rfl rfl ?_
  refine fr_iload_n (pc := 2) d_MO_leave_2 rfl rfl ?_
  refine fr_callv_p (pc := 3) (nc := nc) (ns := ns) (N := m_MO_isGroup) (rest := [.ref mo]) (as := [.int (nI i)]) d_MO_leave_3 vc_MO_73 ⟨by decide, by decide, Nat.le_of_ble_eq_true rfl⟩ (Nat.le_of_ble_eq_true rfl) fm_mo (c_MO_isGroup_y hA hi (by omega)) rfl ?_
  refine fr_if_eq (pc := 6) (tgt := 22) d_MO_leave_6 (by decide) (fun q => absurd q (by decide)) (fun _ => ?_)
  refine fr_aload_n (pc := 9) d_MO_leave_9 rfl rfl ?_
  refine fr_iload_n (pc := 10) d_MO_leave_10 rfl rfl ?_
  refine fr_iload_n (pc := 11) d_MO_leave_11 rfl rfl ?_
  refine fr_callv_p (pc := 12) (nc := nc) (ns := ns) (N := m_MO_isMember) (rest := [.ref mo]) (as := [.int y, .int (bI b)]) d_MO_leave_12 vc_MO_80 ⟨by decide, by decide, Nat.le_of_ble_eq_true rfl⟩ (Nat.le_of_ble_eq_true rfl) fm_mo (c_MO_isMember_n hA hy (by omega) (by omega)) rfl ?_
  refine fr_if_eq (pc := 15) (tgt := 22) d_MO_leave_15 (by decide) (fun _ => ?_) (fun q => absurd q (by decide))
  refine fr_iconst (pc := 22) (v := 0) d_MO_leave_22 (by decide) ?_
  refine fr_iconst (pc := 23) (v := 1) d_MO_leave_23 (by decide) ?_
  refine fr_iconst (pc := 24) (v := 1) d_MO_leave_24 (by decide) ?_
  refine fr_callv_p (pc := 25) (nc := nc) (ns := ns) (N := m_MO_goes) (rest := []) (as := [.int 0, .int 1, .int 1]) d_MO_leave_25 vc_MO_69 ⟨by decide, by decide, Nat.le_of_ble_eq_true rfl⟩ (Nat.le_of_ble_eq_true rfl) fm_mo (c_MO_goes1 hA) rfl ?_
  refine fr_if_ne (pc := 28) (tgt := 33) d_MO_leave_28 (by decide) (fun q => absurd q (by decide)) (fun _ => ?_)
  refine fr_iconst (pc := 31) (v := 0) d_MO_leave_31 (by decide) ?_
  exact fr_zret rfl (by first | exact bI_01 _ | exact Or.inl rfl | exact Or.inr rfl) d_MO_leave_32 ⟨rfl, _, _, _, _, rfl, hc⟩
theorem p_MO_join_cir {g : fw_G} {nc ns : Nat} {w0 : fw_W} {mo : Nat} {ar : Nat → Nat} (hA : fm_ad mo ar) {th so pl po : Int32} {us n : Nat} {F : fm_F} {hu hg : Nat → Nat → Bool} {nd : fs_D} (hc : fm_c us n hu hg nd F) (hs : fm_S us n hu hg nd) {i j : Nat} (hi : i < n) (hj : j < n) (hcr : cl_rt hg j i) : fw_R g m_MO_join (fm_P g w0 mo ar (.int 0) 2 (us, n, hu, hg, nd)) nc ns (fm_W g w0 mo ar (th, us, n, so, pl, po) F) 0 [(0, .ref mo), (1, .int (nI i)), (2, .int (nI j)), (3, .int (bI true))] [] := by
  obtain ⟨hok, hub, hgb⟩ := id hs
  have hus := hok.2.1
  have hn := hok.2.2.1
  refine fr_aload_n (pc := 0) d_MO_join_0 rfl rfl ?_
  refine fr_iload_n (pc := 1) d_MO_join_1 rfl rfl ?_
  refine fr_callv_p (pc := 2) (nc := nc) (ns := ns) (N := m_MO_isGroup) (rest := []) (as := [.int (nI i)]) d_MO_join_2 vc_MO_73 ⟨by decide, by decide, Nat.le_of_ble_eq_true rfl⟩ (Nat.le_of_ble_eq_true rfl) fm_mo (c_MO_isGroup_y hA hi (by omega)) rfl ?_
  refine fr_if_eq (pc := 5) (tgt := 21) d_MO_join_5 (by decide) (fun q => absurd q (by decide)) (fun _ => ?_)
  refine fr_aload_n (pc := 8) d_MO_join_8 rfl rfl ?_
  refine fr_iload_n (pc := 9) d_MO_join_9 rfl rfl ?_
  refine fr_iload_n (pc := 10) d_MO_join_10 rfl rfl ?_
  refine fr_callv_p (pc := 11) (nc := nc) (ns := ns) (N := m_MO_isMember) (rest := []) (as := [.int (nI j), .int (bI true)]) d_MO_join_11 vc_MO_80 ⟨by decide, by decide, Nat.le_of_ble_eq_true rfl⟩ (Nat.le_of_ble_eq_true rfl) fm_mo (c_MO_isMember_y hA (b := true) hj (by omega) (by omega)) rfl ?_
  refine fr_if_eq (pc := 14) (tgt := 21) d_MO_join_14 (by decide) (fun q => absurd q (by decide)) (fun _ => ?_)
  refine fr_iconst (pc := 17) (v := 1) d_MO_join_17 (by decide) ?_
  refine fr_goto (pc := 18) (tgt := 22) d_MO_join_18 (by decide) ?_
  refine fr_istore (pc := 22) (L2 := [(0, .ref mo), (1, .int (nI i)), (2, .int (nI j)), (3, .int (bI true)), (4, .int 1)]) d_MO_join_22 (by decide) rfl ?_
  refine fr_iconst (pc := 24) (v := 0) d_MO_join_24 (by decide) ?_
  refine fr_istore (pc := 25) (L2 := [(0, .ref mo), (1, .int (nI i)), (2, .int (nI j)), (3, .int (bI true)), (4, .int 1), (5, .int 0)]) d_MO_join_25 (by decide) rfl ?_
  refine fr_iload (pc := 27) d_MO_join_27 rfl ?_
  refine fr_if_eq (pc := 29) (tgt := 49) d_MO_join_29 (by decide) (fun q => absurd q (by decide)) (fun _ => ?_)
  refine fr_iload_n (pc := 32) d_MO_join_32 rfl rfl ?_
  refine fr_if_eq (pc := 33) (tgt := 49) d_MO_join_33 (by decide) (fun q => absurd q (by decide)) (fun _ => ?_)
  refine fr_aload_n (pc := 36) d_MO_join_36 rfl rfl ?_
  refine fr_iload_n (pc := 37) d_MO_join_37 rfl rfl ?_
  refine fr_callV (pc := 38) (nc := nc) (ns := ns) (N := m_MO_findGroups) (rest := []) (as := [.int (nI j)]) d_MO_join_38 vc_MO_84 ⟨by decide, by decide, Nat.le_of_ble_eq_true rfl⟩ (Nat.le_of_ble_eq_true rfl) fm_mo (c_MO_findGroups hA (hg := hg) hc.2.1 hn (i := j) (by omega) hgb (fun q => hc.2.2.2.2.2.2.2 2 q (by omega))) rfl (fun v1 u h => ?_) (fun C u h => by obtain ⟨h1, -⟩ := h; cases h1)
  obtain ⟨hv, f2, rfl, hf2, hfi⟩ := h
  cases hv
  refine fr_aload_n (pc := 41) d_MO_join_41 rfl rfl ?_
  refine fr_get (pc := 42) (v := .ref (ar 2)) d_MO_join_42 fg_MO_20 fm_mo rfl ?_
  refine fr_iload_n (pc := 45) d_MO_join_45 rfl rfl ?_
  refine fr_mzld (pc := 46) (j := 2) (k := i) d_MO_join_46 hA (by decide) rfl (by show i < 24; omega) ?_
  refine fr_st (st2 := [.int 1]) (by rw [fm_s_self, (hfi i (by omega)).mpr hcr]; rfl) ?_
  refine fr_istore (pc := 47) (L2 := [(0, .ref mo), (1, .int (nI i)), (2, .int (nI j)), (3, .int (bI true)), (4, .int 1), (5, .int 1)]) d_MO_join_47 (by decide) rfl ?_
  refine fr_aload_n (pc := 49) d_MO_join_49 rfl rfl ?_
  refine fr_iload (pc := 50) d_MO_join_50 rfl ?_
  refine fr_iload (pc := 52) d_MO_join_52 rfl ?_
  refine fr_if_ne (pc := 54) (tgt := 61) d_MO_join_54 (by decide) (fun _ => ?_) (fun q => absurd q (by decide))
  refine fr_iconst (pc := 61) (v := 0) d_MO_join_61 (by decide) ?_
  refine fr_iconst (pc := 62) (v := 1) d_MO_join_62 (by decide) ?_
  refine fr_callv_p (pc := 63) (nc := nc) (ns := ns) (N := m_MO_goes) (rest := []) (as := [.int 1, .int 0, .int 1]) d_MO_join_63 vc_MO_69 ⟨by decide, by decide, Nat.le_of_ble_eq_true rfl⟩ (Nat.le_of_ble_eq_true rfl) fm_mo (c_MO_goes2 hA) rfl ?_
  refine fr_if_ne (pc := 66) (tgt := 71) d_MO_join_66 (by decide) (fun q => absurd q (by decide)) (fun _ => ?_)
  refine fr_iconst (pc := 69) (v := 0) d_MO_join_69 (by decide) ?_
  exact fr_zret rfl (by first | exact bI_01 _ | exact Or.inl rfl | exact Or.inr rfl) d_MO_join_70 ⟨rfl, _, _, _, _, rfl, fm_c_2 hc hf2⟩
theorem p_MO_join_has {g : fw_G} {nc ns : Nat} {w0 : fw_W} {mo : Nat} {ar : Nat → Nat} (hA : fm_ad mo ar) {th so pl po : Int32} {us n : Nat} {F : fm_F} {hu hg : Nat → Nat → Bool} {nd : fs_D} (hc : fm_c us n hu hg nd F) (hs : fm_S us n hu hg nd) {i j : Nat} {b : Bool} (hi : i < n) (hj : j < (if b then n else us)) (hc9 : b = true → ¬ cl_rt hg j i) (hh : fs_hh hu hg b i j = true) : fw_R g m_MO_join (fm_P g w0 mo ar (.int (bI false)) 0 (us, n, hu, hg, nd)) nc ns (fm_W g w0 mo ar (th, us, n, so, pl, po) F) 0 [(0, .ref mo), (1, .int (nI i)), (2, .int (nI j)), (3, .int (bI b))] [] := by
  obtain ⟨hok, hub, hgb⟩ := id hs
  have hus := hok.2.1
  have hn := hok.2.2.1
  cases b with
  | false =>
    have hh2 : hu i j = true := hh
    have hj2 : j < us := hj
    refine fr_aload_n (pc := 0) d_MO_join_0 rfl rfl ?_
    refine fr_iload_n (pc := 1) d_MO_join_1 rfl rfl ?_
    refine fr_callv_p (pc := 2) (nc := nc) (ns := ns) (N := m_MO_isGroup) (rest := []) (as := [.int (nI i)]) d_MO_join_2 vc_MO_73 ⟨by decide, by decide, Nat.le_of_ble_eq_true rfl⟩ (Nat.le_of_ble_eq_true rfl) fm_mo (c_MO_isGroup_y hA hi (by omega)) rfl ?_
    refine fr_if_eq (pc := 5) (tgt := 21) d_MO_join_5 (by decide) (fun q => absurd q (by decide)) (fun _ => ?_)
    refine fr_aload_n (pc := 8) d_MO_join_8 rfl rfl ?_
    refine fr_iload_n (pc := 9) d_MO_join_9 rfl rfl ?_
    refine fr_iload_n (pc := 10) d_MO_join_10 rfl rfl ?_
    refine fr_callv_p (pc := 11) (nc := nc) (ns := ns) (N := m_MO_isMember) (rest := []) (as := [.int (nI j), .int (bI false)]) d_MO_join_11 vc_MO_80 ⟨by decide, by decide, Nat.le_of_ble_eq_true rfl⟩ (Nat.le_of_ble_eq_true rfl) fm_mo (c_MO_isMember_y hA (b := false) hj (by omega) (by omega)) rfl ?_
    refine fr_if_eq (pc := 14) (tgt := 21) d_MO_join_14 (by decide) (fun q => absurd q (by decide)) (fun _ => ?_)
    refine fr_iconst (pc := 17) (v := 1) d_MO_join_17 (by decide) ?_
    refine fr_goto (pc := 18) (tgt := 22) d_MO_join_18 (by decide) ?_
    refine fr_istore (pc := 22) (L2 := [(0, .ref mo), (1, .int (nI i)), (2, .int (nI j)), (3, .int (bI false)), (4, .int 1)]) d_MO_join_22 (by decide) rfl ?_
    refine fr_iconst (pc := 24) (v := 0) d_MO_join_24 (by decide) ?_
    refine fr_istore (pc := 25) (L2 := [(0, .ref mo), (1, .int (nI i)), (2, .int (nI j)), (3, .int (bI false)), (4, .int 1), (5, .int 0)]) d_MO_join_25 (by decide) rfl ?_
    refine fr_iload (pc := 27) d_MO_join_27 rfl ?_
    refine fr_if_eq (pc := 29) (tgt := 49) d_MO_join_29 (by decide) (fun q => absurd q (by decide)) (fun _ => ?_)
    refine fr_iload_n (pc := 32) d_MO_join_32 rfl rfl ?_
    refine fr_if_eq (pc := 33) (tgt := 49) d_MO_join_33 (by decide) (fun _ => ?_) (fun q => absurd q (by decide))
    refine fr_aload_n (pc := 49) d_MO_join_49 rfl rfl ?_
    refine fr_iload (pc := 50) d_MO_join_50 rfl ?_
    refine fr_iload (pc := 52) d_MO_join_52 rfl ?_
    refine fr_if_ne (pc := 54) (tgt := 61) d_MO_join_54 (by decide) (fun q => absurd q (by decide)) (fun _ => ?_)
    refine fr_iconst (pc := 57) (v := 1) d_MO_join_57 (by decide) ?_
    refine fr_goto (pc := 58) (tgt := 62) d_MO_join_58 (by decide) ?_
    refine fr_iconst (pc := 62) (v := 1) d_MO_join_62 (by decide) ?_
    refine fr_callv_p (pc := 63) (nc := nc) (ns := ns) (N := m_MO_goes) (rest := []) (as := [.int 1, .int 1, .int 1]) d_MO_join_63 vc_MO_69 ⟨by decide, by decide, Nat.le_of_ble_eq_true rfl⟩ (Nat.le_of_ble_eq_true rfl) fm_mo (c_MO_goes0 hA) rfl ?_
    refine fr_if_ne (pc := 66) (tgt := 71) d_MO_join_66 (by decide) (fun _ => ?_) (fun q => absurd q (by decide))
    refine fr_iload_n (pc := 71) d_MO_join_71 rfl rfl ?_
    refine fr_if_eq (pc := 72) (tgt := 89) d_MO_join_72 (by decide) (fun _ => ?_) (fun q => absurd q (by decide))
    refine fr_aload_n (pc := 89) d_MO_join_89 rfl rfl ?_
    refine fr_get (pc := 90) (v := .ref (ar 0)) d_MO_join_90 fg_MO_13 fm_mo rfl ?_
    refine fr_bipush (pc := 93) (v := 60) d_MO_join_93 (by decide) ?_
    refine fr_iload_n (pc := 95) d_MO_join_95 rfl rfl ?_
    refine fr_imulN (pc := 96) (a := 60) (b := i) d_MO_join_96 ?_
    refine fr_iload_n (pc := 97) d_MO_join_97 rfl rfl ?_
    refine fr_iaddN (pc := 98) (a := (60 * i)) (b := j) d_MO_join_98 ?_
    refine fr_mzld (pc := 99) (j := 0) (k := ((60 * i) + j)) d_MO_join_99 hA (by decide) rfl (by show ((60 * i) + j) < 1440; omega) ?_
    refine fr_st (st2 := [.int 1]) (by rw [hc.1 i j (by omega) (by omega), hh2]; rfl) ?_
    refine fr_istore (pc := 100) (L2 := [(0, .ref mo), (1, .int (nI i)), (2, .int (nI j)), (3, .int (bI false)), (4, .int 1), (5, .int 0), (6, .int 1)]) d_MO_join_100 (by decide) rfl ?_
    refine fr_iload_n (pc := 102) d_MO_join_102 rfl rfl ?_
    refine fr_if_eq (pc := 103) (tgt := 121) d_MO_join_103 (by decide) (fun _ => ?_) (fun q => absurd q (by decide))
    refine fr_aload_n (pc := 121) d_MO_join_121 rfl rfl ?_
    refine fr_get (pc := 122) (v := .ref (ar 0)) d_MO_join_122 fg_MO_13 fm_mo rfl ?_
    refine fr_bipush (pc := 125) (v := 60) d_MO_join_125 (by decide) ?_
    refine fr_iload_n (pc := 127) d_MO_join_127 rfl rfl ?_
    refine fr_imulN (pc := 128) (a := 60) (b := i) d_MO_join_128 ?_
    refine fr_iload_n (pc := 129) d_MO_join_129 rfl rfl ?_
    refine fr_iaddN (pc := 130) (a := (60 * i)) (b := j) d_MO_join_130 ?_
    refine fr_iconst (pc := 131) (v := 1) d_MO_join_131 (by decide) ?_
    refine fr_mzst (pc := 132) (j := 0) (k := ((60 * i) + j)) (x := 1) d_MO_join_132 hA (by decide) rfl (by show ((60 * i) + j) < 1440; omega) (Or.inr rfl) ?_
    refine fr_aload_n (pc := 133) d_MO_join_133 rfl rfl ?_
    have s4 : ∀ q, 4 ≤ q → (fm_e F 0 (60 * i + j) 1) q = F q := fun q hq => by rw [fm_e_ne (by omega)]
    have s0 : ∀ x y, x < 24 → y < 60 → (fm_e F 0 (60 * i + j) 1) 0 (60 * x + y) = bI (hu x y) := fun x y hx hy => by rw [fm_e_at]; exact fm_tab60 hc.1 (by omega) (by rw [hh2]; rfl) (fun x y e => rfl) x y hx hy
    have s1 : ∀ x y, x < 24 → y < 24 → (fm_e F 0 (60 * i + j) 1) 1 (24 * x + y) = bI (hg x y) := fun x y hx hy => by rw [fm_e_ne (by decide)]; exact hc.2.1 x y hx hy
    have sB : ∀ q x, q < 4 → (fm_e F 0 (60 * i + j) 1) q x = 0 ∨ (fm_e F 0 (60 * i + j) 1) q x = 1 := fun q x hq => by
      by_cases e : q = 0
      · subst e; rw [fm_e_at]; split
        · decide
        · exact hc.2.2.2.2.2.2.2 0 x (by omega)
      · rw [fm_e_ne e]; exact hc.2.2.2.2.2.2.2 q x (by omega)
    refine fr_callV (pc := 134) (nc := nc) (ns := ns) (N := m_MO_settle) (rest := []) (as := []) d_MO_join_134 vc_MO_88 ⟨by decide, by decide, Nat.le_of_ble_eq_true rfl⟩ (Nat.le_of_ble_eq_true rfl) fm_mo (c_MO_settle hA (F := (fm_e F 0 (60 * i + j) 1)) (hu := hu) s0 hn hus (hg := hg) hub s1 hgb (fun q => sB 2 q (by omega)) (fun q => sB 3 q (by omega)) (fun x y hx hy hno => by rw [fm_e_ne (by decide), hc.2.2.1 x y hx hy, fs_in_no hub hgb hno]; rfl)) rfl (fun v1 u h => ?_) (fun C u h => by obtain ⟨h1, -⟩ := h; cases h1)
    obtain ⟨hv, f3, h3, rfl, hf3, hh3, hx3⟩ := h
    cases hv
    refine fr_iload (pc := 137) d_MO_join_137 rfl ?_
    refine fr_if_ne (pc := 139) (tgt := 146) d_MO_join_139 (by decide) (fun _ => ?_) (fun q => absurd q (by decide))
    refine fr_iconst (pc := 146) (v := 0) d_MO_join_146 (by decide) ?_
    exact fr_zret rfl (by first | exact bI_01 _ | exact Or.inl rfl | exact Or.inr rfl) d_MO_join_147 ⟨rfl, _, _, _, _, rfl, fm_c_set hc s4 s0 s1 (fun q => sB 0 q (by omega)) (fun q => sB 1 q (by omega)) hf3 hh3 hx3⟩
  | true =>
    have hh2 : hg i j = true := hh
    have hj2 : j < n := hj
    refine fr_aload_n (pc := 0) d_MO_join_0 rfl rfl ?_
    refine fr_iload_n (pc := 1) d_MO_join_1 rfl rfl ?_
    refine fr_callv_p (pc := 2) (nc := nc) (ns := ns) (N := m_MO_isGroup) (rest := []) (as := [.int (nI i)]) d_MO_join_2 vc_MO_73 ⟨by decide, by decide, Nat.le_of_ble_eq_true rfl⟩ (Nat.le_of_ble_eq_true rfl) fm_mo (c_MO_isGroup_y hA hi (by omega)) rfl ?_
    refine fr_if_eq (pc := 5) (tgt := 21) d_MO_join_5 (by decide) (fun q => absurd q (by decide)) (fun _ => ?_)
    refine fr_aload_n (pc := 8) d_MO_join_8 rfl rfl ?_
    refine fr_iload_n (pc := 9) d_MO_join_9 rfl rfl ?_
    refine fr_iload_n (pc := 10) d_MO_join_10 rfl rfl ?_
    refine fr_callv_p (pc := 11) (nc := nc) (ns := ns) (N := m_MO_isMember) (rest := []) (as := [.int (nI j), .int (bI true)]) d_MO_join_11 vc_MO_80 ⟨by decide, by decide, Nat.le_of_ble_eq_true rfl⟩ (Nat.le_of_ble_eq_true rfl) fm_mo (c_MO_isMember_y hA (b := true) hj (by omega) (by omega)) rfl ?_
    refine fr_if_eq (pc := 14) (tgt := 21) d_MO_join_14 (by decide) (fun q => absurd q (by decide)) (fun _ => ?_)
    refine fr_iconst (pc := 17) (v := 1) d_MO_join_17 (by decide) ?_
    refine fr_goto (pc := 18) (tgt := 22) d_MO_join_18 (by decide) ?_
    refine fr_istore (pc := 22) (L2 := [(0, .ref mo), (1, .int (nI i)), (2, .int (nI j)), (3, .int (bI true)), (4, .int 1)]) d_MO_join_22 (by decide) rfl ?_
    refine fr_iconst (pc := 24) (v := 0) d_MO_join_24 (by decide) ?_
    refine fr_istore (pc := 25) (L2 := [(0, .ref mo), (1, .int (nI i)), (2, .int (nI j)), (3, .int (bI true)), (4, .int 1), (5, .int 0)]) d_MO_join_25 (by decide) rfl ?_
    refine fr_iload (pc := 27) d_MO_join_27 rfl ?_
    refine fr_if_eq (pc := 29) (tgt := 49) d_MO_join_29 (by decide) (fun q => absurd q (by decide)) (fun _ => ?_)
    refine fr_iload_n (pc := 32) d_MO_join_32 rfl rfl ?_
    refine fr_if_eq (pc := 33) (tgt := 49) d_MO_join_33 (by decide) (fun q => absurd q (by decide)) (fun _ => ?_)
    refine fr_aload_n (pc := 36) d_MO_join_36 rfl rfl ?_
    refine fr_iload_n (pc := 37) d_MO_join_37 rfl rfl ?_
    refine fr_callV (pc := 38) (nc := nc) (ns := ns) (N := m_MO_findGroups) (rest := []) (as := [.int (nI j)]) d_MO_join_38 vc_MO_84 ⟨by decide, by decide, Nat.le_of_ble_eq_true rfl⟩ (Nat.le_of_ble_eq_true rfl) fm_mo (c_MO_findGroups hA (hg := hg) hc.2.1 hn (i := j) (by omega) hgb (fun q => hc.2.2.2.2.2.2.2 2 q (by omega))) rfl (fun v1 u h => ?_) (fun C u h => by obtain ⟨h1, -⟩ := h; cases h1)
    obtain ⟨hv, f2, rfl, hf2, hfi⟩ := h
    cases hv
    refine fr_aload_n (pc := 41) d_MO_join_41 rfl rfl ?_
    refine fr_get (pc := 42) (v := .ref (ar 2)) d_MO_join_42 fg_MO_20 fm_mo rfl ?_
    refine fr_iload_n (pc := 45) d_MO_join_45 rfl rfl ?_
    refine fr_mzld (pc := 46) (j := 2) (k := i) d_MO_join_46 hA (by decide) rfl (by show i < 24; omega) ?_
    refine fr_st (st2 := [.int 0]) (by rw [fm_s_self, (hf2 i).resolve_right (fun z => hc9 rfl ((hfi i (by omega)).mp z))]; rfl) ?_
    refine fr_istore (pc := 47) (L2 := [(0, .ref mo), (1, .int (nI i)), (2, .int (nI j)), (3, .int (bI true)), (4, .int 1), (5, .int 0)]) d_MO_join_47 (by decide) rfl ?_
    refine fr_aload_n (pc := 49) d_MO_join_49 rfl rfl ?_
    refine fr_iload (pc := 50) d_MO_join_50 rfl ?_
    refine fr_iload (pc := 52) d_MO_join_52 rfl ?_
    refine fr_if_ne (pc := 54) (tgt := 61) d_MO_join_54 (by decide) (fun q => absurd q (by decide)) (fun _ => ?_)
    refine fr_iconst (pc := 57) (v := 1) d_MO_join_57 (by decide) ?_
    refine fr_goto (pc := 58) (tgt := 62) d_MO_join_58 (by decide) ?_
    refine fr_iconst (pc := 62) (v := 1) d_MO_join_62 (by decide) ?_
    refine fr_callv_p (pc := 63) (nc := nc) (ns := ns) (N := m_MO_goes) (rest := []) (as := [.int 1, .int 1, .int 1]) d_MO_join_63 vc_MO_69 ⟨by decide, by decide, Nat.le_of_ble_eq_true rfl⟩ (Nat.le_of_ble_eq_true rfl) fm_mo (c_MO_goes0 hA) rfl ?_
    refine fr_if_ne (pc := 66) (tgt := 71) d_MO_join_66 (by decide) (fun _ => ?_) (fun q => absurd q (by decide))
    refine fr_iload_n (pc := 71) d_MO_join_71 rfl rfl ?_
    refine fr_if_eq (pc := 72) (tgt := 89) d_MO_join_72 (by decide) (fun q => absurd q (by decide)) (fun _ => ?_)
    refine fr_aload_n (pc := 75) d_MO_join_75 rfl rfl ?_
    refine fr_get (pc := 76) (v := .ref (ar 1)) d_MO_join_76 fg_MO_17 fm_mo rfl ?_
    refine fr_bipush (pc := 79) (v := 24) d_MO_join_79 (by decide) ?_
    refine fr_iload_n (pc := 81) d_MO_join_81 rfl rfl ?_
    refine fr_imulN (pc := 82) (a := 24) (b := i) d_MO_join_82 ?_
    refine fr_iload_n (pc := 83) d_MO_join_83 rfl rfl ?_
    refine fr_iaddN (pc := 84) (a := (24 * i)) (b := j) d_MO_join_84 ?_
    refine fr_mzld (pc := 85) (j := 1) (k := ((24 * i) + j)) d_MO_join_85 hA (by decide) rfl (by show ((24 * i) + j) < 576; omega) ?_
    refine fr_st (st2 := [.int 1]) (by rw [fm_s_ne (by decide), hc.2.1 i j (by omega) (by omega), hh2]; rfl) ?_
    refine fr_goto (pc := 86) (tgt := 100) d_MO_join_86 (by decide) ?_
    refine fr_istore (pc := 100) (L2 := [(0, .ref mo), (1, .int (nI i)), (2, .int (nI j)), (3, .int (bI true)), (4, .int 1), (5, .int 0), (6, .int 1)]) d_MO_join_100 (by decide) rfl ?_
    refine fr_iload_n (pc := 102) d_MO_join_102 rfl rfl ?_
    refine fr_if_eq (pc := 103) (tgt := 121) d_MO_join_103 (by decide) (fun q => absurd q (by decide)) (fun _ => ?_)
    refine fr_aload_n (pc := 106) d_MO_join_106 rfl rfl ?_
    refine fr_get (pc := 107) (v := .ref (ar 1)) d_MO_join_107 fg_MO_17 fm_mo rfl ?_
    refine fr_bipush (pc := 110) (v := 24) d_MO_join_110 (by decide) ?_
    refine fr_iload_n (pc := 112) d_MO_join_112 rfl rfl ?_
    refine fr_imulN (pc := 113) (a := 24) (b := i) d_MO_join_113 ?_
    refine fr_iload_n (pc := 114) d_MO_join_114 rfl rfl ?_
    refine fr_iaddN (pc := 115) (a := (24 * i)) (b := j) d_MO_join_115 ?_
    refine fr_iconst (pc := 116) (v := 1) d_MO_join_116 (by decide) ?_
    refine fr_mzst (pc := 117) (j := 1) (k := ((24 * i) + j)) (x := 1) d_MO_join_117 hA (by decide) rfl (by show ((24 * i) + j) < 576; omega) (Or.inr rfl) ?_
    refine fr_goto (pc := 118) (tgt := 133) d_MO_join_118 (by decide) ?_
    refine fr_aload_n (pc := 133) d_MO_join_133 rfl rfl ?_
    have s4 : ∀ q, 4 ≤ q → (fm_e (fm_s F 2 f2) 1 (24 * i + j) 1) q = F q := fun q hq => by rw [fm_e_ne (by omega), fm_s_ne (by omega)]
    have s0 : ∀ x y, x < 24 → y < 60 → (fm_e (fm_s F 2 f2) 1 (24 * i + j) 1) 0 (60 * x + y) = bI (hu x y) := fun x y hx hy => by rw [fm_e_ne (by decide), fm_s_ne (by decide)]; exact hc.1 x y hx hy
    have s1 : ∀ x y, x < 24 → y < 24 → (fm_e (fm_s F 2 f2) 1 (24 * i + j) 1) 1 (24 * x + y) = bI (hg x y) := fun x y hx hy => by rw [fm_e_at]; rw [fm_s_ne (by decide)]; exact fm_tab24 hc.2.1 (by omega) (by rw [hh2]; rfl) (fun x y e => rfl) x y hx hy
    have sB : ∀ q x, q < 4 → (fm_e (fm_s F 2 f2) 1 (24 * i + j) 1) q x = 0 ∨ (fm_e (fm_s F 2 f2) 1 (24 * i + j) 1) q x = 1 := fun q x hq => by
      by_cases e : q = 1
      · subst e; rw [fm_e_at]; split
        · decide
        · rw [fm_s_ne (by decide)]; exact hc.2.2.2.2.2.2.2 1 x (by omega)
      · rw [fm_e_ne e]
        exact (fm_c_2 hc hf2).2.2.2.2.2.2.2 q x (by omega)
    refine fr_callV (pc := 134) (nc := nc) (ns := ns) (N := m_MO_settle) (rest := []) (as := []) d_MO_join_134 vc_MO_88 ⟨by decide, by decide, Nat.le_of_ble_eq_true rfl⟩ (Nat.le_of_ble_eq_true rfl) fm_mo (c_MO_settle hA (F := (fm_e (fm_s F 2 f2) 1 (24 * i + j) 1)) (hu := hu) s0 hn hus (hg := hg) hub s1 hgb (fun q => sB 2 q (by omega)) (fun q => sB 3 q (by omega)) (fun x y hx hy hno => by rw [fm_e_ne (by decide), fm_s_ne (by decide), hc.2.2.1 x y hx hy, fs_in_no hub hgb hno]; rfl)) rfl (fun v1 u h => ?_) (fun C u h => by obtain ⟨h1, -⟩ := h; cases h1)
    obtain ⟨hv, f3, h3, rfl, hf3, hh3, hx3⟩ := h
    cases hv
    refine fr_iload (pc := 137) d_MO_join_137 rfl ?_
    refine fr_if_ne (pc := 139) (tgt := 146) d_MO_join_139 (by decide) (fun _ => ?_) (fun q => absurd q (by decide))
    refine fr_iconst (pc := 146) (v := 0) d_MO_join_146 (by decide) ?_
    exact fr_zret rfl (by first | exact bI_01 _ | exact Or.inl rfl | exact Or.inr rfl) d_MO_join_147 ⟨rfl, _, _, _, _, rfl, fm_c_set hc s4 s0 s1 (fun q => sB 0 q (by omega)) (fun q => sB 1 q (by omega)) hf3 hh3 hx3⟩
theorem p_MO_join_new {g : fw_G} {nc ns : Nat} {w0 : fw_W} {mo : Nat} {ar : Nat → Nat} (hA : fm_ad mo ar) {th so pl po : Int32} {us n : Nat} {F : fm_F} {hu hg : Nat → Nat → Bool} {nd : fs_D} (hc : fm_c us n hu hg nd F) (hs : fm_S us n hu hg nd) {i j : Nat} {b : Bool} (hi : i < n) (hj : j < (if b then n else us)) (hc9 : b = true → ¬ cl_rt hg j i) (hh : fs_hh hu hg b i j = false) : fw_R g m_MO_join (fm_P g w0 mo ar (.int (bI true)) 0 (us, n, (if b then hu else gr_tg hu i j), (if b then gr_tg hg i j else hg), nd)) nc ns (fm_W g w0 mo ar (th, us, n, so, pl, po) F) 0 [(0, .ref mo), (1, .int (nI i)), (2, .int (nI j)), (3, .int (bI b))] [] := by
  obtain ⟨hok, hub, hgb⟩ := id hs
  have hus := hok.2.1
  have hn := hok.2.2.1
  cases b with
  | false =>
    have hh2 : hu i j = false := hh
    have hj2 : j < us := hj
    refine fr_aload_n (pc := 0) d_MO_join_0 rfl rfl ?_
    refine fr_iload_n (pc := 1) d_MO_join_1 rfl rfl ?_
    refine fr_callv_p (pc := 2) (nc := nc) (ns := ns) (N := m_MO_isGroup) (rest := []) (as := [.int (nI i)]) d_MO_join_2 vc_MO_73 ⟨by decide, by decide, Nat.le_of_ble_eq_true rfl⟩ (Nat.le_of_ble_eq_true rfl) fm_mo (c_MO_isGroup_y hA hi (by omega)) rfl ?_
    refine fr_if_eq (pc := 5) (tgt := 21) d_MO_join_5 (by decide) (fun q => absurd q (by decide)) (fun _ => ?_)
    refine fr_aload_n (pc := 8) d_MO_join_8 rfl rfl ?_
    refine fr_iload_n (pc := 9) d_MO_join_9 rfl rfl ?_
    refine fr_iload_n (pc := 10) d_MO_join_10 rfl rfl ?_
    refine fr_callv_p (pc := 11) (nc := nc) (ns := ns) (N := m_MO_isMember) (rest := []) (as := [.int (nI j), .int (bI false)]) d_MO_join_11 vc_MO_80 ⟨by decide, by decide, Nat.le_of_ble_eq_true rfl⟩ (Nat.le_of_ble_eq_true rfl) fm_mo (c_MO_isMember_y hA (b := false) hj (by omega) (by omega)) rfl ?_
    refine fr_if_eq (pc := 14) (tgt := 21) d_MO_join_14 (by decide) (fun q => absurd q (by decide)) (fun _ => ?_)
    refine fr_iconst (pc := 17) (v := 1) d_MO_join_17 (by decide) ?_
    refine fr_goto (pc := 18) (tgt := 22) d_MO_join_18 (by decide) ?_
    refine fr_istore (pc := 22) (L2 := [(0, .ref mo), (1, .int (nI i)), (2, .int (nI j)), (3, .int (bI false)), (4, .int 1)]) d_MO_join_22 (by decide) rfl ?_
    refine fr_iconst (pc := 24) (v := 0) d_MO_join_24 (by decide) ?_
    refine fr_istore (pc := 25) (L2 := [(0, .ref mo), (1, .int (nI i)), (2, .int (nI j)), (3, .int (bI false)), (4, .int 1), (5, .int 0)]) d_MO_join_25 (by decide) rfl ?_
    refine fr_iload (pc := 27) d_MO_join_27 rfl ?_
    refine fr_if_eq (pc := 29) (tgt := 49) d_MO_join_29 (by decide) (fun q => absurd q (by decide)) (fun _ => ?_)
    refine fr_iload_n (pc := 32) d_MO_join_32 rfl rfl ?_
    refine fr_if_eq (pc := 33) (tgt := 49) d_MO_join_33 (by decide) (fun _ => ?_) (fun q => absurd q (by decide))
    refine fr_aload_n (pc := 49) d_MO_join_49 rfl rfl ?_
    refine fr_iload (pc := 50) d_MO_join_50 rfl ?_
    refine fr_iload (pc := 52) d_MO_join_52 rfl ?_
    refine fr_if_ne (pc := 54) (tgt := 61) d_MO_join_54 (by decide) (fun q => absurd q (by decide)) (fun _ => ?_)
    refine fr_iconst (pc := 57) (v := 1) d_MO_join_57 (by decide) ?_
    refine fr_goto (pc := 58) (tgt := 62) d_MO_join_58 (by decide) ?_
    refine fr_iconst (pc := 62) (v := 1) d_MO_join_62 (by decide) ?_
    refine fr_callv_p (pc := 63) (nc := nc) (ns := ns) (N := m_MO_goes) (rest := []) (as := [.int 1, .int 1, .int 1]) d_MO_join_63 vc_MO_69 ⟨by decide, by decide, Nat.le_of_ble_eq_true rfl⟩ (Nat.le_of_ble_eq_true rfl) fm_mo (c_MO_goes0 hA) rfl ?_
    refine fr_if_ne (pc := 66) (tgt := 71) d_MO_join_66 (by decide) (fun _ => ?_) (fun q => absurd q (by decide))
    refine fr_iload_n (pc := 71) d_MO_join_71 rfl rfl ?_
    refine fr_if_eq (pc := 72) (tgt := 89) d_MO_join_72 (by decide) (fun _ => ?_) (fun q => absurd q (by decide))
    refine fr_aload_n (pc := 89) d_MO_join_89 rfl rfl ?_
    refine fr_get (pc := 90) (v := .ref (ar 0)) d_MO_join_90 fg_MO_13 fm_mo rfl ?_
    refine fr_bipush (pc := 93) (v := 60) d_MO_join_93 (by decide) ?_
    refine fr_iload_n (pc := 95) d_MO_join_95 rfl rfl ?_
    refine fr_imulN (pc := 96) (a := 60) (b := i) d_MO_join_96 ?_
    refine fr_iload_n (pc := 97) d_MO_join_97 rfl rfl ?_
    refine fr_iaddN (pc := 98) (a := (60 * i)) (b := j) d_MO_join_98 ?_
    refine fr_mzld (pc := 99) (j := 0) (k := ((60 * i) + j)) d_MO_join_99 hA (by decide) rfl (by show ((60 * i) + j) < 1440; omega) ?_
    refine fr_st (st2 := [.int 0]) (by rw [hc.1 i j (by omega) (by omega), hh2]; rfl) ?_
    refine fr_istore (pc := 100) (L2 := [(0, .ref mo), (1, .int (nI i)), (2, .int (nI j)), (3, .int (bI false)), (4, .int 1), (5, .int 0), (6, .int 0)]) d_MO_join_100 (by decide) rfl ?_
    refine fr_iload_n (pc := 102) d_MO_join_102 rfl rfl ?_
    refine fr_if_eq (pc := 103) (tgt := 121) d_MO_join_103 (by decide) (fun _ => ?_) (fun q => absurd q (by decide))
    refine fr_aload_n (pc := 121) d_MO_join_121 rfl rfl ?_
    refine fr_get (pc := 122) (v := .ref (ar 0)) d_MO_join_122 fg_MO_13 fm_mo rfl ?_
    refine fr_bipush (pc := 125) (v := 60) d_MO_join_125 (by decide) ?_
    refine fr_iload_n (pc := 127) d_MO_join_127 rfl rfl ?_
    refine fr_imulN (pc := 128) (a := 60) (b := i) d_MO_join_128 ?_
    refine fr_iload_n (pc := 129) d_MO_join_129 rfl rfl ?_
    refine fr_iaddN (pc := 130) (a := (60 * i)) (b := j) d_MO_join_130 ?_
    refine fr_iconst (pc := 131) (v := 1) d_MO_join_131 (by decide) ?_
    refine fr_mzst (pc := 132) (j := 0) (k := ((60 * i) + j)) (x := 1) d_MO_join_132 hA (by decide) rfl (by show ((60 * i) + j) < 1440; omega) (Or.inr rfl) ?_
    refine fr_aload_n (pc := 133) d_MO_join_133 rfl rfl ?_
    have s4 : ∀ q, 4 ≤ q → (fm_e F 0 (60 * i + j) 1) q = F q := fun q hq => by rw [fm_e_ne (by omega)]
    have s0 : ∀ x y, x < 24 → y < 60 → (fm_e F 0 (60 * i + j) 1) 0 (60 * x + y) = bI ((gr_tg hu i j) x y) := fun x y hx hy => by rw [fm_e_at]; exact fm_tab60 hc.1 (by omega) (by rw [tg_at, hh2]; rfl) (fun x y e => tg_ne e) x y hx hy
    have s1 : ∀ x y, x < 24 → y < 24 → (fm_e F 0 (60 * i + j) 1) 1 (24 * x + y) = bI (hg x y) := fun x y hx hy => by rw [fm_e_ne (by decide)]; exact hc.2.1 x y hx hy
    have sB : ∀ q x, q < 4 → (fm_e F 0 (60 * i + j) 1) q x = 0 ∨ (fm_e F 0 (60 * i + j) 1) q x = 1 := fun q x hq => by
      by_cases e : q = 0
      · subst e; rw [fm_e_at]; split
        · decide
        · exact hc.2.2.2.2.2.2.2 0 x (by omega)
      · rw [fm_e_ne e]; exact hc.2.2.2.2.2.2.2 q x (by omega)
    refine fr_callV (pc := 134) (nc := nc) (ns := ns) (N := m_MO_settle) (rest := []) (as := []) d_MO_join_134 vc_MO_88 ⟨by decide, by decide, Nat.le_of_ble_eq_true rfl⟩ (Nat.le_of_ble_eq_true rfl) fm_mo (c_MO_settle hA (F := (fm_e F 0 (60 * i + j) 1)) (hu := (gr_tg hu i j)) s0 hn hus (hg := hg) (tg_b hub hi hj2) s1 hgb (fun q => sB 2 q (by omega)) (fun q => sB 3 q (by omega)) (fun x y hx hy hno => by rw [fm_e_ne (by decide), hc.2.2.1 x y hx hy, fs_in_no hub hgb hno]; rfl)) rfl (fun v1 u h => ?_) (fun C u h => by obtain ⟨h1, -⟩ := h; cases h1)
    obtain ⟨hv, f3, h3, rfl, hf3, hh3, hx3⟩ := h
    cases hv
    refine fr_iload (pc := 137) d_MO_join_137 rfl ?_
    refine fr_if_ne (pc := 139) (tgt := 146) d_MO_join_139 (by decide) (fun q => absurd q (by decide)) (fun _ => ?_)
    refine fr_iconst (pc := 142) (v := 1) d_MO_join_142 (by decide) ?_
    refine fr_goto (pc := 143) (tgt := 147) d_MO_join_143 (by decide) ?_
    exact fr_zret rfl (by first | exact bI_01 _ | exact Or.inl rfl | exact Or.inr rfl) d_MO_join_147 ⟨rfl, _, _, _, _, rfl, fm_c_set hc s4 s0 s1 (fun q => sB 0 q (by omega)) (fun q => sB 1 q (by omega)) hf3 hh3 hx3⟩
  | true =>
    have hh2 : hg i j = false := hh
    have hj2 : j < n := hj
    refine fr_aload_n (pc := 0) d_MO_join_0 rfl rfl ?_
    refine fr_iload_n (pc := 1) d_MO_join_1 rfl rfl ?_
    refine fr_callv_p (pc := 2) (nc := nc) (ns := ns) (N := m_MO_isGroup) (rest := []) (as := [.int (nI i)]) d_MO_join_2 vc_MO_73 ⟨by decide, by decide, Nat.le_of_ble_eq_true rfl⟩ (Nat.le_of_ble_eq_true rfl) fm_mo (c_MO_isGroup_y hA hi (by omega)) rfl ?_
    refine fr_if_eq (pc := 5) (tgt := 21) d_MO_join_5 (by decide) (fun q => absurd q (by decide)) (fun _ => ?_)
    refine fr_aload_n (pc := 8) d_MO_join_8 rfl rfl ?_
    refine fr_iload_n (pc := 9) d_MO_join_9 rfl rfl ?_
    refine fr_iload_n (pc := 10) d_MO_join_10 rfl rfl ?_
    refine fr_callv_p (pc := 11) (nc := nc) (ns := ns) (N := m_MO_isMember) (rest := []) (as := [.int (nI j), .int (bI true)]) d_MO_join_11 vc_MO_80 ⟨by decide, by decide, Nat.le_of_ble_eq_true rfl⟩ (Nat.le_of_ble_eq_true rfl) fm_mo (c_MO_isMember_y hA (b := true) hj (by omega) (by omega)) rfl ?_
    refine fr_if_eq (pc := 14) (tgt := 21) d_MO_join_14 (by decide) (fun q => absurd q (by decide)) (fun _ => ?_)
    refine fr_iconst (pc := 17) (v := 1) d_MO_join_17 (by decide) ?_
    refine fr_goto (pc := 18) (tgt := 22) d_MO_join_18 (by decide) ?_
    refine fr_istore (pc := 22) (L2 := [(0, .ref mo), (1, .int (nI i)), (2, .int (nI j)), (3, .int (bI true)), (4, .int 1)]) d_MO_join_22 (by decide) rfl ?_
    refine fr_iconst (pc := 24) (v := 0) d_MO_join_24 (by decide) ?_
    refine fr_istore (pc := 25) (L2 := [(0, .ref mo), (1, .int (nI i)), (2, .int (nI j)), (3, .int (bI true)), (4, .int 1), (5, .int 0)]) d_MO_join_25 (by decide) rfl ?_
    refine fr_iload (pc := 27) d_MO_join_27 rfl ?_
    refine fr_if_eq (pc := 29) (tgt := 49) d_MO_join_29 (by decide) (fun q => absurd q (by decide)) (fun _ => ?_)
    refine fr_iload_n (pc := 32) d_MO_join_32 rfl rfl ?_
    refine fr_if_eq (pc := 33) (tgt := 49) d_MO_join_33 (by decide) (fun q => absurd q (by decide)) (fun _ => ?_)
    refine fr_aload_n (pc := 36) d_MO_join_36 rfl rfl ?_
    refine fr_iload_n (pc := 37) d_MO_join_37 rfl rfl ?_
    refine fr_callV (pc := 38) (nc := nc) (ns := ns) (N := m_MO_findGroups) (rest := []) (as := [.int (nI j)]) d_MO_join_38 vc_MO_84 ⟨by decide, by decide, Nat.le_of_ble_eq_true rfl⟩ (Nat.le_of_ble_eq_true rfl) fm_mo (c_MO_findGroups hA (hg := hg) hc.2.1 hn (i := j) (by omega) hgb (fun q => hc.2.2.2.2.2.2.2 2 q (by omega))) rfl (fun v1 u h => ?_) (fun C u h => by obtain ⟨h1, -⟩ := h; cases h1)
    obtain ⟨hv, f2, rfl, hf2, hfi⟩ := h
    cases hv
    refine fr_aload_n (pc := 41) d_MO_join_41 rfl rfl ?_
    refine fr_get (pc := 42) (v := .ref (ar 2)) d_MO_join_42 fg_MO_20 fm_mo rfl ?_
    refine fr_iload_n (pc := 45) d_MO_join_45 rfl rfl ?_
    refine fr_mzld (pc := 46) (j := 2) (k := i) d_MO_join_46 hA (by decide) rfl (by show i < 24; omega) ?_
    refine fr_st (st2 := [.int 0]) (by rw [fm_s_self, (hf2 i).resolve_right (fun z => hc9 rfl ((hfi i (by omega)).mp z))]; rfl) ?_
    refine fr_istore (pc := 47) (L2 := [(0, .ref mo), (1, .int (nI i)), (2, .int (nI j)), (3, .int (bI true)), (4, .int 1), (5, .int 0)]) d_MO_join_47 (by decide) rfl ?_
    refine fr_aload_n (pc := 49) d_MO_join_49 rfl rfl ?_
    refine fr_iload (pc := 50) d_MO_join_50 rfl ?_
    refine fr_iload (pc := 52) d_MO_join_52 rfl ?_
    refine fr_if_ne (pc := 54) (tgt := 61) d_MO_join_54 (by decide) (fun q => absurd q (by decide)) (fun _ => ?_)
    refine fr_iconst (pc := 57) (v := 1) d_MO_join_57 (by decide) ?_
    refine fr_goto (pc := 58) (tgt := 62) d_MO_join_58 (by decide) ?_
    refine fr_iconst (pc := 62) (v := 1) d_MO_join_62 (by decide) ?_
    refine fr_callv_p (pc := 63) (nc := nc) (ns := ns) (N := m_MO_goes) (rest := []) (as := [.int 1, .int 1, .int 1]) d_MO_join_63 vc_MO_69 ⟨by decide, by decide, Nat.le_of_ble_eq_true rfl⟩ (Nat.le_of_ble_eq_true rfl) fm_mo (c_MO_goes0 hA) rfl ?_
    refine fr_if_ne (pc := 66) (tgt := 71) d_MO_join_66 (by decide) (fun _ => ?_) (fun q => absurd q (by decide))
    refine fr_iload_n (pc := 71) d_MO_join_71 rfl rfl ?_
    refine fr_if_eq (pc := 72) (tgt := 89) d_MO_join_72 (by decide) (fun q => absurd q (by decide)) (fun _ => ?_)
    refine fr_aload_n (pc := 75) d_MO_join_75 rfl rfl ?_
    refine fr_get (pc := 76) (v := .ref (ar 1)) d_MO_join_76 fg_MO_17 fm_mo rfl ?_
    refine fr_bipush (pc := 79) (v := 24) d_MO_join_79 (by decide) ?_
    refine fr_iload_n (pc := 81) d_MO_join_81 rfl rfl ?_
    refine fr_imulN (pc := 82) (a := 24) (b := i) d_MO_join_82 ?_
    refine fr_iload_n (pc := 83) d_MO_join_83 rfl rfl ?_
    refine fr_iaddN (pc := 84) (a := (24 * i)) (b := j) d_MO_join_84 ?_
    refine fr_mzld (pc := 85) (j := 1) (k := ((24 * i) + j)) d_MO_join_85 hA (by decide) rfl (by show ((24 * i) + j) < 576; omega) ?_
    refine fr_st (st2 := [.int 0]) (by rw [fm_s_ne (by decide), hc.2.1 i j (by omega) (by omega), hh2]; rfl) ?_
    refine fr_goto (pc := 86) (tgt := 100) d_MO_join_86 (by decide) ?_
    refine fr_istore (pc := 100) (L2 := [(0, .ref mo), (1, .int (nI i)), (2, .int (nI j)), (3, .int (bI true)), (4, .int 1), (5, .int 0), (6, .int 0)]) d_MO_join_100 (by decide) rfl ?_
    refine fr_iload_n (pc := 102) d_MO_join_102 rfl rfl ?_
    refine fr_if_eq (pc := 103) (tgt := 121) d_MO_join_103 (by decide) (fun q => absurd q (by decide)) (fun _ => ?_)
    refine fr_aload_n (pc := 106) d_MO_join_106 rfl rfl ?_
    refine fr_get (pc := 107) (v := .ref (ar 1)) d_MO_join_107 fg_MO_17 fm_mo rfl ?_
    refine fr_bipush (pc := 110) (v := 24) d_MO_join_110 (by decide) ?_
    refine fr_iload_n (pc := 112) d_MO_join_112 rfl rfl ?_
    refine fr_imulN (pc := 113) (a := 24) (b := i) d_MO_join_113 ?_
    refine fr_iload_n (pc := 114) d_MO_join_114 rfl rfl ?_
    refine fr_iaddN (pc := 115) (a := (24 * i)) (b := j) d_MO_join_115 ?_
    refine fr_iconst (pc := 116) (v := 1) d_MO_join_116 (by decide) ?_
    refine fr_mzst (pc := 117) (j := 1) (k := ((24 * i) + j)) (x := 1) d_MO_join_117 hA (by decide) rfl (by show ((24 * i) + j) < 576; omega) (Or.inr rfl) ?_
    refine fr_goto (pc := 118) (tgt := 133) d_MO_join_118 (by decide) ?_
    refine fr_aload_n (pc := 133) d_MO_join_133 rfl rfl ?_
    have s4 : ∀ q, 4 ≤ q → (fm_e (fm_s F 2 f2) 1 (24 * i + j) 1) q = F q := fun q hq => by rw [fm_e_ne (by omega), fm_s_ne (by omega)]
    have s0 : ∀ x y, x < 24 → y < 60 → (fm_e (fm_s F 2 f2) 1 (24 * i + j) 1) 0 (60 * x + y) = bI (hu x y) := fun x y hx hy => by rw [fm_e_ne (by decide), fm_s_ne (by decide)]; exact hc.1 x y hx hy
    have s1 : ∀ x y, x < 24 → y < 24 → (fm_e (fm_s F 2 f2) 1 (24 * i + j) 1) 1 (24 * x + y) = bI ((gr_tg hg i j) x y) := fun x y hx hy => by rw [fm_e_at]; rw [fm_s_ne (by decide)]; exact fm_tab24 hc.2.1 (by omega) (by rw [tg_at, hh2]; rfl) (fun x y e => tg_ne e) x y hx hy
    have sB : ∀ q x, q < 4 → (fm_e (fm_s F 2 f2) 1 (24 * i + j) 1) q x = 0 ∨ (fm_e (fm_s F 2 f2) 1 (24 * i + j) 1) q x = 1 := fun q x hq => by
      by_cases e : q = 1
      · subst e; rw [fm_e_at]; split
        · decide
        · rw [fm_s_ne (by decide)]; exact hc.2.2.2.2.2.2.2 1 x (by omega)
      · rw [fm_e_ne e]
        exact (fm_c_2 hc hf2).2.2.2.2.2.2.2 q x (by omega)
    refine fr_callV (pc := 134) (nc := nc) (ns := ns) (N := m_MO_settle) (rest := []) (as := []) d_MO_join_134 vc_MO_88 ⟨by decide, by decide, Nat.le_of_ble_eq_true rfl⟩ (Nat.le_of_ble_eq_true rfl) fm_mo (c_MO_settle hA (F := (fm_e (fm_s F 2 f2) 1 (24 * i + j) 1)) (hu := hu) s0 hn hus (hg := (gr_tg hg i j)) hub s1 (tg_b hgb hi hj2) (fun q => sB 2 q (by omega)) (fun q => sB 3 q (by omega)) (fun x y hx hy hno => by rw [fm_e_ne (by decide), fm_s_ne (by decide), hc.2.2.1 x y hx hy, fs_in_no hub hgb hno]; rfl)) rfl (fun v1 u h => ?_) (fun C u h => by obtain ⟨h1, -⟩ := h; cases h1)
    obtain ⟨hv, f3, h3, rfl, hf3, hh3, hx3⟩ := h
    cases hv
    refine fr_iload (pc := 137) d_MO_join_137 rfl ?_
    refine fr_if_ne (pc := 139) (tgt := 146) d_MO_join_139 (by decide) (fun q => absurd q (by decide)) (fun _ => ?_)
    refine fr_iconst (pc := 142) (v := 1) d_MO_join_142 (by decide) ?_
    refine fr_goto (pc := 143) (tgt := 147) d_MO_join_143 (by decide) ?_
    exact fr_zret rfl (by first | exact bI_01 _ | exact Or.inl rfl | exact Or.inr rfl) d_MO_join_147 ⟨rfl, _, _, _, _, rfl, fm_c_set hc s4 s0 s1 (fun q => sB 0 q (by omega)) (fun q => sB 1 q (by omega)) hf3 hh3 hx3⟩
theorem p_MO_leave_no {g : fw_G} {nc ns : Nat} {w0 : fw_W} {mo : Nat} {ar : Nat → Nat} (hA : fm_ad mo ar) {th so pl po : Int32} {us n : Nat} {F : fm_F} {hu hg : Nat → Nat → Bool} {nd : fs_D} (hc : fm_c us n hu hg nd F) (hs : fm_S us n hu hg nd) {i j : Nat} {b : Bool} (hi : i < n) (hj : j < (if b then n else us)) (hh : fs_hh hu hg b i j = false) : fw_R g m_MO_leave (fm_P g w0 mo ar (.int (bI false)) 0 (us, n, hu, hg, nd)) nc ns (fm_W g w0 mo ar (th, us, n, so, pl, po) F) 0 [(0, .ref mo), (1, .int (nI i)), (2, .int (nI j)), (3, .int (bI b))] [] := by
  obtain ⟨hok, hub, hgb⟩ := id hs
  have hus := hok.2.1
  have hn := hok.2.2.1
  cases b with
  | false =>
    have hh2 : hu i j = false := hh
    have hj2 : j < us := hj
    refine fr_aload_n (pc := 0) d_MO_leave_0 rfl rfl ?_
    refine fr_aload_n (pc := 1) d_MO_leave_1 rfl rfl ?_
    refine fr_iload_n (pc := 2) d_MO_leave_2 rfl rfl ?_
    refine fr_callv_p (pc := 3) (nc := nc) (ns := ns) (N := m_MO_isGroup) (rest := [.ref mo]) (as := [.int (nI i)]) d_MO_leave_3 vc_MO_73 ⟨by decide, by decide, Nat.le_of_ble_eq_true rfl⟩ (Nat.le_of_ble_eq_true rfl) fm_mo (c_MO_isGroup_y hA hi (by omega)) rfl ?_
    refine fr_if_eq (pc := 6) (tgt := 22) d_MO_leave_6 (by decide) (fun q => absurd q (by decide)) (fun _ => ?_)
    refine fr_aload_n (pc := 9) d_MO_leave_9 rfl rfl ?_
    refine fr_iload_n (pc := 10) d_MO_leave_10 rfl rfl ?_
    refine fr_iload_n (pc := 11) d_MO_leave_11 rfl rfl ?_
    refine fr_callv_p (pc := 12) (nc := nc) (ns := ns) (N := m_MO_isMember) (rest := [.ref mo]) (as := [.int (nI j), .int (bI false)]) d_MO_leave_12 vc_MO_80 ⟨by decide, by decide, Nat.le_of_ble_eq_true rfl⟩ (Nat.le_of_ble_eq_true rfl) fm_mo (c_MO_isMember_y hA (b := false) hj (by omega) (by omega)) rfl ?_
    refine fr_if_eq (pc := 15) (tgt := 22) d_MO_leave_15 (by decide) (fun q => absurd q (by decide)) (fun _ => ?_)
    refine fr_iconst (pc := 18) (v := 1) d_MO_leave_18 (by decide) ?_
    refine fr_goto (pc := 19) (tgt := 23) d_MO_leave_19 (by decide) ?_
    refine fr_iconst (pc := 23) (v := 1) d_MO_leave_23 (by decide) ?_
    refine fr_iconst (pc := 24) (v := 1) d_MO_leave_24 (by decide) ?_
    refine fr_callv_p (pc := 25) (nc := nc) (ns := ns) (N := m_MO_goes) (rest := []) (as := [.int 1, .int 1, .int 1]) d_MO_leave_25 vc_MO_69 ⟨by decide, by decide, Nat.le_of_ble_eq_true rfl⟩ (Nat.le_of_ble_eq_true rfl) fm_mo (c_MO_goes0 hA) rfl ?_
    refine fr_if_ne (pc := 28) (tgt := 33) d_MO_leave_28 (by decide) (fun _ => ?_) (fun q => absurd q (by decide))
    refine fr_iload_n (pc := 33) d_MO_leave_33 rfl rfl ?_
    refine fr_if_eq (pc := 34) (tgt := 51) d_MO_leave_34 (by decide) (fun _ => ?_) (fun q => absurd q (by decide))
    refine fr_aload_n (pc := 51) d_MO_leave_51 rfl rfl ?_
    refine fr_get (pc := 52) (v := .ref (ar 0)) d_MO_leave_52 fg_MO_13 fm_mo rfl ?_
    refine fr_bipush (pc := 55) (v := 60) d_MO_leave_55 (by decide) ?_
    refine fr_iload_n (pc := 57) d_MO_leave_57 rfl rfl ?_
    refine fr_imulN (pc := 58) (a := 60) (b := i) d_MO_leave_58 ?_
    refine fr_iload_n (pc := 59) d_MO_leave_59 rfl rfl ?_
    refine fr_iaddN (pc := 60) (a := (60 * i)) (b := j) d_MO_leave_60 ?_
    refine fr_mzld (pc := 61) (j := 0) (k := ((60 * i) + j)) d_MO_leave_61 hA (by decide) rfl (by show ((60 * i) + j) < 1440; omega) ?_
    refine fr_st (st2 := [.int 0]) (by rw [hc.1 i j (by omega) (by omega), hh2]; rfl) ?_
    refine fr_istore (pc := 62) (L2 := [(0, .ref mo), (1, .int (nI i)), (2, .int (nI j)), (3, .int (bI false)), (4, .int 0)]) d_MO_leave_62 (by decide) rfl ?_
    refine fr_iload_n (pc := 64) d_MO_leave_64 rfl rfl ?_
    refine fr_if_eq (pc := 65) (tgt := 83) d_MO_leave_65 (by decide) (fun _ => ?_) (fun q => absurd q (by decide))
    refine fr_aload_n (pc := 83) d_MO_leave_83 rfl rfl ?_
    refine fr_get (pc := 84) (v := .ref (ar 0)) d_MO_leave_84 fg_MO_13 fm_mo rfl ?_
    refine fr_bipush (pc := 87) (v := 60) d_MO_leave_87 (by decide) ?_
    refine fr_iload_n (pc := 89) d_MO_leave_89 rfl rfl ?_
    refine fr_imulN (pc := 90) (a := 60) (b := i) d_MO_leave_90 ?_
    refine fr_iload_n (pc := 91) d_MO_leave_91 rfl rfl ?_
    refine fr_iaddN (pc := 92) (a := (60 * i)) (b := j) d_MO_leave_92 ?_
    refine fr_iconst (pc := 93) (v := 0) d_MO_leave_93 (by decide) ?_
    refine fr_mzst (pc := 94) (j := 0) (k := ((60 * i) + j)) (x := 0) d_MO_leave_94 hA (by decide) rfl (by show ((60 * i) + j) < 1440; omega) (Or.inl rfl) ?_
    refine fr_aload_n (pc := 95) d_MO_leave_95 rfl rfl ?_
    have s4 : ∀ q, 4 ≤ q → (fm_e F 0 (60 * i + j) 0) q = F q := fun q hq => by rw [fm_e_ne (by omega)]
    have s0 : ∀ x y, x < 24 → y < 60 → (fm_e F 0 (60 * i + j) 0) 0 (60 * x + y) = bI (hu x y) := fun x y hx hy => by rw [fm_e_at]; exact fm_tab60 hc.1 (by omega) (by rw [hh2]; rfl) (fun x y e => rfl) x y hx hy
    have s1 : ∀ x y, x < 24 → y < 24 → (fm_e F 0 (60 * i + j) 0) 1 (24 * x + y) = bI (hg x y) := fun x y hx hy => by rw [fm_e_ne (by decide)]; exact hc.2.1 x y hx hy
    have sB : ∀ q x, q < 4 → (fm_e F 0 (60 * i + j) 0) q x = 0 ∨ (fm_e F 0 (60 * i + j) 0) q x = 1 := fun q x hq => by
      by_cases e : q = 0
      · subst e; rw [fm_e_at]; split
        · decide
        · exact hc.2.2.2.2.2.2.2 0 x (by omega)
      · rw [fm_e_ne e]; exact hc.2.2.2.2.2.2.2 q x (by omega)
    refine fr_callV (pc := 96) (nc := nc) (ns := ns) (N := m_MO_settle) (rest := []) (as := []) d_MO_leave_96 vc_MO_88 ⟨by decide, by decide, Nat.le_of_ble_eq_true rfl⟩ (Nat.le_of_ble_eq_true rfl) fm_mo (c_MO_settle hA (F := (fm_e F 0 (60 * i + j) 0)) (hu := hu) s0 hn hus (hg := hg) hub s1 hgb (fun q => sB 2 q (by omega)) (fun q => sB 3 q (by omega)) (fun x y hx hy hno => by rw [fm_e_ne (by decide), hc.2.2.1 x y hx hy, fs_in_no hub hgb hno]; rfl)) rfl (fun v1 u h => ?_) (fun C u h => by obtain ⟨h1, -⟩ := h; cases h1)
    obtain ⟨hv, f3, h3, rfl, hf3, hh3, hx3⟩ := h
    cases hv
    refine fr_iload (pc := 99) d_MO_leave_99 rfl ?_
    exact fr_zret rfl (by first | exact bI_01 _ | exact Or.inl rfl | exact Or.inr rfl) d_MO_leave_101 ⟨rfl, _, _, _, _, rfl, fm_c_set hc s4 s0 s1 (fun q => sB 0 q (by omega)) (fun q => sB 1 q (by omega)) hf3 hh3 hx3⟩
  | true =>
    have hh2 : hg i j = false := hh
    have hj2 : j < n := hj
    refine fr_aload_n (pc := 0) d_MO_leave_0 rfl rfl ?_
    refine fr_aload_n (pc := 1) d_MO_leave_1 rfl rfl ?_
    refine fr_iload_n (pc := 2) d_MO_leave_2 rfl rfl ?_
    refine fr_callv_p (pc := 3) (nc := nc) (ns := ns) (N := m_MO_isGroup) (rest := [.ref mo]) (as := [.int (nI i)]) d_MO_leave_3 vc_MO_73 ⟨by decide, by decide, Nat.le_of_ble_eq_true rfl⟩ (Nat.le_of_ble_eq_true rfl) fm_mo (c_MO_isGroup_y hA hi (by omega)) rfl ?_
    refine fr_if_eq (pc := 6) (tgt := 22) d_MO_leave_6 (by decide) (fun q => absurd q (by decide)) (fun _ => ?_)
    refine fr_aload_n (pc := 9) d_MO_leave_9 rfl rfl ?_
    refine fr_iload_n (pc := 10) d_MO_leave_10 rfl rfl ?_
    refine fr_iload_n (pc := 11) d_MO_leave_11 rfl rfl ?_
    refine fr_callv_p (pc := 12) (nc := nc) (ns := ns) (N := m_MO_isMember) (rest := [.ref mo]) (as := [.int (nI j), .int (bI true)]) d_MO_leave_12 vc_MO_80 ⟨by decide, by decide, Nat.le_of_ble_eq_true rfl⟩ (Nat.le_of_ble_eq_true rfl) fm_mo (c_MO_isMember_y hA (b := true) hj (by omega) (by omega)) rfl ?_
    refine fr_if_eq (pc := 15) (tgt := 22) d_MO_leave_15 (by decide) (fun q => absurd q (by decide)) (fun _ => ?_)
    refine fr_iconst (pc := 18) (v := 1) d_MO_leave_18 (by decide) ?_
    refine fr_goto (pc := 19) (tgt := 23) d_MO_leave_19 (by decide) ?_
    refine fr_iconst (pc := 23) (v := 1) d_MO_leave_23 (by decide) ?_
    refine fr_iconst (pc := 24) (v := 1) d_MO_leave_24 (by decide) ?_
    refine fr_callv_p (pc := 25) (nc := nc) (ns := ns) (N := m_MO_goes) (rest := []) (as := [.int 1, .int 1, .int 1]) d_MO_leave_25 vc_MO_69 ⟨by decide, by decide, Nat.le_of_ble_eq_true rfl⟩ (Nat.le_of_ble_eq_true rfl) fm_mo (c_MO_goes0 hA) rfl ?_
    refine fr_if_ne (pc := 28) (tgt := 33) d_MO_leave_28 (by decide) (fun _ => ?_) (fun q => absurd q (by decide))
    refine fr_iload_n (pc := 33) d_MO_leave_33 rfl rfl ?_
    refine fr_if_eq (pc := 34) (tgt := 51) d_MO_leave_34 (by decide) (fun q => absurd q (by decide)) (fun _ => ?_)
    refine fr_aload_n (pc := 37) d_MO_leave_37 rfl rfl ?_
    refine fr_get (pc := 38) (v := .ref (ar 1)) d_MO_leave_38 fg_MO_17 fm_mo rfl ?_
    refine fr_bipush (pc := 41) (v := 24) d_MO_leave_41 (by decide) ?_
    refine fr_iload_n (pc := 43) d_MO_leave_43 rfl rfl ?_
    refine fr_imulN (pc := 44) (a := 24) (b := i) d_MO_leave_44 ?_
    refine fr_iload_n (pc := 45) d_MO_leave_45 rfl rfl ?_
    refine fr_iaddN (pc := 46) (a := (24 * i)) (b := j) d_MO_leave_46 ?_
    refine fr_mzld (pc := 47) (j := 1) (k := ((24 * i) + j)) d_MO_leave_47 hA (by decide) rfl (by show ((24 * i) + j) < 576; omega) ?_
    refine fr_st (st2 := [.int 0]) (by rw [hc.2.1 i j (by omega) (by omega), hh2]; rfl) ?_
    refine fr_goto (pc := 48) (tgt := 62) d_MO_leave_48 (by decide) ?_
    refine fr_istore (pc := 62) (L2 := [(0, .ref mo), (1, .int (nI i)), (2, .int (nI j)), (3, .int (bI true)), (4, .int 0)]) d_MO_leave_62 (by decide) rfl ?_
    refine fr_iload_n (pc := 64) d_MO_leave_64 rfl rfl ?_
    refine fr_if_eq (pc := 65) (tgt := 83) d_MO_leave_65 (by decide) (fun q => absurd q (by decide)) (fun _ => ?_)
    refine fr_aload_n (pc := 68) d_MO_leave_68 rfl rfl ?_
    refine fr_get (pc := 69) (v := .ref (ar 1)) d_MO_leave_69 fg_MO_17 fm_mo rfl ?_
    refine fr_bipush (pc := 72) (v := 24) d_MO_leave_72 (by decide) ?_
    refine fr_iload_n (pc := 74) d_MO_leave_74 rfl rfl ?_
    refine fr_imulN (pc := 75) (a := 24) (b := i) d_MO_leave_75 ?_
    refine fr_iload_n (pc := 76) d_MO_leave_76 rfl rfl ?_
    refine fr_iaddN (pc := 77) (a := (24 * i)) (b := j) d_MO_leave_77 ?_
    refine fr_iconst (pc := 78) (v := 0) d_MO_leave_78 (by decide) ?_
    refine fr_mzst (pc := 79) (j := 1) (k := ((24 * i) + j)) (x := 0) d_MO_leave_79 hA (by decide) rfl (by show ((24 * i) + j) < 576; omega) (Or.inl rfl) ?_
    refine fr_goto (pc := 80) (tgt := 95) d_MO_leave_80 (by decide) ?_
    refine fr_aload_n (pc := 95) d_MO_leave_95 rfl rfl ?_
    have s4 : ∀ q, 4 ≤ q → (fm_e F 1 (24 * i + j) 0) q = F q := fun q hq => by rw [fm_e_ne (by omega)]
    have s0 : ∀ x y, x < 24 → y < 60 → (fm_e F 1 (24 * i + j) 0) 0 (60 * x + y) = bI (hu x y) := fun x y hx hy => by rw [fm_e_ne (by decide)]; exact hc.1 x y hx hy
    have s1 : ∀ x y, x < 24 → y < 24 → (fm_e F 1 (24 * i + j) 0) 1 (24 * x + y) = bI (hg x y) := fun x y hx hy => by rw [fm_e_at]; exact fm_tab24 hc.2.1 (by omega) (by rw [hh2]; rfl) (fun x y e => rfl) x y hx hy
    have sB : ∀ q x, q < 4 → (fm_e F 1 (24 * i + j) 0) q x = 0 ∨ (fm_e F 1 (24 * i + j) 0) q x = 1 := fun q x hq => by
      by_cases e : q = 1
      · subst e; rw [fm_e_at]; split
        · decide
        · exact hc.2.2.2.2.2.2.2 1 x (by omega)
      · rw [fm_e_ne e]; exact hc.2.2.2.2.2.2.2 q x (by omega)
    refine fr_callV (pc := 96) (nc := nc) (ns := ns) (N := m_MO_settle) (rest := []) (as := []) d_MO_leave_96 vc_MO_88 ⟨by decide, by decide, Nat.le_of_ble_eq_true rfl⟩ (Nat.le_of_ble_eq_true rfl) fm_mo (c_MO_settle hA (F := (fm_e F 1 (24 * i + j) 0)) (hu := hu) s0 hn hus (hg := hg) hub s1 hgb (fun q => sB 2 q (by omega)) (fun q => sB 3 q (by omega)) (fun x y hx hy hno => by rw [fm_e_ne (by decide), hc.2.2.1 x y hx hy, fs_in_no hub hgb hno]; rfl)) rfl (fun v1 u h => ?_) (fun C u h => by obtain ⟨h1, -⟩ := h; cases h1)
    obtain ⟨hv, f3, h3, rfl, hf3, hh3, hx3⟩ := h
    cases hv
    refine fr_iload (pc := 99) d_MO_leave_99 rfl ?_
    exact fr_zret rfl (by first | exact bI_01 _ | exact Or.inl rfl | exact Or.inr rfl) d_MO_leave_101 ⟨rfl, _, _, _, _, rfl, fm_c_set hc s4 s0 s1 (fun q => sB 0 q (by omega)) (fun q => sB 1 q (by omega)) hf3 hh3 hx3⟩
theorem p_MO_leave_has {g : fw_G} {nc ns : Nat} {w0 : fw_W} {mo : Nat} {ar : Nat → Nat} (hA : fm_ad mo ar) {th so pl po : Int32} {us n : Nat} {F : fm_F} {hu hg : Nat → Nat → Bool} {nd : fs_D} (hc : fm_c us n hu hg nd F) (hs : fm_S us n hu hg nd) {i j : Nat} {b : Bool} (hi : i < n) (hj : j < (if b then n else us)) (hh : fs_hh hu hg b i j = true) : fw_R g m_MO_leave (fm_P g w0 mo ar (.int (bI true)) 0 (us, n, (if b then hu else gr_tg hu i j), (if b then gr_tg hg i j else hg), nd)) nc ns (fm_W g w0 mo ar (th, us, n, so, pl, po) F) 0 [(0, .ref mo), (1, .int (nI i)), (2, .int (nI j)), (3, .int (bI b))] [] := by
  obtain ⟨hok, hub, hgb⟩ := id hs
  have hus := hok.2.1
  have hn := hok.2.2.1
  cases b with
  | false =>
    have hh2 : hu i j = true := hh
    have hj2 : j < us := hj
    refine fr_aload_n (pc := 0) d_MO_leave_0 rfl rfl ?_
    refine fr_aload_n (pc := 1) d_MO_leave_1 rfl rfl ?_
    refine fr_iload_n (pc := 2) d_MO_leave_2 rfl rfl ?_
    refine fr_callv_p (pc := 3) (nc := nc) (ns := ns) (N := m_MO_isGroup) (rest := [.ref mo]) (as := [.int (nI i)]) d_MO_leave_3 vc_MO_73 ⟨by decide, by decide, Nat.le_of_ble_eq_true rfl⟩ (Nat.le_of_ble_eq_true rfl) fm_mo (c_MO_isGroup_y hA hi (by omega)) rfl ?_
    refine fr_if_eq (pc := 6) (tgt := 22) d_MO_leave_6 (by decide) (fun q => absurd q (by decide)) (fun _ => ?_)
    refine fr_aload_n (pc := 9) d_MO_leave_9 rfl rfl ?_
    refine fr_iload_n (pc := 10) d_MO_leave_10 rfl rfl ?_
    refine fr_iload_n (pc := 11) d_MO_leave_11 rfl rfl ?_
    refine fr_callv_p (pc := 12) (nc := nc) (ns := ns) (N := m_MO_isMember) (rest := [.ref mo]) (as := [.int (nI j), .int (bI false)]) d_MO_leave_12 vc_MO_80 ⟨by decide, by decide, Nat.le_of_ble_eq_true rfl⟩ (Nat.le_of_ble_eq_true rfl) fm_mo (c_MO_isMember_y hA (b := false) hj (by omega) (by omega)) rfl ?_
    refine fr_if_eq (pc := 15) (tgt := 22) d_MO_leave_15 (by decide) (fun q => absurd q (by decide)) (fun _ => ?_)
    refine fr_iconst (pc := 18) (v := 1) d_MO_leave_18 (by decide) ?_
    refine fr_goto (pc := 19) (tgt := 23) d_MO_leave_19 (by decide) ?_
    refine fr_iconst (pc := 23) (v := 1) d_MO_leave_23 (by decide) ?_
    refine fr_iconst (pc := 24) (v := 1) d_MO_leave_24 (by decide) ?_
    refine fr_callv_p (pc := 25) (nc := nc) (ns := ns) (N := m_MO_goes) (rest := []) (as := [.int 1, .int 1, .int 1]) d_MO_leave_25 vc_MO_69 ⟨by decide, by decide, Nat.le_of_ble_eq_true rfl⟩ (Nat.le_of_ble_eq_true rfl) fm_mo (c_MO_goes0 hA) rfl ?_
    refine fr_if_ne (pc := 28) (tgt := 33) d_MO_leave_28 (by decide) (fun _ => ?_) (fun q => absurd q (by decide))
    refine fr_iload_n (pc := 33) d_MO_leave_33 rfl rfl ?_
    refine fr_if_eq (pc := 34) (tgt := 51) d_MO_leave_34 (by decide) (fun _ => ?_) (fun q => absurd q (by decide))
    refine fr_aload_n (pc := 51) d_MO_leave_51 rfl rfl ?_
    refine fr_get (pc := 52) (v := .ref (ar 0)) d_MO_leave_52 fg_MO_13 fm_mo rfl ?_
    refine fr_bipush (pc := 55) (v := 60) d_MO_leave_55 (by decide) ?_
    refine fr_iload_n (pc := 57) d_MO_leave_57 rfl rfl ?_
    refine fr_imulN (pc := 58) (a := 60) (b := i) d_MO_leave_58 ?_
    refine fr_iload_n (pc := 59) d_MO_leave_59 rfl rfl ?_
    refine fr_iaddN (pc := 60) (a := (60 * i)) (b := j) d_MO_leave_60 ?_
    refine fr_mzld (pc := 61) (j := 0) (k := ((60 * i) + j)) d_MO_leave_61 hA (by decide) rfl (by show ((60 * i) + j) < 1440; omega) ?_
    refine fr_st (st2 := [.int 1]) (by rw [hc.1 i j (by omega) (by omega), hh2]; rfl) ?_
    refine fr_istore (pc := 62) (L2 := [(0, .ref mo), (1, .int (nI i)), (2, .int (nI j)), (3, .int (bI false)), (4, .int 1)]) d_MO_leave_62 (by decide) rfl ?_
    refine fr_iload_n (pc := 64) d_MO_leave_64 rfl rfl ?_
    refine fr_if_eq (pc := 65) (tgt := 83) d_MO_leave_65 (by decide) (fun _ => ?_) (fun q => absurd q (by decide))
    refine fr_aload_n (pc := 83) d_MO_leave_83 rfl rfl ?_
    refine fr_get (pc := 84) (v := .ref (ar 0)) d_MO_leave_84 fg_MO_13 fm_mo rfl ?_
    refine fr_bipush (pc := 87) (v := 60) d_MO_leave_87 (by decide) ?_
    refine fr_iload_n (pc := 89) d_MO_leave_89 rfl rfl ?_
    refine fr_imulN (pc := 90) (a := 60) (b := i) d_MO_leave_90 ?_
    refine fr_iload_n (pc := 91) d_MO_leave_91 rfl rfl ?_
    refine fr_iaddN (pc := 92) (a := (60 * i)) (b := j) d_MO_leave_92 ?_
    refine fr_iconst (pc := 93) (v := 0) d_MO_leave_93 (by decide) ?_
    refine fr_mzst (pc := 94) (j := 0) (k := ((60 * i) + j)) (x := 0) d_MO_leave_94 hA (by decide) rfl (by show ((60 * i) + j) < 1440; omega) (Or.inl rfl) ?_
    refine fr_aload_n (pc := 95) d_MO_leave_95 rfl rfl ?_
    have s4 : ∀ q, 4 ≤ q → (fm_e F 0 (60 * i + j) 0) q = F q := fun q hq => by rw [fm_e_ne (by omega)]
    have s0 : ∀ x y, x < 24 → y < 60 → (fm_e F 0 (60 * i + j) 0) 0 (60 * x + y) = bI ((gr_tg hu i j) x y) := fun x y hx hy => by rw [fm_e_at]; exact fm_tab60 hc.1 (by omega) (by rw [tg_at, hh2]; rfl) (fun x y e => tg_ne e) x y hx hy
    have s1 : ∀ x y, x < 24 → y < 24 → (fm_e F 0 (60 * i + j) 0) 1 (24 * x + y) = bI (hg x y) := fun x y hx hy => by rw [fm_e_ne (by decide)]; exact hc.2.1 x y hx hy
    have sB : ∀ q x, q < 4 → (fm_e F 0 (60 * i + j) 0) q x = 0 ∨ (fm_e F 0 (60 * i + j) 0) q x = 1 := fun q x hq => by
      by_cases e : q = 0
      · subst e; rw [fm_e_at]; split
        · decide
        · exact hc.2.2.2.2.2.2.2 0 x (by omega)
      · rw [fm_e_ne e]; exact hc.2.2.2.2.2.2.2 q x (by omega)
    refine fr_callV (pc := 96) (nc := nc) (ns := ns) (N := m_MO_settle) (rest := []) (as := []) d_MO_leave_96 vc_MO_88 ⟨by decide, by decide, Nat.le_of_ble_eq_true rfl⟩ (Nat.le_of_ble_eq_true rfl) fm_mo (c_MO_settle hA (F := (fm_e F 0 (60 * i + j) 0)) (hu := (gr_tg hu i j)) s0 hn hus (hg := hg) (tg_b hub hi hj2) s1 hgb (fun q => sB 2 q (by omega)) (fun q => sB 3 q (by omega)) (fun x y hx hy hno => by rw [fm_e_ne (by decide), hc.2.2.1 x y hx hy, fs_in_no hub hgb hno]; rfl)) rfl (fun v1 u h => ?_) (fun C u h => by obtain ⟨h1, -⟩ := h; cases h1)
    obtain ⟨hv, f3, h3, rfl, hf3, hh3, hx3⟩ := h
    cases hv
    refine fr_iload (pc := 99) d_MO_leave_99 rfl ?_
    exact fr_zret rfl (by first | exact bI_01 _ | exact Or.inl rfl | exact Or.inr rfl) d_MO_leave_101 ⟨rfl, _, _, _, _, rfl, fm_c_set hc s4 s0 s1 (fun q => sB 0 q (by omega)) (fun q => sB 1 q (by omega)) hf3 hh3 hx3⟩
  | true =>
    have hh2 : hg i j = true := hh
    have hj2 : j < n := hj
    refine fr_aload_n (pc := 0) d_MO_leave_0 rfl rfl ?_
    refine fr_aload_n (pc := 1) d_MO_leave_1 rfl rfl ?_
    refine fr_iload_n (pc := 2) d_MO_leave_2 rfl rfl ?_
    refine fr_callv_p (pc := 3) (nc := nc) (ns := ns) (N := m_MO_isGroup) (rest := [.ref mo]) (as := [.int (nI i)]) d_MO_leave_3 vc_MO_73 ⟨by decide, by decide, Nat.le_of_ble_eq_true rfl⟩ (Nat.le_of_ble_eq_true rfl) fm_mo (c_MO_isGroup_y hA hi (by omega)) rfl ?_
    refine fr_if_eq (pc := 6) (tgt := 22) d_MO_leave_6 (by decide) (fun q => absurd q (by decide)) (fun _ => ?_)
    refine fr_aload_n (pc := 9) d_MO_leave_9 rfl rfl ?_
    refine fr_iload_n (pc := 10) d_MO_leave_10 rfl rfl ?_
    refine fr_iload_n (pc := 11) d_MO_leave_11 rfl rfl ?_
    refine fr_callv_p (pc := 12) (nc := nc) (ns := ns) (N := m_MO_isMember) (rest := [.ref mo]) (as := [.int (nI j), .int (bI true)]) d_MO_leave_12 vc_MO_80 ⟨by decide, by decide, Nat.le_of_ble_eq_true rfl⟩ (Nat.le_of_ble_eq_true rfl) fm_mo (c_MO_isMember_y hA (b := true) hj (by omega) (by omega)) rfl ?_
    refine fr_if_eq (pc := 15) (tgt := 22) d_MO_leave_15 (by decide) (fun q => absurd q (by decide)) (fun _ => ?_)
    refine fr_iconst (pc := 18) (v := 1) d_MO_leave_18 (by decide) ?_
    refine fr_goto (pc := 19) (tgt := 23) d_MO_leave_19 (by decide) ?_
    refine fr_iconst (pc := 23) (v := 1) d_MO_leave_23 (by decide) ?_
    refine fr_iconst (pc := 24) (v := 1) d_MO_leave_24 (by decide) ?_
    refine fr_callv_p (pc := 25) (nc := nc) (ns := ns) (N := m_MO_goes) (rest := []) (as := [.int 1, .int 1, .int 1]) d_MO_leave_25 vc_MO_69 ⟨by decide, by decide, Nat.le_of_ble_eq_true rfl⟩ (Nat.le_of_ble_eq_true rfl) fm_mo (c_MO_goes0 hA) rfl ?_
    refine fr_if_ne (pc := 28) (tgt := 33) d_MO_leave_28 (by decide) (fun _ => ?_) (fun q => absurd q (by decide))
    refine fr_iload_n (pc := 33) d_MO_leave_33 rfl rfl ?_
    refine fr_if_eq (pc := 34) (tgt := 51) d_MO_leave_34 (by decide) (fun q => absurd q (by decide)) (fun _ => ?_)
    refine fr_aload_n (pc := 37) d_MO_leave_37 rfl rfl ?_
    refine fr_get (pc := 38) (v := .ref (ar 1)) d_MO_leave_38 fg_MO_17 fm_mo rfl ?_
    refine fr_bipush (pc := 41) (v := 24) d_MO_leave_41 (by decide) ?_
    refine fr_iload_n (pc := 43) d_MO_leave_43 rfl rfl ?_
    refine fr_imulN (pc := 44) (a := 24) (b := i) d_MO_leave_44 ?_
    refine fr_iload_n (pc := 45) d_MO_leave_45 rfl rfl ?_
    refine fr_iaddN (pc := 46) (a := (24 * i)) (b := j) d_MO_leave_46 ?_
    refine fr_mzld (pc := 47) (j := 1) (k := ((24 * i) + j)) d_MO_leave_47 hA (by decide) rfl (by show ((24 * i) + j) < 576; omega) ?_
    refine fr_st (st2 := [.int 1]) (by rw [hc.2.1 i j (by omega) (by omega), hh2]; rfl) ?_
    refine fr_goto (pc := 48) (tgt := 62) d_MO_leave_48 (by decide) ?_
    refine fr_istore (pc := 62) (L2 := [(0, .ref mo), (1, .int (nI i)), (2, .int (nI j)), (3, .int (bI true)), (4, .int 1)]) d_MO_leave_62 (by decide) rfl ?_
    refine fr_iload_n (pc := 64) d_MO_leave_64 rfl rfl ?_
    refine fr_if_eq (pc := 65) (tgt := 83) d_MO_leave_65 (by decide) (fun q => absurd q (by decide)) (fun _ => ?_)
    refine fr_aload_n (pc := 68) d_MO_leave_68 rfl rfl ?_
    refine fr_get (pc := 69) (v := .ref (ar 1)) d_MO_leave_69 fg_MO_17 fm_mo rfl ?_
    refine fr_bipush (pc := 72) (v := 24) d_MO_leave_72 (by decide) ?_
    refine fr_iload_n (pc := 74) d_MO_leave_74 rfl rfl ?_
    refine fr_imulN (pc := 75) (a := 24) (b := i) d_MO_leave_75 ?_
    refine fr_iload_n (pc := 76) d_MO_leave_76 rfl rfl ?_
    refine fr_iaddN (pc := 77) (a := (24 * i)) (b := j) d_MO_leave_77 ?_
    refine fr_iconst (pc := 78) (v := 0) d_MO_leave_78 (by decide) ?_
    refine fr_mzst (pc := 79) (j := 1) (k := ((24 * i) + j)) (x := 0) d_MO_leave_79 hA (by decide) rfl (by show ((24 * i) + j) < 576; omega) (Or.inl rfl) ?_
    refine fr_goto (pc := 80) (tgt := 95) d_MO_leave_80 (by decide) ?_
    refine fr_aload_n (pc := 95) d_MO_leave_95 rfl rfl ?_
    have s4 : ∀ q, 4 ≤ q → (fm_e F 1 (24 * i + j) 0) q = F q := fun q hq => by rw [fm_e_ne (by omega)]
    have s0 : ∀ x y, x < 24 → y < 60 → (fm_e F 1 (24 * i + j) 0) 0 (60 * x + y) = bI (hu x y) := fun x y hx hy => by rw [fm_e_ne (by decide)]; exact hc.1 x y hx hy
    have s1 : ∀ x y, x < 24 → y < 24 → (fm_e F 1 (24 * i + j) 0) 1 (24 * x + y) = bI ((gr_tg hg i j) x y) := fun x y hx hy => by rw [fm_e_at]; exact fm_tab24 hc.2.1 (by omega) (by rw [tg_at, hh2]; rfl) (fun x y e => tg_ne e) x y hx hy
    have sB : ∀ q x, q < 4 → (fm_e F 1 (24 * i + j) 0) q x = 0 ∨ (fm_e F 1 (24 * i + j) 0) q x = 1 := fun q x hq => by
      by_cases e : q = 1
      · subst e; rw [fm_e_at]; split
        · decide
        · exact hc.2.2.2.2.2.2.2 1 x (by omega)
      · rw [fm_e_ne e]; exact hc.2.2.2.2.2.2.2 q x (by omega)
    refine fr_callV (pc := 96) (nc := nc) (ns := ns) (N := m_MO_settle) (rest := []) (as := []) d_MO_leave_96 vc_MO_88 ⟨by decide, by decide, Nat.le_of_ble_eq_true rfl⟩ (Nat.le_of_ble_eq_true rfl) fm_mo (c_MO_settle hA (F := (fm_e F 1 (24 * i + j) 0)) (hu := hu) s0 hn hus (hg := (gr_tg hg i j)) hub s1 (tg_b hgb hi hj2) (fun q => sB 2 q (by omega)) (fun q => sB 3 q (by omega)) (fun x y hx hy hno => by rw [fm_e_ne (by decide), hc.2.2.1 x y hx hy, fs_in_no hub hgb hno]; rfl)) rfl (fun v1 u h => ?_) (fun C u h => by obtain ⟨h1, -⟩ := h; cases h1)
    obtain ⟨hv, f3, h3, rfl, hf3, hh3, hx3⟩ := h
    cases hv
    refine fr_iload (pc := 99) d_MO_leave_99 rfl ?_
    exact fr_zret rfl (by first | exact bI_01 _ | exact Or.inl rfl | exact Or.inr rfl) d_MO_leave_101 ⟨rfl, _, _, _, _, rfl, fm_c_set hc s4 s0 s1 (fun q => sB 0 q (by omega)) (fun q => sB 1 q (by omega)) hf3 hh3 hx3⟩

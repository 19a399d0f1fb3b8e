theorem fm_c_up {us n : Nat} {hu hg : Nat → Nat → Bool} {nd : fs_D} {F F2 : fm_F} (hc : fm_c us n hu hg nd F) {k : Nat} {N N2 : fs_N} (hk : nd k = some N) (he : N2.2.2.2.2.2 = N.2.2.2.2.2) (hs : ∀ j, j < 5 ∨ 11 ≤ j → F2 j = F j) (hm : ∀ j m, m ≠ k → F2 j m = F j m)
    (h5 : F2 5 k = bI N2.1) (h6 : F2 6 k = bI N2.2.2.2.1) (h7 : F2 7 k = bI N2.2.2.2.2.1) (h8 : F2 8 k = fs_ov N2.2.1) (h9 : F2 9 k = nI N2.2.2.1) (h10 : F2 10 k = F 10 k) : fm_c us n hu hg (va_up nd k (some N2)) F2 := by
  obtain ⟨e0, e1, e3, e4, e7, eN, eE, eB⟩ := hc
  refine ⟨fun i u h1 h2 => by rw [hs 0 (by omega)]; exact e0 i u h1 h2, fun i u h1 h2 => by rw [hs 1 (by omega)]; exact e1 i u h1 h2, fun i u h1 h2 => by rw [hs 3 (by omega)]; exact e3 i u h1 h2, fun j hj => ?_, fun j hj => ?_, fun j M hj => ?_, fun j M i E hj hE => ?_, fun j i hj => ?_⟩
  · rw [hs 4 (by omega), e4 j hj]
    by_cases e : j = k
    · subst e; rw [vu_self, hk]; rfl
    · rw [vu_ne e]
  · by_cases e : j = k
    · subst e; rw [h7, fm_sl_at vu_self]
    · rw [hm 7 j e, e7 j hj]; unfold fm_sl; rw [vu_ne e]
  · by_cases e : j = k
    · subst e; rw [vu_self] at hj; cases hj
      exact ⟨h5, h6, h8, h9, by rw [h10, (eN j N hk).2.2.2.2, he]⟩
    · rw [vu_ne e] at hj
      rw [hm 5 j e, hm 6 j e, hm 8 j e, hm 9 j e, hm 10 j e]
      exact eN j M hj
  · rw [hs 11 (by omega), hs 12 (by omega), hs 13 (by omega), hs 14 (by omega), hs 15 (by omega)]
    by_cases e : j = k
    · subst e; rw [vu_self] at hj; cases hj
      rw [he] at hE
      exact eE j N i E hk hE
    · rw [vu_ne e] at hj
      exact eE j M i E hj hE
  · by_cases q : j < 5 ∨ 11 ≤ j
    · rw [hs j q]; exact eB j i hj
    · by_cases e : i = k
      · subst e
        have q2 : j = 5 ∨ j = 6 ∨ j = 7 := by omega
        rcases q2 with rfl | rfl | rfl
        · rw [h5]; exact bI_01 _
        · rw [h6]; exact bI_01 _
        · rw [h7]; exact bI_01 _
      · rw [hm j i e]; exact eB j i hj
theorem fm_e_hs {F : fm_F} {j k : Nat} {x : Int32} (h : 5 ≤ j ∧ j < 11) (i : Nat) (hi : i < 5 ∨ 11 ≤ i) : fm_e F j k x i = F i := fm_e_ne (by omega)
theorem fm_e_hm {F : fm_F} {j k : Nat} {x : Int32} (i m : Nat) (hm : m ≠ k) : fm_e F j k x i m = F i m := by
  by_cases e : i = j
  · subst e; exact fm_e_k hm
  · rw [fm_e_ne e]
theorem fm_c_st {us n : Nat} {hu hg : Nat → Nat → Bool} {nd : fs_D} {F : fm_F} (hc : fm_c us n hu hg nd F) {k : Nat} {N : fs_N} (hk : nd k = some N) : fm_c us n hu hg (va_up nd k (some (fs_st N false))) (fm_e F 7 k 0) := by
  obtain ⟨c5, c6, c8, c9, -⟩ := hc.2.2.2.2.2.1 k N hk
  exact fm_c_up hc hk rfl (fm_e_hs (by omega)) fm_e_hm (by rw [fm_e_ne (by decide)]; exact c5) (by rw [fm_e_ne (by decide)]; exact c6) fm_e_self (by rw [fm_e_ne (by decide)]; exact c8) (by rw [fm_e_ne (by decide)]; exact c9) (by rw [fm_e_ne (by decide)])
theorem fm_S_st {us n : Nat} {hu hg : Nat → Nat → Bool} {nd : fs_D} (hs : fm_S us n hu hg nd) {k : Nat} {N : fs_N} (hk : nd k = some N) : fm_S us n hu hg (va_up nd k (some (fs_st N false))) := by
  obtain ⟨hok, h1, h2⟩ := hs
  obtain ⟨-, -, how, hlen, hes, -⟩ := hok.2.2.2.2 k N hk
  exact ⟨fs_ok_up hok hk rfl how hlen hes, h1, h2⟩
theorem fm_8 {r : Nat} (h : r < 8) : (0 : Int32) ≤ nI r ∧ nI r ≤ 7 := ⟨(ni_le (a := 0) (by omega) (by omega)).mpr (by omega), (ni_le (b := 7) (by omega) (by omega)).mpr (by omega)⟩
theorem fm_lt {r m : Nat} (hm : m < 2 ^ 31) (h : r ≤ m) : (0 : Int32) ≤ nI r ∧ nI r ≤ nI m := ⟨(ni_le (a := 0) (by omega) (by omega)).mpr (by omega), (ni_le (by omega) hm).mpr h⟩
theorem fm_no {x : Int32} {m : Nat} (hm : m + 1 < 2 ^ 31) (h : fs_no2 x (m + 1)) : ¬ ((0 : Int32) ≤ x ∧ x ≤ nI m) := by
  rintro ⟨h1, h2⟩
  have h3 : ¬ x < 0 := Int32.not_lt.mpr h1
  obtain ⟨q1, q2⟩ := ix_of h3
  rw [q2] at h2
  exact h _ (by have := (ni_le q1 (by omega)).mp h2; omega) q2
theorem p_MO_user_ok {g : fw_G} {nc ns : Nat} {w0 : fw_W} {mo : Nat} {ar : Nat → Nat} (hA : fm_ad mo ar) {th so pl po : Int32} {us n : Nat} {F : fm_F} {hu hg : Nat → Nat → Bool} {nd : fs_D} (hc : fm_c us n hu hg nd F) (hs : fm_S us n hu hg nd) (h60 : us < 60) : fw_R g m_MO_user (fm_P g w0 mo ar (.int (nI us)) 0 (us + 1, n, hu, hg, nd)) nc ns (fm_W g w0 mo ar (th, us, n, so, pl, po) F) 0 [(0, .ref mo)] [] := by
  obtain ⟨hok, hub, hgb⟩ := id hs
  have hus := hok.2.1
  have hn := hok.2.2.1
  refine fr_aload_n (pc := 0) d_MO_user_0 rfl rfl ?_
  refine fr_aload_n (pc := 1) d_MO_user_1 rfl rfl ?_
  refine fr_get (pc := 2) (v := .int (nI us)) d_MO_user_2 fg_MO_7 fm_mo rfl ?_
  refine fr_bipush (pc := 5) (v := 60) d_MO_user_5 (by decide) ?_
  refine fr_icmp_geN (pc := 7) (tgt := 14) (a := us) (b := 60) d_MO_user_7 (by decide) (by omega) (by omega) (fun q => absurd q (by omega)) (fun _ => ?_)
  refine fr_iconst (pc := 10) (v := 1) d_MO_user_10 (by decide) ?_
  refine fr_goto (pc := 11) (tgt := 15) d_MO_user_11 (by decide) ?_
  refine fr_iconst (pc := 15) (v := 1) d_MO_user_15 (by decide) ?_
  refine fr_iconst (pc := 16) (v := 1) d_MO_user_16 (by decide) ?_
  refine fr_callv_p (pc := 17) (nc := nc) (ns := ns) (N := m_MO_goes) (rest := []) (as := [.int 1, .int 1, .int 1]) d_MO_user_17 vc_MO_69 ⟨by decide, by decide, Nat.le_of_ble_eq_true rfl⟩ (Nat.le_of_ble_eq_true rfl) fm_mo (c_MO_goes0 hA) rfl ?_
  refine fr_if_ne (pc := 20) (tgt := 25) d_MO_user_20 (by decide) (fun _ => ?_) (fun q => absurd q (by decide))
  refine fr_aload_n (pc := 25) d_MO_user_25 rfl rfl ?_
  refine fr_dup (pc := 26) d_MO_user_26 rfl ?_
  refine fr_get (pc := 27) (v := .int (nI us)) d_MO_user_27 fg_MO_7 fm_mo rfl ?_
  refine fr_iconst (pc := 30) (v := 1) d_MO_user_30 (by decide) ?_
  refine fr_iaddN (pc := 31) (a := us) (b := 1) d_MO_user_31 ?_
  refine fr_mput (pc := 32) (0, (us + 1), n, so, pl, po) d_MO_user_32 fp_MO_user_7 (by decide) rfl rfl rfl ?_
  refine fr_aload_n (pc := 35) d_MO_user_35 rfl rfl ?_
  refine fr_get (pc := 36) (v := .int (nI (us + 1))) d_MO_user_36 fg_MO_7 fm_mo rfl ?_
  refine fr_iconst (pc := 39) (v := 1) d_MO_user_39 (by decide) ?_
  refine fr_isubN (pc := 40) (a := (us + 1)) (b := 1) d_MO_user_40 (by omega) ?_
  refine fr_st (st2 := [.int (nI us)]) (by rw [Nat.add_sub_cancel]) ?_
  exact fr_iret rfl d_MO_user_41 ⟨rfl, _, _, _, _, rfl, hc⟩
theorem p_MO_user_no {g : fw_G} {nc ns : Nat} {w0 : fw_W} {mo : Nat} {ar : Nat → Nat} (hA : fm_ad mo ar) {th so pl po : Int32} {us n : Nat} {F : fm_F} {hu hg : Nat → Nat → Bool} {nd : fs_D} (hc : fm_c us n hu hg nd F) (hs : fm_S us n hu hg nd) (h60 : ¬ us < 60) : fw_R g m_MO_user (fm_P g w0 mo ar (.int 0) 1 (us, n, hu, hg, nd)) nc ns (fm_W g w0 mo ar (th, us, n, so, pl, po) F) 0 [(0, .ref mo)] [] := by
  obtain ⟨hok, hub, hgb⟩ := id hs
  have hus := hok.2.1
  have hn := hok.2.2.1
  refine fr_aload_n (pc := 0) d_MO_user_0 rfl rfl ?_
  refine fr_aload_n (pc := 1) d_MO_user_1 rfl rfl ?_
  refine fr_get (pc := 2) (v := .int (nI us)) d_MO_user_2 fg_MO_7 fm_mo rfl ?_
  refine fr_bipush (pc := 5) (v := 60) d_MO_user_5 (by decide) ?_
  refine fr_icmp_geN (pc := 7) (tgt := 14) (a := us) (b := 60) d_MO_user_7 (by decide) (by omega) (by omega) (fun _ => ?_) (fun q => absurd q (by omega))
  refine fr_iconst (pc := 14) (v := 0) d_MO_user_14 (by decide) ?_
  refine fr_iconst (pc := 15) (v := 1) d_MO_user_15 (by decide) ?_
  refine fr_iconst (pc := 16) (v := 1) d_MO_user_16 (by decide) ?_
  refine fr_callv_p (pc := 17) (nc := nc) (ns := ns) (N := m_MO_goes) (rest := []) (as := [.int 0, .int 1, .int 1]) d_MO_user_17 vc_MO_69 ⟨by decide, by decide, Nat.le_of_ble_eq_true rfl⟩ (Nat.le_of_ble_eq_true rfl) fm_mo (c_MO_goes1 hA) rfl ?_
  refine fr_if_ne (pc := 20) (tgt := 25) d_MO_user_20 (by decide) (fun q => absurd q (by decide)) (fun _ => ?_)
  refine fr_iconst (pc := 23) (v := 0) d_MO_user_23 (by decide) ?_
  exact fr_iret rfl d_MO_user_24 ⟨rfl, _, _, _, _, rfl, hc⟩
theorem p_MO_group_ok {g : fw_G} {nc ns : Nat} {w0 : fw_W} {mo : Nat} {ar : Nat → Nat} (hA : fm_ad mo ar) {th so pl po : Int32} {us n : Nat} {F : fm_F} {hu hg : Nat → Nat → Bool} {nd : fs_D} (hc : fm_c us n hu hg nd F) (hs : fm_S us n hu hg nd) (h60 : n < 24) : fw_R g m_MO_group (fm_P g w0 mo ar (.int (nI n)) 0 (us, n + 1, hu, hg, nd)) nc ns (fm_W g w0 mo ar (th, us, n, so, pl, po) F) 0 [(0, .ref mo)] [] := by
  obtain ⟨hok, hub, hgb⟩ := id hs
  have hus := hok.2.1
  have hn := hok.2.2.1
  refine fr_aload_n (pc := 0) d_MO_group_0 rfl rfl ?_
  refine fr_aload_n (pc := 1) d_MO_group_1 rfl rfl ?_
  refine fr_get (pc := 2) (v := .int (nI n)) d_MO_group_2 fg_MO_66 fm_mo rfl ?_
  refine fr_bipush (pc := 5) (v := 24) d_MO_group_5 (by decide) ?_
  refine fr_icmp_geN (pc := 7) (tgt := 14) (a := n) (b := 24) d_MO_group_7 (by decide) (by omega) (by omega) (fun q => absurd q (by omega)) (fun _ => ?_)
  refine fr_iconst (pc := 10) (v := 1) d_MO_group_10 (by decide) ?_
  refine fr_goto (pc := 11) (tgt := 15) d_MO_group_11 (by decide) ?_
  refine fr_iconst (pc := 15) (v := 1) d_MO_group_15 (by decide) ?_
  refine fr_iconst (pc := 16) (v := 1) d_MO_group_16 (by decide) ?_
  refine fr_callv_p (pc := 17) (nc := nc) (ns := ns) (N := m_MO_goes) (rest := []) (as := [.int 1, .int 1, .int 1]) d_MO_group_17 vc_MO_69 ⟨by decide, by decide, Nat.le_of_ble_eq_true rfl⟩ (Nat.le_of_ble_eq_true rfl) fm_mo (c_MO_goes0 hA) rfl ?_
  refine fr_if_ne (pc := 20) (tgt := 25) d_MO_group_20 (by decide) (fun _ => ?_) (fun q => absurd q (by decide))
  refine fr_aload_n (pc := 25) d_MO_group_25 rfl rfl ?_
  refine fr_dup (pc := 26) d_MO_group_26 rfl ?_
  refine fr_get (pc := 27) (v := .int (nI n)) d_MO_group_27 fg_MO_66 fm_mo rfl ?_
  refine fr_iconst (pc := 30) (v := 1) d_MO_group_30 (by decide) ?_
  refine fr_iaddN (pc := 31) (a := n) (b := 1) d_MO_group_31 ?_
  refine fr_mput (pc := 32) (0, us, (n + 1), so, pl, po) d_MO_group_32 fp_MO_group_66 (by decide) rfl rfl rfl ?_
  refine fr_aload_n (pc := 35) d_MO_group_35 rfl rfl ?_
  refine fr_get (pc := 36) (v := .int (nI (n + 1))) d_MO_group_36 fg_MO_66 fm_mo rfl ?_
  refine fr_iconst (pc := 39) (v := 1) d_MO_group_39 (by decide) ?_
  refine fr_isubN (pc := 40) (a := (n + 1)) (b := 1) d_MO_group_40 (by omega) ?_
  refine fr_st (st2 := [.int (nI n)]) (by rw [Nat.add_sub_cancel]) ?_
  exact fr_iret rfl d_MO_group_41 ⟨rfl, _, _, _, _, rfl, hc⟩
theorem p_MO_group_no {g : fw_G} {nc ns : Nat} {w0 : fw_W} {mo : Nat} {ar : Nat → Nat} (hA : fm_ad mo ar) {th so pl po : Int32} {us n : Nat} {F : fm_F} {hu hg : Nat → Nat → Bool} {nd : fs_D} (hc : fm_c us n hu hg nd F) (hs : fm_S us n hu hg nd) (h60 : ¬ n < 24) : fw_R g m_MO_group (fm_P g w0 mo ar (.int 0) 1 (us, n, hu, hg, nd)) nc ns (fm_W g w0 mo ar (th, us, n, so, pl, po) F) 0 [(0, .ref mo)] [] := by
  obtain ⟨hok, hub, hgb⟩ := id hs
  have hus := hok.2.1
  have hn := hok.2.2.1
  refine fr_aload_n (pc := 0) d_MO_group_0 rfl rfl ?_
  refine fr_aload_n (pc := 1) d_MO_group_1 rfl rfl ?_
  refine fr_get (pc := 2) (v := .int (nI n)) d_MO_group_2 fg_MO_66 fm_mo rfl ?_
  refine fr_bipush (pc := 5) (v := 24) d_MO_group_5 (by decide) ?_
  refine fr_icmp_geN (pc := 7) (tgt := 14) (a := n) (b := 24) d_MO_group_7 (by decide) (by omega) (by omega) (fun _ => ?_) (fun q => absurd q (by omega))
  refine fr_iconst (pc := 14) (v := 0) d_MO_group_14 (by decide) ?_
  refine fr_iconst (pc := 15) (v := 1) d_MO_group_15 (by decide) ?_
  refine fr_iconst (pc := 16) (v := 1) d_MO_group_16 (by decide) ?_
  refine fr_callv_p (pc := 17) (nc := nc) (ns := ns) (N := m_MO_goes) (rest := []) (as := [.int 0, .int 1, .int 1]) d_MO_group_17 vc_MO_69 ⟨by decide, by decide, Nat.le_of_ble_eq_true rfl⟩ (Nat.le_of_ble_eq_true rfl) fm_mo (c_MO_goes1 hA) rfl ?_
  refine fr_if_ne (pc := 20) (tgt := 25) d_MO_group_20 (by decide) (fun q => absurd q (by decide)) (fun _ => ?_)
  refine fr_iconst (pc := 23) (v := 0) d_MO_group_23 (by decide) ?_
  exact fr_iret rfl d_MO_group_24 ⟨rfl, _, _, _, _, rfl, hc⟩
theorem p_MO_in_ok {g : fw_G} {nc ns : Nat} {w0 : fw_W} {mo : Nat} {ar : Nat → Nat} (hA : fm_ad mo ar) {th so pl po : Int32} {us n : Nat} {F : fm_F} {hu hg : Nat → Nat → Bool} {nd : fs_D} (hc : fm_c us n hu hg nd F) (hs : fm_S us n hu hg nd) {i u : Nat} (hi : i < n) (hu2 : u < us) : fw_R g m_MO_in (fm_P g w0 mo ar (.int (bI (fs_in hu hg i u))) 0 (us, n, hu, hg, nd)) nc ns (fm_W g w0 mo ar (th, us, n, so, pl, po) F) 0 [(0, .ref mo), (1, .int (nI i)), (2, .int (nI u))] [] := by
  obtain ⟨hok, hub, hgb⟩ := id hs
  have hus := hok.2.1
  have hn := hok.2.2.1
  refine fr_aload_n (pc := 0) d_MO_in_0 rfl rfl ?_
  refine fr_aload_n (pc := 1) d_MO_in_1 rfl rfl ?_
  refine fr_iload_n (pc := 2) d_MO_in_2 rfl rfl ?_
  refine fr_callv_p (pc := 3) (nc := nc) (ns := ns) (N := m_MO_isGroup) (rest := [.ref mo]) (as := [.int (nI i)]) d_MO_in_3 vc_MO_73 ⟨by decide, by decide, Nat.le_of_ble_eq_true rfl⟩ (Nat.le_of_ble_eq_true rfl) fm_mo (c_MO_isGroup_y hA hi (by omega)) rfl ?_
  refine fr_if_eq (pc := 6) (tgt := 21) d_MO_in_6 (by decide) (fun q => absurd q (by decide)) (fun _ => ?_)
  refine fr_aload_n (pc := 9) d_MO_in_9 rfl rfl ?_
  refine fr_iload_n (pc := 10) d_MO_in_10 rfl rfl ?_
  refine fr_callv_p (pc := 11) (nc := nc) (ns := ns) (N := m_MO_isUser) (rest := [.ref mo]) (as := [.int (nI u)]) d_MO_in_11 vc_MO_77 ⟨by decide, by decide, Nat.le_of_ble_eq_true rfl⟩ (Nat.le_of_ble_eq_true rfl) fm_mo (c_MO_isUser_y hA hu2 (by omega)) rfl ?_
  refine fr_if_eq (pc := 14) (tgt := 21) d_MO_in_14 (by decide) (fun q => absurd q (by decide)) (fun _ => ?_)
  refine fr_iconst (pc := 17) (v := 1) d_MO_in_17 (by decide) ?_
  refine fr_goto (pc := 18) (tgt := 22) d_MO_in_18 (by decide) ?_
  refine fr_iconst (pc := 22) (v := 1) d_MO_in_22 (by decide) ?_
  refine fr_iconst (pc := 23) (v := 1) d_MO_in_23 (by decide) ?_
  refine fr_callv_p (pc := 24) (nc := nc) (ns := ns) (N := m_MO_goes) (rest := []) (as := [.int 1, .int 1, .int 1]) d_MO_in_24 vc_MO_69 ⟨by decide, by decide, Nat.le_of_ble_eq_true rfl⟩ (Nat.le_of_ble_eq_true rfl) fm_mo (c_MO_goes0 hA) rfl ?_
  refine fr_if_eq (pc := 27) (tgt := 43) d_MO_in_27 (by decide) (fun q => absurd q (by decide)) (fun _ => ?_)
  refine fr_aload_n (pc := 30) d_MO_in_30 rfl rfl ?_
  refine fr_iload_n (pc := 31) d_MO_in_31 rfl rfl ?_
  refine fr_iload_n (pc := 32) d_MO_in_32 rfl rfl ?_
  refine fr_callv_p (pc := 33) (nc := nc) (ns := ns) (N := m_MO_isIn) (rest := []) (as := [.int (nI i), .int (nI u)]) d_MO_in_33 vc_MO_120 ⟨by decide, by decide, Nat.le_of_ble_eq_true rfl⟩ (Nat.le_of_ble_eq_true rfl) fm_mo (c_MO_isIn hA hc.2.2.1 (by omega) (by omega)) rfl ?_
  refine fr_if_eq (pc := 36) (tgt := 43) d_MO_in_36 (by decide) (fun z => ?_) (fun z => ?_)
  · have z2 := bI_0.mp z
    refine fr_iconst (pc := 43) (v := 0) d_MO_in_43 (by decide) ?_
    refine fr_st (st2 := [.int (bI (fs_in hu hg i u))]) (by rw [z2]; rfl) ?_
    exact fr_zret rfl (by first | exact bI_01 _ | exact Or.inl rfl | exact Or.inr rfl) d_MO_in_44 ⟨rfl, _, _, _, _, rfl, hc⟩
  · have z2 := ts_nf (fun x => z (bI_0.mpr x))
    refine fr_iconst (pc := 39) (v := 1) d_MO_in_39 (by decide) ?_
    refine fr_goto (pc := 40) (tgt := 44) d_MO_in_40 (by decide) ?_
    refine fr_st (st2 := [.int (bI (fs_in hu hg i u))]) (by rw [z2]; rfl) ?_
    exact fr_zret rfl (by first | exact bI_01 _ | exact Or.inl rfl | exact Or.inr rfl) d_MO_in_44 ⟨rfl, _, _, _, _, rfl, hc⟩
theorem p_MO_in_n1 {g : fw_G} {nc ns : Nat} {w0 : fw_W} {mo : Nat} {ar : Nat → Nat} (hA : fm_ad mo ar) {th so pl po : Int32} {us n : Nat} {F : fm_F} {hu hg : Nat → Nat → Bool} {nd : fs_D} (hc : fm_c us n hu hg nd F) (hs : fm_S us n hu hg nd) {x y : Int32} (hx : fs_no2 x n) : fw_R g m_MO_in (fm_P g w0 mo ar (.int 0) 1 (us, n, hu, hg, nd)) nc ns (fm_W g w0 mo ar (th, us, n, so, pl, po) F) 0 [(0, .ref mo), (1, .int x), (2, .int y)] [] := by
  obtain ⟨hok, hub, hgb⟩ := id hs
  have hus := hok.2.1
  have hn := hok.2.2.1
  refine fr_aload_n (pc := 0) d_MO_in_0 rfl rfl ?_
  refine fr_aload_n (pc := 1) d_MO_in_1 rfl rfl ?_
  refine fr_iload_n (pc := 2) d_MO_in_2 rfl rfl ?_
  refine fr_callv_p (pc := 3) (nc := nc) (ns := ns) (N := m_MO_isGroup) (rest := [.ref mo]) (as := [.int x]) d_MO_in_3 vc_MO_73 ⟨by decide, by decide, Nat.le_of_ble_eq_true rfl⟩ (Nat.le_of_ble_eq_true rfl) fm_mo (c_MO_isGroup_n hA hx (by omega)) rfl ?_
  refine fr_if_eq (pc := 6) (tgt := 21) d_MO_in_6 (by decide) (fun _ => ?_) (fun q => absurd q (by decide))
  refine fr_iconst (pc := 21) (v := 0) d_MO_in_21 (by decide) ?_
  refine fr_iconst (pc := 22) (v := 1) d_MO_in_22 (by decide) ?_
  refine fr_iconst (pc := 23) (v := 1) d_MO_in_23 (by decide) ?_
  refine fr_callv_p (pc := 24) (nc := nc) (ns := ns) (N := m_MO_goes) (rest := []) (as := [.int 0, .int 1, .int 1]) d_MO_in_24 vc_MO_69 ⟨by decide, by decide, Nat.le_of_ble_eq_true rfl⟩ (Nat.le_of_ble_eq_true rfl) fm_mo (c_MO_goes1 hA) rfl ?_
  refine fr_if_eq (pc := 27) (tgt := 43) d_MO_in_27 (by decide) (fun _ => ?_) (fun q => absurd q (by decide))
  refine fr_iconst (pc := 43) (v := 0) d_MO_in_43 (by decide) ?_
  exact fr_zret rfl (by first | exact bI_01 _ | exact Or.inl rfl | exact Or.inr rfl) d_MO_in_44 ⟨rfl, _, _, _, _, rfl, hc⟩
theorem p_MO_in_n2 {g : fw_G} {nc ns : Nat} {w0 : fw_W} {mo : Nat} {ar : Nat → Nat} (hA : fm_ad mo ar) {th so pl po : Int32} {us n : Nat} {F : fm_F} {hu hg : Nat → Nat → Bool} {nd : fs_D} (hc : fm_c us n hu hg nd F) (hs : fm_S us n hu hg nd) {i : Nat} {y : Int32} (hi : i < n) (hy : fs_no2 y us) : fw_R g m_MO_in (fm_P g w0 mo ar (.int 0) 1 (us, n, hu, hg, nd)) nc ns (fm_W g w0 mo ar (th, us, n, so, pl, po) F) 0 [(0, .ref mo), (1, .int (nI i)), (2, .int y)] [] := by
  obtain ⟨hok, hub, hgb⟩ := id hs
  have hus := hok.2.1
  have hn := hok.2.2.1
  refine fr_aload_n (pc := 0) d_MO_in_0 rfl rfl ?_
  refine fr_aload_n (pc := 1) d_MO_in_1 rfl rfl ?_
  refine fr_iload_n (pc := 2) d_MO_in_2 rfl rfl ?_
  refine fr_callv_p (pc := 3) (nc := nc) (ns := ns) (N := m_MO_isGroup) (rest := [.ref mo]) (as := [.int (nI i)]) d_MO_in_3 vc_MO_73 ⟨by decide, by decide, Nat.le_of_ble_eq_true rfl⟩ (Nat.le_of_ble_eq_true rfl) fm_mo (c_MO_isGroup_y hA hi (by omega)) rfl ?_
  refine fr_if_eq (pc := 6) (tgt := 21) d_MO_in_6 (by decide) (fun q => absurd q (by decide)) (fun _ => ?_)
  refine fr_aload_n (pc := 9) d_MO_in_9 rfl rfl ?_
  refine fr_iload_n (pc := 10) d_MO_in_10 rfl rfl ?_
  refine fr_callv_p (pc := 11) (nc := nc) (ns := ns) (N := m_MO_isUser) (rest := [.ref mo]) (as := [.int y]) d_MO_in_11 vc_MO_77 ⟨by decide, by decide, Nat.le_of_ble_eq_true rfl⟩ (Nat.le_of_ble_eq_true rfl) fm_mo (c_MO_isUser_n hA hy (by omega)) rfl ?_
  refine fr_if_eq (pc := 14) (tgt := 21) d_MO_in_14 (by decide) (fun _ => ?_) (fun q => absurd q (by decide))
  refine fr_iconst (pc := 21) (v := 0) d_MO_in_21 (by decide) ?_
  refine fr_iconst (pc := 22) (v := 1) d_MO_in_22 (by decide) ?_
  refine fr_iconst (pc := 23) (v := 1) d_MO_in_23 (by decide) ?_
  refine fr_callv_p (pc := 24) (nc := nc) (ns := ns) (N := m_MO_goes) (rest := []) (as := [.int 0, .int 1, .int 1]) d_MO_in_24 vc_MO_69 ⟨by decide, by decide, Nat.le_of_ble_eq_true rfl⟩ (Nat.le_of_ble_eq_true rfl) fm_mo (c_MO_goes1 hA) rfl ?_
  refine fr_if_eq (pc := 27) (tgt := 43) d_MO_in_27 (by decide) (fun _ => ?_) (fun q => absurd q (by decide))
  refine fr_iconst (pc := 43) (v := 0) d_MO_in_43 (by decide) ?_
  exact fr_zret rfl (by first | exact bI_01 _ | exact Or.inl rfl | exact Or.inr rfl) d_MO_in_44 ⟨rfl, _, _, _, _, rfl, hc⟩
theorem p_MO_owner_ok {g : fw_G} {nc ns : Nat} {w0 : fw_W} {mo : Nat} {ar : Nat → Nat} (hA : fm_ad mo ar) {th so pl po : Int32} {us n : Nat} {F : fm_F} {hu hg : Nat → Nat → Bool} {nd : fs_D} (hc : fm_c us n hu hg nd F) (hs : fm_S us n hu hg nd) {k : Nat} {N : fs_N} (hk : nd k = some N) {u : Nat} (hu2 : u < us) : fw_R g m_MO_owner (fm_P g w0 mo ar (.int (nI N.2.2.1)) 0 (us, n, hu, hg, va_up nd k (some (N.1, N.2.1, u, N.2.2.2.1, N.2.2.2.2.1, N.2.2.2.2.2)))) nc ns (fm_W g w0 mo ar (th, us, n, so, pl, po) F) 0 [(0, .ref mo), (1, .int (nI k)), (2, .int (nI u))] [] := by
  obtain ⟨hok, hub, hgb⟩ := id hs
  have hus := hok.2.1
  have hn := hok.2.2.1
  have hk150 := fm_k hok hk
  obtain ⟨c5, c6, c8, c9, c10⟩ := hc.2.2.2.2.2.1 k N hk
  obtain ⟨-, hk0, how, hlen, hes, hch, hdep⟩ := hok.2.2.2.2 k N hk
  have c7 := hc.2.2.2.2.1 k hk150
  rw [fm_sl_at hk] at c7
  refine fr_aload_n (pc := 0) d_MO_owner_0 rfl rfl ?_
  refine fr_aload_n (pc := 1) d_MO_owner_1 rfl rfl ?_
  refine fr_iload_n (pc := 2) d_MO_owner_2 rfl rfl ?_
  refine fr_callv_p (pc := 3) (nc := nc) (ns := ns) (N := m_MO_isNode) (rest := [.ref mo]) (as := [.int (nI k)]) d_MO_owner_3 vc_MO_91 ⟨by decide, by decide, Nat.le_of_ble_eq_true rfl⟩ (Nat.le_of_ble_eq_true rfl) fm_mo (c_MO_isNode_y hA hk150 (fm_th hc hok hk)) rfl ?_
  refine fr_if_eq (pc := 6) (tgt := 21) d_MO_owner_6 (by decide) (fun q => absurd q (by decide)) (fun _ => ?_)
  refine fr_aload_n (pc := 9) d_MO_owner_9 rfl rfl ?_
  refine fr_iload_n (pc := 10) d_MO_owner_10 rfl rfl ?_
  refine fr_callv_p (pc := 11) (nc := nc) (ns := ns) (N := m_MO_isUser) (rest := [.ref mo]) (as := [.int (nI u)]) d_MO_owner_11 vc_MO_77 ⟨by decide, by decide, Nat.le_of_ble_eq_true rfl⟩ (Nat.le_of_ble_eq_true rfl) fm_mo (c_MO_isUser_y hA hu2 (by omega)) rfl ?_
  refine fr_if_eq (pc := 14) (tgt := 21) d_MO_owner_14 (by decide) (fun q => absurd q (by decide)) (fun _ => ?_)
  refine fr_iconst (pc := 17) (v := 1) d_MO_owner_17 (by decide) ?_
  refine fr_goto (pc := 18) (tgt := 22) d_MO_owner_18 (by decide) ?_
  refine fr_iconst (pc := 22) (v := 1) d_MO_owner_22 (by decide) ?_
  refine fr_iconst (pc := 23) (v := 1) d_MO_owner_23 (by decide) ?_
  refine fr_callv_p (pc := 24) (nc := nc) (ns := ns) (N := m_MO_goes) (rest := []) (as := [.int 1, .int 1, .int 1]) d_MO_owner_24 vc_MO_69 ⟨by decide, by decide, Nat.le_of_ble_eq_true rfl⟩ (Nat.le_of_ble_eq_true rfl) fm_mo (c_MO_goes0 hA) rfl ?_
  refine fr_if_ne (pc := 27) (tgt := 32) d_MO_owner_27 (by decide) (fun _ => ?_) (fun q => absurd q (by decide))
  refine fr_aload_n (pc := 32) d_MO_owner_32 rfl rfl ?_
  refine fr_get (pc := 33) (v := .ref (ar 9)) d_MO_owner_33 fg_MO_42 fm_mo rfl ?_
  refine fr_iload_n (pc := 36) d_MO_owner_36 rfl rfl ?_
  refine fr_mild (pc := 37) (j := 9) (k := k) d_MO_owner_37 hA (by decide) rfl (by show k < 150; omega) ?_
  refine fr_st (st2 := [.int (nI N.2.2.1)]) (by rw [c9]) ?_
  refine fr_istore_n (pc := 38) (L2 := [(0, .ref mo), (1, .int (nI k)), (2, .int (nI u)), (3, .int (nI N.2.2.1))]) d_MO_owner_38 rfl (by decide) rfl ?_
  refine fr_aload_n (pc := 39) d_MO_owner_39 rfl rfl ?_
  refine fr_get (pc := 40) (v := .ref (ar 9)) d_MO_owner_40 fg_MO_42 fm_mo rfl ?_
  refine fr_iload_n (pc := 43) d_MO_owner_43 rfl rfl ?_
  refine fr_iload_n (pc := 44) d_MO_owner_44 rfl rfl ?_
  refine fr_mist (pc := 45) (j := 9) (k := k) (x := (nI u)) d_MO_owner_45 hA (by decide) rfl (by show k < 150; omega) ?_
  refine fr_iload_n (pc := 46) d_MO_owner_46 rfl rfl ?_
  exact fr_iret rfl d_MO_owner_47 ⟨rfl, _, _, _, _, rfl, fm_c_up hc (N2 := (N.1, N.2.1, u, N.2.2.2.1, N.2.2.2.2.1, N.2.2.2.2.2)) hk rfl (fm_e_hs (by omega)) fm_e_hm (by rw [fm_e_ne (by decide)]; exact c5) (by rw [fm_e_ne (by decide)]; exact c6) (by rw [fm_e_ne (by decide)]; exact c7) (by rw [fm_e_ne (by decide)]; exact c8) fm_e_self (by rw [fm_e_ne (by decide)])⟩
theorem p_MO_owner_n1 {g : fw_G} {nc ns : Nat} {w0 : fw_W} {mo : Nat} {ar : Nat → Nat} (hA : fm_ad mo ar) {th so pl po : Int32} {us n : Nat} {F : fm_F} {hu hg : Nat → Nat → Bool} {nd : fs_D} (hc : fm_c us n hu hg nd F) (hs : fm_S us n hu hg nd) {x y : Int32} (hx : ∀ k, x = nI k → nd k = none) : fw_R g m_MO_owner (fm_P g w0 mo ar (.int 0) 1 (us, n, hu, hg, nd)) nc ns (fm_W g w0 mo ar (th, us, n, so, pl, po) F) 0 [(0, .ref mo), (1, .int x), (2, .int y)] [] := by
  obtain ⟨hok, hub, hgb⟩ := id hs
  have hus := hok.2.1
  have hn := hok.2.2.1
  refine fr_aload_n (pc := 0) d_MO_owner_0 rfl rfl ?_
  refine fr_aload_n (pc := 1) d_MO_owner_1 rfl rfl ?_
  refine fr_iload_n (pc := 2) d_MO_owner_2 rfl rfl ?_
  refine fr_callv_p (pc := 3) (nc := nc) (ns := ns) (N := m_MO_isNode) (rest := [.ref mo]) (as := [.int x]) d_MO_owner_3 vc_MO_91 ⟨by decide, by decide, Nat.le_of_ble_eq_true rfl⟩ (Nat.le_of_ble_eq_true rfl) fm_mo (c_MO_isNode_n hA (fun k hk e => fm_nt hc hk (hx k e))) rfl ?_
  refine fr_if_eq (pc := 6) (tgt := 21) d_MO_owner_6 (by decide) (fun _ => ?_) (fun q => absurd q (by decide))
  refine fr_iconst (pc := 21) (v := 0) d_MO_owner_21 (by decide) ?_
  refine fr_iconst (pc := 22) (v := 1) d_MO_owner_22 (by decide) ?_
  refine fr_iconst (pc := 23) (v := 1) d_MO_owner_23 (by decide) ?_
  refine fr_callv_p (pc := 24) (nc := nc) (ns := ns) (N := m_MO_goes) (rest := []) (as := [.int 0, .int 1, .int 1]) d_MO_owner_24 vc_MO_69 ⟨by decide, by decide, Nat.le_of_ble_eq_true rfl⟩ (Nat.le_of_ble_eq_true rfl) fm_mo (c_MO_goes1 hA) rfl ?_
  refine fr_if_ne (pc := 27) (tgt := 32) d_MO_owner_27 (by decide) (fun q => absurd q (by decide)) (fun _ => ?_)
  refine fr_iconst (pc := 30) (v := 0) d_MO_owner_30 (by decide) ?_
  exact fr_iret rfl d_MO_owner_31 ⟨rfl, _, _, _, _, rfl, hc⟩
theorem p_MO_owner_n2 {g : fw_G} {nc ns : Nat} {w0 : fw_W} {mo : Nat} {ar : Nat → Nat} (hA : fm_ad mo ar) {th so pl po : Int32} {us n : Nat} {F : fm_F} {hu hg : Nat → Nat → Bool} {nd : fs_D} (hc : fm_c us n hu hg nd F) (hs : fm_S us n hu hg nd) {k : Nat} {N : fs_N} (hk : nd k = some N) {y : Int32} (hy : fs_no2 y us) : fw_R g m_MO_owner (fm_P g w0 mo ar (.int 0) 1 (us, n, hu, hg, nd)) nc ns (fm_W g w0 mo ar (th, us, n, so, pl, po) F) 0 [(0, .ref mo), (1, .int (nI k)), (2, .int y)] [] := by
  obtain ⟨hok, hub, hgb⟩ := id hs
  have hus := hok.2.1
  have hn := hok.2.2.1
  have hk150 := fm_k hok hk
  obtain ⟨c5, c6, c8, c9, c10⟩ := hc.2.2.2.2.2.1 k N hk
  obtain ⟨-, hk0, how, hlen, hes, hch, hdep⟩ := hok.2.2.2.2 k N hk
  refine fr_aload_n (pc := 0) d_MO_owner_0 rfl rfl ?_
  refine fr_aload_n (pc := 1) d_MO_owner_1 rfl rfl ?_
  refine fr_iload_n (pc := 2) d_MO_owner_2 rfl rfl ?_
  refine fr_callv_p (pc := 3) (nc := nc) (ns := ns) (N := m_MO_isNode) (rest := [.ref mo]) (as := [.int (nI k)]) d_MO_owner_3 vc_MO_91 ⟨by decide, by decide, Nat.le_of_ble_eq_true rfl⟩ (Nat.le_of_ble_eq_true rfl) fm_mo (c_MO_isNode_y hA hk150 (fm_th hc hok hk)) rfl ?_
  refine fr_if_eq (pc := 6) (tgt := 21) d_MO_owner_6 (by decide) (fun q => absurd q (by decide)) (fun _ => ?_)
  refine fr_aload_n (pc := 9) d_MO_owner_9 rfl rfl ?_
  refine fr_iload_n (pc := 10) d_MO_owner_10 rfl rfl ?_
  refine fr_callv_p (pc := 11) (nc := nc) (ns := ns) (N := m_MO_isUser) (rest := [.ref mo]) (as := [.int y]) d_MO_owner_11 vc_MO_77 ⟨by decide, by decide, Nat.le_of_ble_eq_true rfl⟩ (Nat.le_of_ble_eq_true rfl) fm_mo (c_MO_isUser_n hA hy (by omega)) rfl ?_
  refine fr_if_eq (pc := 14) (tgt := 21) d_MO_owner_14 (by decide) (fun _ => ?_) (fun q => absurd q (by decide))
  refine fr_iconst (pc := 21) (v := 0) d_MO_owner_21 (by decide) ?_
  refine fr_iconst (pc := 22) (v := 1) d_MO_owner_22 (by decide) ?_
  refine fr_iconst (pc := 23) (v := 1) d_MO_owner_23 (by decide) ?_
  refine fr_callv_p (pc := 24) (nc := nc) (ns := ns) (N := m_MO_goes) (rest := []) (as := [.int 0, .int 1, .int 1]) d_MO_owner_24 vc_MO_69 ⟨by decide, by decide, Nat.le_of_ble_eq_true rfl⟩ (Nat.le_of_ble_eq_true rfl) fm_mo (c_MO_goes1 hA) rfl ?_
  refine fr_if_ne (pc := 27) (tgt := 32) d_MO_owner_27 (by decide) (fun q => absurd q (by decide)) (fun _ => ?_)
  refine fr_iconst (pc := 30) (v := 0) d_MO_owner_30 (by decide) ?_
  exact fr_iret rfl d_MO_owner_31 ⟨rfl, _, _, _, _, rfl, hc⟩
theorem p_MO_rights_ok {g : fw_G} {nc ns : Nat} {w0 : fw_W} {mo : Nat} {ar : Nat → Nat} (hA : fm_ad mo ar) {th so pl po : Int32} {us n : Nat} {F : fm_F} {hu hg : Nat → Nat → Bool} {nd : fs_D} (hc : fm_c us n hu hg nd F) (hs : fm_S us n hu hg nd) {k : Nat} {N : fs_N} (hk : nd k = some N) {u : Nat} (hu2 : u < us) : fw_R g m_MO_rights (fm_P g w0 mo ar (.int (fs_ri (fun r => (fs_has hu hg (va_up nd k (some (fs_st N false))) (fs_st N false) k r u)) 8 0 0)) 0 (us, n, hu, hg, (va_up nd k (some (fs_st N false))))) nc ns (fm_W g w0 mo ar (th, us, n, so, pl, po) F) 0 [(0, .ref mo), (1, .int (nI u)), (2, .int (nI k))] [] := by
  obtain ⟨hok, hub, hgb⟩ := id hs
  have hus := hok.2.1
  have hn := hok.2.2.1
  have hk150 := fm_k hok hk
  obtain ⟨c5, c6, c8, c9, c10⟩ := hc.2.2.2.2.2.1 k N hk
  obtain ⟨-, hk0, how, hlen, hes, hch, hdep⟩ := hok.2.2.2.2 k N hk
  have hc2 := fm_c_st hc hk
  have hs2 := fm_S_st hs hk
  refine fr_aload_n (pc := 0) d_MO_rights_0 rfl rfl ?_
  refine fr_aload_n (pc := 1) d_MO_rights_1 rfl rfl ?_
  refine fr_iload_n (pc := 2) d_MO_rights_2 rfl rfl ?_
  refine fr_callv_p (pc := 3) (nc := nc) (ns := ns) (N := m_MO_isUser) (rest := [.ref mo]) (as := [.int (nI u)]) d_MO_rights_3 vc_MO_77 ⟨by decide, by decide, Nat.le_of_ble_eq_true rfl⟩ (Nat.le_of_ble_eq_true rfl) fm_mo (c_MO_isUser_y hA hu2 (by omega)) rfl ?_
  refine fr_if_eq (pc := 6) (tgt := 21) d_MO_rights_6 (by decide) (fun q => absurd q (by decide)) (fun _ => ?_)
  refine fr_aload_n (pc := 9) d_MO_rights_9 rfl rfl ?_
  refine fr_iload_n (pc := 10) d_MO_rights_10 rfl rfl ?_
  refine fr_callv_p (pc := 11) (nc := nc) (ns := ns) (N := m_MO_isNode) (rest := [.ref mo]) (as := [.int (nI k)]) d_MO_rights_11 vc_MO_91 ⟨by decide, by decide, Nat.le_of_ble_eq_true rfl⟩ (Nat.le_of_ble_eq_true rfl) fm_mo (c_MO_isNode_y hA hk150 (fm_th hc hok hk)) rfl ?_
  refine fr_if_eq (pc := 14) (tgt := 21) d_MO_rights_14 (by decide) (fun q => absurd q (by decide)) (fun _ => ?_)
  refine fr_iconst (pc := 17) (v := 1) d_MO_rights_17 (by decide) ?_
  refine fr_goto (pc := 18) (tgt := 22) d_MO_rights_18 (by decide) ?_
  refine fr_iconst (pc := 22) (v := 1) d_MO_rights_22 (by decide) ?_
  refine fr_iconst (pc := 23) (v := 1) d_MO_rights_23 (by decide) ?_
  refine fr_callv_p (pc := 24) (nc := nc) (ns := ns) (N := m_MO_goes) (rest := []) (as := [.int 1, .int 1, .int 1]) d_MO_rights_24 vc_MO_69 ⟨by decide, by decide, Nat.le_of_ble_eq_true rfl⟩ (Nat.le_of_ble_eq_true rfl) fm_mo (c_MO_goes0 hA) rfl ?_
  refine fr_if_ne (pc := 27) (tgt := 32) d_MO_rights_27 (by decide) (fun _ => ?_) (fun q => absurd q (by decide))
  refine fr_aload_n (pc := 32) d_MO_rights_32 rfl rfl ?_
  refine fr_get (pc := 33) (v := .ref (ar 7)) d_MO_rights_33 fg_MO_35 fm_mo rfl ?_
  refine fr_iload_n (pc := 36) d_MO_rights_36 rfl rfl ?_
  refine fr_iconst (pc := 37) (v := 0) d_MO_rights_37 (by decide) ?_
  refine fr_mzst (pc := 38) (j := 7) (k := k) (x := 0) d_MO_rights_38 hA (by decide) rfl (by show k < 150; omega) (Or.inl rfl) ?_
  refine fr_aload_n (pc := 39) d_MO_rights_39 rfl rfl ?_
  refine fr_iload_n (pc := 40) d_MO_rights_40 rfl rfl ?_
  refine fr_iload_n (pc := 41) d_MO_rights_41 rfl rfl ?_
  refine fr_callV (pc := 42) (nc := nc) (ns := ns) (N := m_MO_rightsOf) (rest := []) (as := [.int (nI u), .int (nI k)]) d_MO_rights_42 vc_MO_145 ⟨by decide, by decide, Nat.le_of_ble_eq_true rfl⟩ (Nat.le_of_ble_eq_true rfl) fm_mo (c_MO_rightsOf hA hc2 hs2.1 vu_self hu2) rfl (fun v1 u h => ?_) (fun C u h => by obtain ⟨h1, -⟩ := h; cases h1)
  obtain ⟨h1, so2, pl2, po2, rfl⟩ := h
  cases h1
  exact fr_iret rfl d_MO_rights_45 ⟨rfl, _, _, _, _, rfl, hc2⟩
theorem p_MO_rights_n1 {g : fw_G} {nc ns : Nat} {w0 : fw_W} {mo : Nat} {ar : Nat → Nat} (hA : fm_ad mo ar) {th so pl po : Int32} {us n : Nat} {F : fm_F} {hu hg : Nat → Nat → Bool} {nd : fs_D} (hc : fm_c us n hu hg nd F) (hs : fm_S us n hu hg nd) {x y : Int32} (hx : fs_no2 x us) : fw_R g m_MO_rights (fm_P g w0 mo ar (.int 0) 1 (us, n, hu, hg, nd)) nc ns (fm_W g w0 mo ar (th, us, n, so, pl, po) F) 0 [(0, .ref mo), (1, .int x), (2, .int y)] [] := by
  obtain ⟨hok, hub, hgb⟩ := id hs
  have hus := hok.2.1
  have hn := hok.2.2.1
  refine fr_aload_n (pc := 0) d_MO_rights_0 rfl rfl ?_
  refine fr_aload_n (pc := 1) d_MO_rights_1 rfl rfl ?_
  refine fr_iload_n (pc := 2) d_MO_rights_2 rfl rfl ?_
  refine fr_callv_p (pc := 3) (nc := nc) (ns := ns) (N := m_MO_isUser) (rest := [.ref mo]) (as := [.int x]) d_MO_rights_3 vc_MO_77 ⟨by decide, by decide, Nat.le_of_ble_eq_true rfl⟩ (Nat.le_of_ble_eq_true rfl) fm_mo (c_MO_isUser_n hA hx (by omega)) rfl ?_
  refine fr_if_eq (pc := 6) (tgt := 21) d_MO_rights_6 (by decide) (fun _ => ?_) (fun q => absurd q (by decide))
  refine fr_iconst (pc := 21) (v := 0) d_MO_rights_21 (by decide) ?_
  refine fr_iconst (pc := 22) (v := 1) d_MO_rights_22 (by decide) ?_
  refine fr_iconst (pc := 23) (v := 1) d_MO_rights_23 (by decide) ?_
  refine fr_callv_p (pc := 24) (nc := nc) (ns := ns) (N := m_MO_goes) (rest := []) (as := [.int 0, .int 1, .int 1]) d_MO_rights_24 vc_MO_69 ⟨by decide, by decide, Nat.le_of_ble_eq_true rfl⟩ (Nat.le_of_ble_eq_true rfl) fm_mo (c_MO_goes1 hA) rfl ?_
  refine fr_if_ne (pc := 27) (tgt := 32) d_MO_rights_27 (by decide) (fun q => absurd q (by decide)) (fun _ => ?_)
  refine fr_iconst (pc := 30) (v := 0) d_MO_rights_30 (by decide) ?_
  exact fr_iret rfl d_MO_rights_31 ⟨rfl, _, _, _, _, rfl, hc⟩
theorem p_MO_rights_n2 {g : fw_G} {nc ns : Nat} {w0 : fw_W} {mo : Nat} {ar : Nat → Nat} (hA : fm_ad mo ar) {th so pl po : Int32} {us n : Nat} {F : fm_F} {hu hg : Nat → Nat → Bool} {nd : fs_D} (hc : fm_c us n hu hg nd F) (hs : fm_S us n hu hg nd) {u : Nat} {x : Int32} (hu2 : u < us) (hx : ∀ k, x = nI k → nd k = none) : fw_R g m_MO_rights (fm_P g w0 mo ar (.int 0) 1 (us, n, hu, hg, nd)) nc ns (fm_W g w0 mo ar (th, us, n, so, pl, po) F) 0 [(0, .ref mo), (1, .int (nI u)), (2, .int x)] [] := by
  obtain ⟨hok, hub, hgb⟩ := id hs
  have hus := hok.2.1
  have hn := hok.2.2.1
  refine fr_aload_n (pc := 0) d_MO_rights_0 rfl rfl ?_
  refine fr_aload_n (pc := 1) d_MO_rights_1 rfl rfl ?_
  refine fr_iload_n (pc := 2) d_MO_rights_2 rfl rfl ?_
  refine fr_callv_p (pc := 3) (nc := nc) (ns := ns) (N := m_MO_isUser) (rest := [.ref mo]) (as := [.int (nI u)]) d_MO_rights_3 vc_MO_77 ⟨by decide, by decide, Nat.le_of_ble_eq_true rfl⟩ (Nat.le_of_ble_eq_true rfl) fm_mo (c_MO_isUser_y hA hu2 (by omega)) rfl ?_
  refine fr_if_eq (pc := 6) (tgt := 21) d_MO_rights_6 (by decide) (fun q => absurd q (by decide)) (fun _ => ?_)
  refine fr_aload_n (pc := 9) d_MO_rights_9 rfl rfl ?_
  refine fr_iload_n (pc := 10) d_MO_rights_10 rfl rfl ?_
  refine fr_callv_p (pc := 11) (nc := nc) (ns := ns) (N := m_MO_isNode) (rest := [.ref mo]) (as := [.int x]) d_MO_rights_11 vc_MO_91 ⟨by decide, by decide, Nat.le_of_ble_eq_true rfl⟩ (Nat.le_of_ble_eq_true rfl) fm_mo (c_MO_isNode_n hA (fun k hk e => fm_nt hc hk (hx k e))) rfl ?_
  refine fr_if_eq (pc := 14) (tgt := 21) d_MO_rights_14 (by decide) (fun _ => ?_) (fun q => absurd q (by decide))
  refine fr_iconst (pc := 21) (v := 0) d_MO_rights_21 (by decide) ?_
  refine fr_iconst (pc := 22) (v := 1) d_MO_rights_22 (by decide) ?_
  refine fr_iconst (pc := 23) (v := 1) d_MO_rights_23 (by decide) ?_
  refine fr_callv_p (pc := 24) (nc := nc) (ns := ns) (N := m_MO_goes) (rest := []) (as := [.int 0, .int 1, .int 1]) d_MO_rights_24 vc_MO_69 ⟨by decide, by decide, Nat.le_of_ble_eq_true rfl⟩ (Nat.le_of_ble_eq_true rfl) fm_mo (c_MO_goes1 hA) rfl ?_
  refine fr_if_ne (pc := 27) (tgt := 32) d_MO_rights_27 (by decide) (fun q => absurd q (by decide)) (fun _ => ?_)
  refine fr_iconst (pc := 30) (v := 0) d_MO_rights_30 (by decide) ?_
  exact fr_iret rfl d_MO_rights_31 ⟨rfl, _, _, _, _, rfl, hc⟩
theorem p_MO_explain_ok {g : fw_G} {nc ns : Nat} {w0 : fw_W} {mo : Nat} {ar : Nat → Nat} (hA : fm_ad mo ar) {th so pl po : Int32} {us n : Nat} {F : fm_F} {hu hg : Nat → Nat → Bool} {nd : fs_D} (hc : fm_c us n hu hg nd F) (hs : fm_S us n hu hg nd) {k : Nat} {N : fs_N} (hk : nd k = some N) {u r f : Nat} (hu2 : u < us) (hr8 : r < 8) (hf : f < 3) : fw_R g m_MO_explain (fm_P g w0 mo ar (.int (if r = 7 ∧ N.2.2.1 = u then (if f = 0 then 0 else if f = 1 then nI k else -1) else fs_xx (fs_dc (va_up nd k (some (fs_st N false))) (fs_in hu hg) (fs_st N false) k r u (fs_ls (va_up nd k (some (fs_st N false))) k)) f)) 0 (us, n, hu, hg, (va_up nd k (some (fs_st N false))))) nc ns (fm_W g w0 mo ar (th, us, n, so, pl, po) F) 0 [(0, .ref mo), (1, .int (nI u)), (2, .int (nI k)), (3, .int (nI r)), (4, .int (nI f))] [] := by
  obtain ⟨hok, hub, hgb⟩ := id hs
  have hus := hok.2.1
  have hn := hok.2.2.1
  have hk150 := fm_k hok hk
  obtain ⟨c5, c6, c8, c9, c10⟩ := hc.2.2.2.2.2.1 k N hk
  obtain ⟨-, hk0, how, hlen, hes, hch, hdep⟩ := hok.2.2.2.2 k N hk
  have hc2 := fm_c_st hc hk
  have hs2 := fm_S_st hs hk
  refine fr_aload_n (pc := 0) d_MO_explain_0 rfl rfl ?_
  refine fr_aload_n (pc := 1) d_MO_explain_1 rfl rfl ?_
  refine fr_iload_n (pc := 2) d_MO_explain_2 rfl rfl ?_
  refine fr_callv_p (pc := 3) (nc := nc) (ns := ns) (N := m_MO_isUser) (rest := [.ref mo]) (as := [.int (nI u)]) d_MO_explain_3 vc_MO_77 ⟨by decide, by decide, Nat.le_of_ble_eq_true rfl⟩ (Nat.le_of_ble_eq_true rfl) fm_mo (c_MO_isUser_y hA hu2 (by omega)) rfl ?_
  refine fr_if_eq (pc := 6) (tgt := 21) d_MO_explain_6 (by decide) (fun q => absurd q (by decide)) (fun _ => ?_)
  refine fr_aload_n (pc := 9) d_MO_explain_9 rfl rfl ?_
  refine fr_iload_n (pc := 10) d_MO_explain_10 rfl rfl ?_
  refine fr_callv_p (pc := 11) (nc := nc) (ns := ns) (N := m_MO_isNode) (rest := [.ref mo]) (as := [.int (nI k)]) d_MO_explain_11 vc_MO_91 ⟨by decide, by decide, Nat.le_of_ble_eq_true rfl⟩ (Nat.le_of_ble_eq_true rfl) fm_mo (c_MO_isNode_y hA hk150 (fm_th hc hok hk)) rfl ?_
  refine fr_if_eq (pc := 14) (tgt := 21) d_MO_explain_14 (by decide) (fun q => absurd q (by decide)) (fun _ => ?_)
  refine fr_iconst (pc := 17) (v := 1) d_MO_explain_17 (by decide) ?_
  refine fr_goto (pc := 18) (tgt := 22) d_MO_explain_18 (by decide) ?_
  refine fr_iload_n (pc := 22) d_MO_explain_22 rfl rfl ?_
  refine fr_iconst (pc := 23) (v := 0) d_MO_explain_23 (by decide) ?_
  refine fr_bipush (pc := 24) (v := 7) d_MO_explain_24 (by decide) ?_
  refine fr_calls_p (pc := 26) (nc := nc) (ns := ns) (N := m_MO_within) (rest := [.int 1, .ref mo]) (as := [.int (nI r), .int 0, .int 7]) d_MO_explain_26 k_MO_within lk_MO_112 sc_MO_within np_MO_within ⟨by decide, by decide, Nat.le_of_ble_eq_true rfl⟩ (Nat.le_of_ble_eq_true rfl) (c_MO_within_y (fm_8 hr8).1 (fm_8 hr8).2) rfl ?_
  refine fr_if_eq (pc := 29) (tgt := 46) d_MO_explain_29 (by decide) (fun q => absurd q (by decide)) (fun _ => ?_)
  refine fr_iload (pc := 32) d_MO_explain_32 rfl ?_
  refine fr_iconst (pc := 34) (v := 0) d_MO_explain_34 (by decide) ?_
  refine fr_iconst (pc := 35) (v := 2) d_MO_explain_35 (by decide) ?_
  refine fr_calls_p (pc := 36) (nc := nc) (ns := ns) (N := m_MO_within) (rest := [.int 1, .ref mo]) (as := [.int (nI f), .int 0, .int 2]) d_MO_explain_36 k_MO_within lk_MO_112 sc_MO_within np_MO_within ⟨by decide, by decide, Nat.le_of_ble_eq_true rfl⟩ (Nat.le_of_ble_eq_true rfl) (c_MO_within_y (fm_lt (m := 2) (by omega) (by omega)).1 (fm_lt (m := 2) (by omega) (by omega)).2) rfl ?_
  refine fr_if_eq (pc := 39) (tgt := 46) d_MO_explain_39 (by decide) (fun q => absurd q (by decide)) (fun _ => ?_)
  refine fr_iconst (pc := 42) (v := 1) d_MO_explain_42 (by decide) ?_
  refine fr_goto (pc := 43) (tgt := 47) d_MO_explain_43 (by decide) ?_
  refine fr_iconst (pc := 47) (v := 1) d_MO_explain_47 (by decide) ?_
  refine fr_callv_p (pc := 48) (nc := nc) (ns := ns) (N := m_MO_goes) (rest := []) (as := [.int 1, .int 1, .int 1]) d_MO_explain_48 vc_MO_69 ⟨by decide, by decide, Nat.le_of_ble_eq_true rfl⟩ (Nat.le_of_ble_eq_true rfl) fm_mo (c_MO_goes0 hA) rfl ?_
  refine fr_if_ne (pc := 51) (tgt := 56) d_MO_explain_51 (by decide) (fun _ => ?_) (fun q => absurd q (by decide))
  refine fr_aload_n (pc := 56) d_MO_explain_56 rfl rfl ?_
  refine fr_get (pc := 57) (v := .ref (ar 7)) d_MO_explain_57 fg_MO_35 fm_mo rfl ?_
  refine fr_iload_n (pc := 60) d_MO_explain_60 rfl rfl ?_
  refine fr_iconst (pc := 61) (v := 0) d_MO_explain_61 (by decide) ?_
  refine fr_mzst (pc := 62) (j := 7) (k := k) (x := 0) d_MO_explain_62 hA (by decide) rfl (by show k < 150; omega) (Or.inl rfl) ?_
  refine fr_aload_n (pc := 63) d_MO_explain_63 rfl rfl ?_
  refine fr_iload_n (pc := 64) d_MO_explain_64 rfl rfl ?_
  refine fr_iload_n (pc := 65) d_MO_explain_65 rfl rfl ?_
  refine fr_iload_n (pc := 66) d_MO_explain_66 rfl rfl ?_
  refine fr_callv_p (pc := 67) (nc := nc) (ns := ns) (N := m_MO_decide) (rest := []) (as := [.int (nI u), .int (nI k), .int (nI r)]) d_MO_explain_67 vc_MO_142 ⟨by decide, by decide, Nat.le_of_ble_eq_true rfl⟩ (Nat.le_of_ble_eq_true rfl) fm_mo (c_MO_decide hA hc2 hs2.1 vu_self hu2 hr8) rfl ?_
  refine fr_istore (pc := 70) (L2 := [(0, .ref mo), (1, .int (nI u)), (2, .int (nI k)), (3, .int (nI r)), (4, .int (nI f)), (5, .int (bI (fs_has hu hg (va_up nd k (some (fs_st N false))) (fs_st N false) k r u)))]) d_MO_explain_70 (by decide) rfl ?_
  refine fr_iload (pc := 72) d_MO_explain_72 rfl ?_
  have hf3 : f = 0 ∨ f = 1 ∨ f = 2 := by omega
  rcases hf3 with rfl | rfl | rfl
  · refine fr_if_ne (pc := 74) (tgt := 84) d_MO_explain_74 (by decide) (fun q => absurd q (by decide)) (fun _ => ?_)
    refine fr_aload_n (pc := 77) d_MO_explain_77 rfl rfl ?_
    refine fr_get (pc := 78) (v := .int (fm_xx hu hg (va_up nd k (some (fs_st N false))) (fs_st N false) k r u 0)) d_MO_explain_78 fg_MO_135 fm_mo rfl ?_
    refine fr_goto (pc := 81) (tgt := 101) d_MO_explain_81 (by decide) ?_
    exact fr_iret rfl d_MO_explain_101 ⟨rfl, _, _, _, _, rfl, hc2⟩
  · refine fr_if_ne (pc := 74) (tgt := 84) d_MO_explain_74 (by decide) (fun _ => ?_) (fun q => absurd q (by decide))
    refine fr_iload (pc := 84) d_MO_explain_84 rfl ?_
    refine fr_iconst (pc := 86) (v := 1) d_MO_explain_86 (by decide) ?_
    refine fr_icmp_ne (pc := 87) (tgt := 97) d_MO_explain_87 (by decide) (fun q => absurd q (by decide)) (fun _ => ?_)
    refine fr_aload_n (pc := 90) d_MO_explain_90 rfl rfl ?_
    refine fr_get (pc := 91) (v := .int (fm_xx hu hg (va_up nd k (some (fs_st N false))) (fs_st N false) k r u 1)) d_MO_explain_91 fg_MO_129 fm_mo rfl ?_
    refine fr_goto (pc := 94) (tgt := 101) d_MO_explain_94 (by decide) ?_
    exact fr_iret rfl d_MO_explain_101 ⟨rfl, _, _, _, _, rfl, hc2⟩
  · refine fr_if_ne (pc := 74) (tgt := 84) d_MO_explain_74 (by decide) (fun _ => ?_) (fun q => absurd q (by decide))
    refine fr_iload (pc := 84) d_MO_explain_84 rfl ?_
    refine fr_iconst (pc := 86) (v := 1) d_MO_explain_86 (by decide) ?_
    refine fr_icmp_ne (pc := 87) (tgt := 97) d_MO_explain_87 (by decide) (fun _ => ?_) (fun q => absurd q (by decide))
    refine fr_aload_n (pc := 97) d_MO_explain_97 rfl rfl ?_
    refine fr_get (pc := 98) (v := .int (fm_xx hu hg (va_up nd k (some (fs_st N false))) (fs_st N false) k r u 2)) d_MO_explain_98 fg_MO_132 fm_mo rfl ?_
    exact fr_iret rfl d_MO_explain_101 ⟨rfl, _, _, _, _, rfl, hc2⟩
theorem p_MO_explain_n1 {g : fw_G} {nc ns : Nat} {w0 : fw_W} {mo : Nat} {ar : Nat → Nat} (hA : fm_ad mo ar) {th so pl po : Int32} {us n : Nat} {F : fm_F} {hu hg : Nat → Nat → Bool} {nd : fs_D} (hc : fm_c us n hu hg nd F) (hs : fm_S us n hu hg nd) {x y z v : Int32} (hx : fs_no2 x us) : fw_R g m_MO_explain (fm_P g w0 mo ar (.int 0) 1 (us, n, hu, hg, nd)) nc ns (fm_W g w0 mo ar (th, us, n, so, pl, po) F) 0 [(0, .ref mo), (1, .int x), (2, .int y), (3, .int z), (4, .int v)] [] := by
  obtain ⟨hok, hub, hgb⟩ := id hs
  have hus := hok.2.1
  have hn := hok.2.2.1
  refine fr_aload_n (pc := 0) d_MO_explain_0 rfl rfl ?_
  refine fr_aload_n (pc := 1) d_MO_explain_1 rfl rfl ?_
  refine fr_iload_n (pc := 2) d_MO_explain_2 rfl rfl ?_
  refine fr_callv_p (pc := 3) (nc := nc) (ns := ns) (N := m_MO_isUser) (rest := [.ref mo]) (as := [.int x]) d_MO_explain_3 vc_MO_77 ⟨by decide, by decide, Nat.le_of_ble_eq_true rfl⟩ (Nat.le_of_ble_eq_true rfl) fm_mo (c_MO_isUser_n hA hx (by omega)) rfl ?_
  refine fr_if_eq (pc := 6) (tgt := 21) d_MO_explain_6 (by decide) (fun _ => ?_) (fun q => absurd q (by decide))
  refine fr_iconst (pc := 21) (v := 0) d_MO_explain_21 (by decide) ?_
  refine fr_iload_n (pc := 22) d_MO_explain_22 rfl rfl ?_
  refine fr_iconst (pc := 23) (v := 0) d_MO_explain_23 (by decide) ?_
  refine fr_bipush (pc := 24) (v := 7) d_MO_explain_24 (by decide) ?_
  refine fr_calls_p (pc := 26) (nc := nc) (ns := ns) (N := m_MO_within) (rest := [.int 0, .ref mo]) (as := [.int z, .int 0, .int 7]) d_MO_explain_26 k_MO_within lk_MO_112 sc_MO_within np_MO_within ⟨by decide, by decide, Nat.le_of_ble_eq_true rfl⟩ (Nat.le_of_ble_eq_true rfl) c_MO_within rfl ?_
  refine fr_if_eq (pc := 29) (tgt := 46) d_MO_explain_29 (by decide) (fun b29 => ?_) (fun b29 => ?_)
  · refine fr_iconst (pc := 46) (v := 0) d_MO_explain_46 (by decide) ?_
    refine fr_iconst (pc := 47) (v := 1) d_MO_explain_47 (by decide) ?_
    refine fr_callv_p (pc := 48) (nc := nc) (ns := ns) (N := m_MO_goes) (rest := []) (as := [.int 0, .int 0, .int 1]) d_MO_explain_48 vc_MO_69 ⟨by decide, by decide, Nat.le_of_ble_eq_true rfl⟩ (Nat.le_of_ble_eq_true rfl) fm_mo (c_MO_goes1 hA) rfl ?_
    refine fr_if_ne (pc := 51) (tgt := 56) d_MO_explain_51 (by decide) (fun q => absurd q (by decide)) (fun _ => ?_)
    refine fr_iconst (pc := 54) (v := 0) d_MO_explain_54 (by decide) ?_
    exact fr_iret rfl d_MO_explain_55 ⟨rfl, _, _, _, _, rfl, hc⟩
  · refine fr_iload (pc := 32) d_MO_explain_32 rfl ?_
    refine fr_iconst (pc := 34) (v := 0) d_MO_explain_34 (by decide) ?_
    refine fr_iconst (pc := 35) (v := 2) d_MO_explain_35 (by decide) ?_
    refine fr_calls_p (pc := 36) (nc := nc) (ns := ns) (N := m_MO_within) (rest := [.int 0, .ref mo]) (as := [.int v, .int 0, .int 2]) d_MO_explain_36 k_MO_within lk_MO_112 sc_MO_within np_MO_within ⟨by decide, by decide, Nat.le_of_ble_eq_true rfl⟩ (Nat.le_of_ble_eq_true rfl) c_MO_within rfl ?_
    refine fr_if_eq (pc := 39) (tgt := 46) d_MO_explain_39 (by decide) (fun b39 => ?_) (fun b39 => ?_)
    · refine fr_iconst (pc := 46) (v := 0) d_MO_explain_46 (by decide) ?_
      refine fr_iconst (pc := 47) (v := 1) d_MO_explain_47 (by decide) ?_
      refine fr_callv_p (pc := 48) (nc := nc) (ns := ns) (N := m_MO_goes) (rest := []) (as := [.int 0, .int 0, .int 1]) d_MO_explain_48 vc_MO_69 ⟨by decide, by decide, Nat.le_of_ble_eq_true rfl⟩ (Nat.le_of_ble_eq_true rfl) fm_mo (c_MO_goes1 hA) rfl ?_
      refine fr_if_ne (pc := 51) (tgt := 56) d_MO_explain_51 (by decide) (fun q => absurd q (by decide)) (fun _ => ?_)
      refine fr_iconst (pc := 54) (v := 0) d_MO_explain_54 (by decide) ?_
      exact fr_iret rfl d_MO_explain_55 ⟨rfl, _, _, _, _, rfl, hc⟩
    · refine fr_iconst (pc := 42) (v := 1) d_MO_explain_42 (by decide) ?_
      refine fr_goto (pc := 43) (tgt := 47) d_MO_explain_43 (by decide) ?_
      refine fr_iconst (pc := 47) (v := 1) d_MO_explain_47 (by decide) ?_
      refine fr_callv_p (pc := 48) (nc := nc) (ns := ns) (N := m_MO_goes) (rest := []) (as := [.int 0, .int 1, .int 1]) d_MO_explain_48 vc_MO_69 ⟨by decide, by decide, Nat.le_of_ble_eq_true rfl⟩ (Nat.le_of_ble_eq_true rfl) fm_mo (c_MO_goes1 hA) rfl ?_
      refine fr_if_ne (pc := 51) (tgt := 56) d_MO_explain_51 (by decide) (fun q => absurd q (by decide)) (fun _ => ?_)
      refine fr_iconst (pc := 54) (v := 0) d_MO_explain_54 (by decide) ?_
      exact fr_iret rfl d_MO_explain_55 ⟨rfl, _, _, _, _, rfl, hc⟩
theorem p_MO_explain_n2 {g : fw_G} {nc ns : Nat} {w0 : fw_W} {mo : Nat} {ar : Nat → Nat} (hA : fm_ad mo ar) {th so pl po : Int32} {us n : Nat} {F : fm_F} {hu hg : Nat → Nat → Bool} {nd : fs_D} (hc : fm_c us n hu hg nd F) (hs : fm_S us n hu hg nd) {u : Nat} {x z v : Int32} (hu2 : u < us) (hx : ∀ k, x = nI k → nd k = none) : fw_R g m_MO_explain (fm_P g w0 mo ar (.int 0) 1 (us, n, hu, hg, nd)) nc ns (fm_W g w0 mo ar (th, us, n, so, pl, po) F) 0 [(0, .ref mo), (1, .int (nI u)), (2, .int x), (3, .int z), (4, .int v)] [] := by
  obtain ⟨hok, hub, hgb⟩ := id hs
  have hus := hok.2.1
  have hn := hok.2.2.1
  refine fr_aload_n (pc := 0) d_MO_explain_0 rfl rfl ?_
  refine fr_aload_n (pc := 1) d_MO_explain_1 rfl rfl ?_
  refine fr_iload_n (pc := 2) d_MO_explain_2 rfl rfl ?_
  refine fr_callv_p (pc := 3) (nc := nc) (ns := ns) (N := m_MO_isUser) (rest := [.ref mo]) (as := [.int (nI u)]) d_MO_explain_3 vc_MO_77 ⟨by decide, by decide, Nat.le_of_ble_eq_true rfl⟩ (Nat.le_of_ble_eq_true rfl) fm_mo (c_MO_isUser_y hA hu2 (by omega)) rfl ?_
  refine fr_if_eq (pc := 6) (tgt := 21) d_MO_explain_6 (by decide) (fun q => absurd q (by decide)) (fun _ => ?_)
  refine fr_aload_n (pc := 9) d_MO_explain_9 rfl rfl ?_
  refine fr_iload_n (pc := 10) d_MO_explain_10 rfl rfl ?_
  refine fr_callv_p (pc := 11) (nc := nc) (ns := ns) (N := m_MO_isNode) (rest := [.ref mo]) (as := [.int x]) d_MO_explain_11 vc_MO_91 ⟨by decide, by decide, Nat.le_of_ble_eq_true rfl⟩ (Nat.le_of_ble_eq_true rfl) fm_mo (c_MO_isNode_n hA (fun k hk e => fm_nt hc hk (hx k e))) rfl ?_
  refine fr_if_eq (pc := 14) (tgt := 21) d_MO_explain_14 (by decide) (fun _ => ?_) (fun q => absurd q (by decide))
  refine fr_iconst (pc := 21) (v := 0) d_MO_explain_21 (by decide) ?_
  refine fr_iload_n (pc := 22) d_MO_explain_22 rfl rfl ?_
  refine fr_iconst (pc := 23) (v := 0) d_MO_explain_23 (by decide) ?_
  refine fr_bipush (pc := 24) (v := 7) d_MO_explain_24 (by decide) ?_
  refine fr_calls_p (pc := 26) (nc := nc) (ns := ns) (N := m_MO_within) (rest := [.int 0, .ref mo]) (as := [.int z, .int 0, .int 7]) d_MO_explain_26 k_MO_within lk_MO_112 sc_MO_within np_MO_within ⟨by decide, by decide, Nat.le_of_ble_eq_true rfl⟩ (Nat.le_of_ble_eq_true rfl) c_MO_within rfl ?_
  refine fr_if_eq (pc := 29) (tgt := 46) d_MO_explain_29 (by decide) (fun b29 => ?_) (fun b29 => ?_)
  · refine fr_iconst (pc := 46) (v := 0) d_MO_explain_46 (by decide) ?_
    refine fr_iconst (pc := 47) (v := 1) d_MO_explain_47 (by decide) ?_
    refine fr_callv_p (pc := 48) (nc := nc) (ns := ns) (N := m_MO_goes) (rest := []) (as := [.int 0, .int 0, .int 1]) d_MO_explain_48 vc_MO_69 ⟨by decide, by decide, Nat.le_of_ble_eq_true rfl⟩ (Nat.le_of_ble_eq_true rfl) fm_mo (c_MO_goes1 hA) rfl ?_
    refine fr_if_ne (pc := 51) (tgt := 56) d_MO_explain_51 (by decide) (fun q => absurd q (by decide)) (fun _ => ?_)
    refine fr_iconst (pc := 54) (v := 0) d_MO_explain_54 (by decide) ?_
    exact fr_iret rfl d_MO_explain_55 ⟨rfl, _, _, _, _, rfl, hc⟩
  · refine fr_iload (pc := 32) d_MO_explain_32 rfl ?_
    refine fr_iconst (pc := 34) (v := 0) d_MO_explain_34 (by decide) ?_
    refine fr_iconst (pc := 35) (v := 2) d_MO_explain_35 (by decide) ?_
    refine fr_calls_p (pc := 36) (nc := nc) (ns := ns) (N := m_MO_within) (rest := [.int 0, .ref mo]) (as := [.int v, .int 0, .int 2]) d_MO_explain_36 k_MO_within lk_MO_112 sc_MO_within np_MO_within ⟨by decide, by decide, Nat.le_of_ble_eq_true rfl⟩ (Nat.le_of_ble_eq_true rfl) c_MO_within rfl ?_
    refine fr_if_eq (pc := 39) (tgt := 46) d_MO_explain_39 (by decide) (fun b39 => ?_) (fun b39 => ?_)
    · refine fr_iconst (pc := 46) (v := 0) d_MO_explain_46 (by decide) ?_
      refine fr_iconst (pc := 47) (v := 1) d_MO_explain_47 (by decide) ?_
      refine fr_callv_p (pc := 48) (nc := nc) (ns := ns) (N := m_MO_goes) (rest := []) (as := [.int 0, .int 0, .int 1]) d_MO_explain_48 vc_MO_69 ⟨by decide, by decide, Nat.le_of_ble_eq_true rfl⟩ (Nat.le_of_ble_eq_true rfl) fm_mo (c_MO_goes1 hA) rfl ?_
      refine fr_if_ne (pc := 51) (tgt := 56) d_MO_explain_51 (by decide) (fun q => absurd q (by decide)) (fun _ => ?_)
      refine fr_iconst (pc := 54) (v := 0) d_MO_explain_54 (by decide) ?_
      exact fr_iret rfl d_MO_explain_55 ⟨rfl, _, _, _, _, rfl, hc⟩
    · refine fr_iconst (pc := 42) (v := 1) d_MO_explain_42 (by decide) ?_
      refine fr_goto (pc := 43) (tgt := 47) d_MO_explain_43 (by decide) ?_
      refine fr_iconst (pc := 47) (v := 1) d_MO_explain_47 (by decide) ?_
      refine fr_callv_p (pc := 48) (nc := nc) (ns := ns) (N := m_MO_goes) (rest := []) (as := [.int 0, .int 1, .int 1]) d_MO_explain_48 vc_MO_69 ⟨by decide, by decide, Nat.le_of_ble_eq_true rfl⟩ (Nat.le_of_ble_eq_true rfl) fm_mo (c_MO_goes1 hA) rfl ?_
      refine fr_if_ne (pc := 51) (tgt := 56) d_MO_explain_51 (by decide) (fun q => absurd q (by decide)) (fun _ => ?_)
      refine fr_iconst (pc := 54) (v := 0) d_MO_explain_54 (by decide) ?_
      exact fr_iret rfl d_MO_explain_55 ⟨rfl, _, _, _, _, rfl, hc⟩
theorem p_MO_explain_n3 {g : fw_G} {nc ns : Nat} {w0 : fw_W} {mo : Nat} {ar : Nat → Nat} (hA : fm_ad mo ar) {th so pl po : Int32} {us n : Nat} {F : fm_F} {hu hg : Nat → Nat → Bool} {nd : fs_D} (hc : fm_c us n hu hg nd F) (hs : fm_S us n hu hg nd) {k : Nat} {N : fs_N} (hk : nd k = some N) {u : Nat} {z v : Int32} (hu2 : u < us) (hz : fs_no2 z 8) : fw_R g m_MO_explain (fm_P g w0 mo ar (.int 0) 2 (us, n, hu, hg, nd)) nc ns (fm_W g w0 mo ar (th, us, n, so, pl, po) F) 0 [(0, .ref mo), (1, .int (nI u)), (2, .int (nI k)), (3, .int z), (4, .int v)] [] := by
  obtain ⟨hok, hub, hgb⟩ := id hs
  have hus := hok.2.1
  have hn := hok.2.2.1
  have hk150 := fm_k hok hk
  obtain ⟨c5, c6, c8, c9, c10⟩ := hc.2.2.2.2.2.1 k N hk
  obtain ⟨-, hk0, how, hlen, hes, hch, hdep⟩ := hok.2.2.2.2 k N hk
  refine fr_aload_n (pc := 0) d_MO_explain_0 rfl rfl ?_
  refine fr_aload_n (pc := 1) d_MO_explain_1 rfl rfl ?_
  refine fr_iload_n (pc := 2) d_MO_explain_2 rfl rfl ?_
  refine fr_callv_p (pc := 3) (nc := nc) (ns := ns) (N := m_MO_isUser) (rest := [.ref mo]) (as := [.int (nI u)]) d_MO_explain_3 vc_MO_77 ⟨by decide, by decide, Nat.le_of_ble_eq_true rfl⟩ (Nat.le_of_ble_eq_true rfl) fm_mo (c_MO_isUser_y hA hu2 (by omega)) rfl ?_
  refine fr_if_eq (pc := 6) (tgt := 21) d_MO_explain_6 (by decide) (fun q => absurd q (by decide)) (fun _ => ?_)
  refine fr_aload_n (pc := 9) d_MO_explain_9 rfl rfl ?_
  refine fr_iload_n (pc := 10) d_MO_explain_10 rfl rfl ?_
  refine fr_callv_p (pc := 11) (nc := nc) (ns := ns) (N := m_MO_isNode) (rest := [.ref mo]) (as := [.int (nI k)]) d_MO_explain_11 vc_MO_91 ⟨by decide, by decide, Nat.le_of_ble_eq_true rfl⟩ (Nat.le_of_ble_eq_true rfl) fm_mo (c_MO_isNode_y hA hk150 (fm_th hc hok hk)) rfl ?_
  refine fr_if_eq (pc := 14) (tgt := 21) d_MO_explain_14 (by decide) (fun q => absurd q (by decide)) (fun _ => ?_)
  refine fr_iconst (pc := 17) (v := 1) d_MO_explain_17 (by decide) ?_
  refine fr_goto (pc := 18) (tgt := 22) d_MO_explain_18 (by decide) ?_
  refine fr_iload_n (pc := 22) d_MO_explain_22 rfl rfl ?_
  refine fr_iconst (pc := 23) (v := 0) d_MO_explain_23 (by decide) ?_
  refine fr_bipush (pc := 24) (v := 7) d_MO_explain_24 (by decide) ?_
  refine fr_calls_p (pc := 26) (nc := nc) (ns := ns) (N := m_MO_within) (rest := [.int 1, .ref mo]) (as := [.int z, .int 0, .int 7]) d_MO_explain_26 k_MO_within lk_MO_112 sc_MO_within np_MO_within ⟨by decide, by decide, Nat.le_of_ble_eq_true rfl⟩ (Nat.le_of_ble_eq_true rfl) (c_MO_within_n (fm_no (m := 7) (by omega) hz)) rfl ?_
  refine fr_if_eq (pc := 29) (tgt := 46) d_MO_explain_29 (by decide) (fun _ => ?_) (fun q => absurd q (by decide))
  refine fr_iconst (pc := 46) (v := 0) d_MO_explain_46 (by decide) ?_
  refine fr_iconst (pc := 47) (v := 1) d_MO_explain_47 (by decide) ?_
  refine fr_callv_p (pc := 48) (nc := nc) (ns := ns) (N := m_MO_goes) (rest := []) (as := [.int 1, .int 0, .int 1]) d_MO_explain_48 vc_MO_69 ⟨by decide, by decide, Nat.le_of_ble_eq_true rfl⟩ (Nat.le_of_ble_eq_true rfl) fm_mo (c_MO_goes2 hA) rfl ?_
  refine fr_if_ne (pc := 51) (tgt := 56) d_MO_explain_51 (by decide) (fun q => absurd q (by decide)) (fun _ => ?_)
  refine fr_iconst (pc := 54) (v := 0) d_MO_explain_54 (by decide) ?_
  exact fr_iret rfl d_MO_explain_55 ⟨rfl, _, _, _, _, rfl, hc⟩
theorem p_MO_explain_n4 {g : fw_G} {nc ns : Nat} {w0 : fw_W} {mo : Nat} {ar : Nat → Nat} (hA : fm_ad mo ar) {th so pl po : Int32} {us n : Nat} {F : fm_F} {hu hg : Nat → Nat → Bool} {nd : fs_D} (hc : fm_c us n hu hg nd F) (hs : fm_S us n hu hg nd) {k : Nat} {N : fs_N} (hk : nd k = some N) {u r : Nat} {v : Int32} (hu2 : u < us) (hr8 : r < 8) (hv : fs_no2 v 3) : fw_R g m_MO_explain (fm_P g w0 mo ar (.int 0) 2 (us, n, hu, hg, nd)) nc ns (fm_W g w0 mo ar (th, us, n, so, pl, po) F) 0 [(0, .ref mo), (1, .int (nI u)), (2, .int (nI k)), (3, .int (nI r)), (4, .int v)] [] := by
  obtain ⟨hok, hub, hgb⟩ := id hs
  have hus := hok.2.1
  have hn := hok.2.2.1
  have hk150 := fm_k hok hk
  obtain ⟨c5, c6, c8, c9, c10⟩ := hc.2.2.2.2.2.1 k N hk
  obtain ⟨-, hk0, how, hlen, hes, hch, hdep⟩ := hok.2.2.2.2 k N hk
  refine fr_aload_n (pc := 0) d_MO_explain_0 rfl rfl ?_
  refine fr_aload_n (pc := 1) d_MO_explain_1 rfl rfl ?_
  refine fr_iload_n (pc := 2) d_MO_explain_2 rfl rfl ?_
  refine fr_callv_p (pc := 3) (nc := nc) (ns := ns) (N := m_MO_isUser) (rest := [.ref mo]) (as := [.int (nI u)]) d_MO_explain_3 vc_MO_77 ⟨by decide, by decide, Nat.le_of_ble_eq_true rfl⟩ (Nat.le_of_ble_eq_true rfl) fm_mo (c_MO_isUser_y hA hu2 (by omega)) rfl ?_
  refine fr_if_eq (pc := 6) (tgt := 21) d_MO_explain_6 (by decide) (fun q => absurd q (by decide)) (fun _ => ?_)
  refine fr_aload_n (pc := 9) d_MO_explain_9 rfl rfl ?_
  refine fr_iload_n (pc := 10) d_MO_explain_10 rfl rfl ?_
  refine fr_callv_p (pc := 11) (nc := nc) (ns := ns) (N := m_MO_isNode) (rest := [.ref mo]) (as := [.int (nI k)]) d_MO_explain_11 vc_MO_91 ⟨by decide, by decide, Nat.le_of_ble_eq_true rfl⟩ (Nat.le_of_ble_eq_true rfl) fm_mo (c_MO_isNode_y hA hk150 (fm_th hc hok hk)) rfl ?_
  refine fr_if_eq (pc := 14) (tgt := 21) d_MO_explain_14 (by decide) (fun q => absurd q (by decide)) (fun _ => ?_)
  refine fr_iconst (pc := 17) (v := 1) d_MO_explain_17 (by decide) ?_
  refine fr_goto (pc := 18) (tgt := 22) d_MO_explain_18 (by decide) ?_
  refine fr_iload_n (pc := 22) d_MO_explain_22 rfl rfl ?_
  refine fr_iconst (pc := 23) (v := 0) d_MO_explain_23 (by decide) ?_
  refine fr_bipush (pc := 24) (v := 7) d_MO_explain_24 (by decide) ?_
  refine fr_calls_p (pc := 26) (nc := nc) (ns := ns) (N := m_MO_within) (rest := [.int 1, .ref mo]) (as := [.int (nI r), .int 0, .int 7]) d_MO_explain_26 k_MO_within lk_MO_112 sc_MO_within np_MO_within ⟨by decide, by decide, Nat.le_of_ble_eq_true rfl⟩ (Nat.le_of_ble_eq_true rfl) (c_MO_within_y (fm_8 hr8).1 (fm_8 hr8).2) rfl ?_
  refine fr_if_eq (pc := 29) (tgt := 46) d_MO_explain_29 (by decide) (fun q => absurd q (by decide)) (fun _ => ?_)
  refine fr_iload (pc := 32) d_MO_explain_32 rfl ?_
  refine fr_iconst (pc := 34) (v := 0) d_MO_explain_34 (by decide) ?_
  refine fr_iconst (pc := 35) (v := 2) d_MO_explain_35 (by decide) ?_
  refine fr_calls_p (pc := 36) (nc := nc) (ns := ns) (N := m_MO_within) (rest := [.int 1, .ref mo]) (as := [.int v, .int 0, .int 2]) d_MO_explain_36 k_MO_within lk_MO_112 sc_MO_within np_MO_within ⟨by decide, by decide, Nat.le_of_ble_eq_true rfl⟩ (Nat.le_of_ble_eq_true rfl) (c_MO_within_n (fm_no (m := 2) (by omega) hv)) rfl ?_
  refine fr_if_eq (pc := 39) (tgt := 46) d_MO_explain_39 (by decide) (fun _ => ?_) (fun q => absurd q (by decide))
  refine fr_iconst (pc := 46) (v := 0) d_MO_explain_46 (by decide) ?_
  refine fr_iconst (pc := 47) (v := 1) d_MO_explain_47 (by decide) ?_
  refine fr_callv_p (pc := 48) (nc := nc) (ns := ns) (N := m_MO_goes) (rest := []) (as := [.int 1, .int 0, .int 1]) d_MO_explain_48 vc_MO_69 ⟨by decide, by decide, Nat.le_of_ble_eq_true rfl⟩ (Nat.le_of_ble_eq_true rfl) fm_mo (c_MO_goes2 hA) rfl ?_
  refine fr_if_ne (pc := 51) (tgt := 56) d_MO_explain_51 (by decide) (fun q => absurd q (by decide)) (fun _ => ?_)
  refine fr_iconst (pc := 54) (v := 0) d_MO_explain_54 (by decide) ?_
  exact fr_iret rfl d_MO_explain_55 ⟨rfl, _, _, _, _, rfl, hc⟩
theorem fm_c_rm {us n : Nat} {hu hg : Nat → Nat → Bool} {nd : fs_D} {F : fm_F} (hc : fm_c us n hu hg nd F) {k : Nat} : fm_c us n hu hg (va_up nd k none) (fm_e (fm_e F 4 k 0) 7 k 0) := by
  obtain ⟨e0, e1, e3, e4, e7, eN, eE, eB⟩ := hc
  refine ⟨fun i u h1 h2 => by rw [fm_e_ne (by decide), fm_e_ne (by decide)]; exact e0 i u h1 h2, fun i u h1 h2 => by rw [fm_e_ne (by decide), fm_e_ne (by decide)]; exact e1 i u h1 h2, fun i u h1 h2 => by rw [fm_e_ne (by decide), fm_e_ne (by decide)]; exact e3 i u h1 h2, fun j hj => ?_, fun j hj => ?_, fun j M hj => ?_, fun j M i E hj hE => ?_, fun j i hj => ?_⟩
  · rw [fm_e_ne (by decide), fm_e_at]
    by_cases e : j = k
    · subst e; rw [if_pos rfl, vu_self]; rfl
    · rw [if_neg e, vu_ne e]; exact e4 j hj
  · rw [fm_e_at]
    by_cases e : j = k
    · subst e; rw [if_pos rfl, fm_sl_no vu_self]; rfl
    · rw [if_neg e, fm_e_ne (by decide), e7 j hj]; unfold fm_sl; rw [vu_ne e]
  · have e : j ≠ k := fun z => by subst z; rw [vu_self] at hj; cases hj
    rw [vu_ne e] at hj
    simp only [fm_e_hm _ _ e]
    exact eN j M hj
  · have e : j ≠ k := fun z => by subst z; rw [vu_self] at hj; cases hj
    rw [vu_ne e] at hj
    rw [fm_e_ne (by decide), fm_e_ne (by decide), fm_e_ne (by decide), fm_e_ne (by decide), fm_e_ne (by decide), fm_e_ne (by decide), fm_e_ne (by decide), fm_e_ne (by decide), fm_e_ne (by decide), fm_e_ne (by decide)]
    exact eE j M i E hj hE
  · by_cases q : j = 7
    · subst q; rw [fm_e_at]; split
      · exact Or.inl rfl
      · rw [fm_e_ne (by decide)]; exact eB 7 i hj
    · rw [fm_e_ne q]
      by_cases q2 : j = 4
      · subst q2; rw [fm_e_at]; split
        · exact Or.inl rfl
        · exact eB 4 i hj
      · rw [fm_e_ne q2]; exact eB j i hj
theorem fm_pp {us n : Nat} {nd : fs_D} (hok : fs_ok us n nd) : ∀ k N p, nd k = some N → N.2.1 = some p → p < 150 := fun k N p hk hp => fm_pr hok hk hp
theorem p_MO_remove_n1 {g : fw_G} {nc ns : Nat} {w0 : fw_W} {mo : Nat} {ar : Nat → Nat} (hA : fm_ad mo ar) {th so pl po : Int32} {us n : Nat} {F : fm_F} {hu hg : Nat → Nat → Bool} {nd : fs_D} (hc : fm_c us n hu hg nd F) (hs : fm_S us n hu hg nd) {x : Int32} (hx : ∀ k, x = nI k → nd k = none) : fw_R g m_MO_remove (fm_P g w0 mo ar (.int 0) 1 (us, n, hu, hg, nd)) nc ns (fm_W g w0 mo ar (th, us, n, so, pl, po) F) 0 [(0, .ref mo), (1, .int x)] [] := by
  obtain ⟨hok, hub, hgb⟩ := id hs
  have hus := hok.2.1
  have hn := hok.2.2.1
  refine fr_aload_n (pc := 0) d_MO_remove_0 rfl rfl ?_
  refine fr_aload_n (pc := 1) d_MO_remove_1 rfl rfl ?_
  refine fr_iload_n (pc := 2) d_MO_remove_2 rfl rfl ?_
  refine fr_callv_p (pc := 3) (nc := nc) (ns := ns) (N := m_MO_isNode) (rest := [.ref mo]) (as := [.int x]) d_MO_remove_3 vc_MO_91 ⟨by decide, by decide, Nat.le_of_ble_eq_true rfl⟩ (Nat.le_of_ble_eq_true rfl) fm_mo (c_MO_isNode_n hA (fun k hk e => fm_nt hc hk (hx k e))) rfl ?_
  refine fr_iload_n (pc := 6) d_MO_remove_6 rfl rfl ?_
  refine fr_if_le (pc := 7) (tgt := 14) d_MO_remove_7 (by decide) (fun b7 => ?_) (fun b7 => ?_)
  · refine fr_iconst (pc := 14) (v := 0) d_MO_remove_14 (by decide) ?_
    refine fr_aload_n (pc := 15) d_MO_remove_15 rfl rfl ?_
    refine fr_iload_n (pc := 16) d_MO_remove_16 rfl rfl ?_
    refine fr_callv_p (pc := 17) (nc := nc) (ns := ns) (N := m_MO_isNode) (rest := [.int 0, .int 0, .ref mo]) (as := [.int x]) d_MO_remove_17 vc_MO_91 ⟨by decide, by decide, Nat.le_of_ble_eq_true rfl⟩ (Nat.le_of_ble_eq_true rfl) fm_mo (c_MO_isNode_n hA (fun k hk e => fm_nt hc hk (hx k e))) rfl ?_
    refine fr_if_eq (pc := 20) (tgt := 35) d_MO_remove_20 (by decide) (fun _ => ?_) (fun q => absurd q (by decide))
    refine fr_iconst (pc := 35) (v := 0) d_MO_remove_35 (by decide) ?_
    refine fr_callv_p (pc := 36) (nc := nc) (ns := ns) (N := m_MO_goes) (rest := []) (as := [.int 0, .int 0, .int 0]) d_MO_remove_36 vc_MO_69 ⟨by decide, by decide, Nat.le_of_ble_eq_true rfl⟩ (Nat.le_of_ble_eq_true rfl) fm_mo (c_MO_goes1 hA) rfl ?_
    refine fr_if_ne (pc := 39) (tgt := 44) d_MO_remove_39 (by decide) (fun q => absurd q (by decide)) (fun _ => ?_)
    refine fr_iconst (pc := 42) (v := 0) d_MO_remove_42 (by decide) ?_
    exact fr_iret rfl d_MO_remove_43 ⟨rfl, _, _, _, _, rfl, hc⟩
  · refine fr_iconst (pc := 10) (v := 1) d_MO_remove_10 (by decide) ?_
    refine fr_goto (pc := 11) (tgt := 15) d_MO_remove_11 (by decide) ?_
    refine fr_aload_n (pc := 15) d_MO_remove_15 rfl rfl ?_
    refine fr_iload_n (pc := 16) d_MO_remove_16 rfl rfl ?_
    refine fr_callv_p (pc := 17) (nc := nc) (ns := ns) (N := m_MO_isNode) (rest := [.int 1, .int 0, .ref mo]) (as := [.int x]) d_MO_remove_17 vc_MO_91 ⟨by decide, by decide, Nat.le_of_ble_eq_true rfl⟩ (Nat.le_of_ble_eq_true rfl) fm_mo (c_MO_isNode_n hA (fun k hk e => fm_nt hc hk (hx k e))) rfl ?_
    refine fr_if_eq (pc := 20) (tgt := 35) d_MO_remove_20 (by decide) (fun _ => ?_) (fun q => absurd q (by decide))
    refine fr_iconst (pc := 35) (v := 0) d_MO_remove_35 (by decide) ?_
    refine fr_callv_p (pc := 36) (nc := nc) (ns := ns) (N := m_MO_goes) (rest := []) (as := [.int 0, .int 1, .int 0]) d_MO_remove_36 vc_MO_69 ⟨by decide, by decide, Nat.le_of_ble_eq_true rfl⟩ (Nat.le_of_ble_eq_true rfl) fm_mo (c_MO_goes1 hA) rfl ?_
    refine fr_if_ne (pc := 39) (tgt := 44) d_MO_remove_39 (by decide) (fun q => absurd q (by decide)) (fun _ => ?_)
    refine fr_iconst (pc := 42) (v := 0) d_MO_remove_42 (by decide) ?_
    exact fr_iret rfl d_MO_remove_43 ⟨rfl, _, _, _, _, rfl, hc⟩
theorem p_MO_remove_n2 {g : fw_G} {nc ns : Nat} {w0 : fw_W} {mo : Nat} {ar : Nat → Nat} (hA : fm_ad mo ar) {th so pl po : Int32} {us n : Nat} {F : fm_F} {hu hg : Nat → Nat → Bool} {nd : fs_D} (hc : fm_c us n hu hg nd F) (hs : fm_S us n hu hg nd) {k : Nat} {N : fs_N} (hk : nd k = some N) (hp : N.2.1 = none) : fw_R g m_MO_remove (fm_P g w0 mo ar (.int 0) 2 (us, n, hu, hg, nd)) nc ns (fm_W g w0 mo ar (th, us, n, so, pl, po) F) 0 [(0, .ref mo), (1, .int (nI k))] [] := by
  obtain ⟨hok, hub, hgb⟩ := id hs
  have hus := hok.2.1
  have hn := hok.2.2.1
  have hk150 := fm_k hok hk
  obtain ⟨c5, c6, c8, c9, c10⟩ := hc.2.2.2.2.2.1 k N hk
  obtain ⟨-, hk0, how, hlen, hes, hch, hdep⟩ := hok.2.2.2.2 k N hk
  have hk00 := hk0 hp
  refine fr_aload_n (pc := 0) d_MO_remove_0 rfl rfl ?_
  refine fr_aload_n (pc := 1) d_MO_remove_1 rfl rfl ?_
  refine fr_iload_n (pc := 2) d_MO_remove_2 rfl rfl ?_
  refine fr_callv_p (pc := 3) (nc := nc) (ns := ns) (N := m_MO_isNode) (rest := [.ref mo]) (as := [.int (nI k)]) d_MO_remove_3 vc_MO_91 ⟨by decide, by decide, Nat.le_of_ble_eq_true rfl⟩ (Nat.le_of_ble_eq_true rfl) fm_mo (c_MO_isNode_y hA hk150 (fm_th hc hok hk)) rfl ?_
  refine fr_iload_n (pc := 6) d_MO_remove_6 rfl rfl ?_
  refine fr_if_le (pc := 7) (tgt := 14) d_MO_remove_7 (by decide) (fun _ => ?_) (fun q => absurd ((ni_le (b := 0) (by omega) (by omega)).mpr (by omega)) q)
  refine fr_iconst (pc := 14) (v := 0) d_MO_remove_14 (by decide) ?_
  refine fr_aload_n (pc := 15) d_MO_remove_15 rfl rfl ?_
  refine fr_iload_n (pc := 16) d_MO_remove_16 rfl rfl ?_
  refine fr_callv_p (pc := 17) (nc := nc) (ns := ns) (N := m_MO_isNode) (rest := [.int 0, .int 1, .ref mo]) (as := [.int (nI k)]) d_MO_remove_17 vc_MO_91 ⟨by decide, by decide, Nat.le_of_ble_eq_true rfl⟩ (Nat.le_of_ble_eq_true rfl) fm_mo (c_MO_isNode_y hA hk150 (fm_th hc hok hk)) rfl ?_
  refine fr_if_eq (pc := 20) (tgt := 35) d_MO_remove_20 (by decide) (fun q => absurd q (by decide)) (fun _ => ?_)
  refine fr_aload_n (pc := 23) d_MO_remove_23 rfl rfl ?_
  refine fr_iload_n (pc := 24) d_MO_remove_24 rfl rfl ?_
  refine fr_callv_p (pc := 25) (nc := nc) (ns := ns) (N := m_MO_children) (rest := [.int 0, .int 1, .ref mo]) (as := [.int (nI k)]) d_MO_remove_25 vc_MO_109 ⟨by decide, by decide, Nat.le_of_ble_eq_true rfl⟩ (Nat.le_of_ble_eq_true rfl) fm_mo (c_MO_children hA (fm_p_c hc hok) hc.2.2.2.1 hk150 (fm_pp hok) hok.2.2.2.1) rfl ?_
  refine fr_if_ne (pc := 28) (tgt := 35) d_MO_remove_28 (by decide) (fun b28 => ?_) (fun b28 => ?_)
  · refine fr_iconst (pc := 35) (v := 0) d_MO_remove_35 (by decide) ?_
    refine fr_callv_p (pc := 36) (nc := nc) (ns := ns) (N := m_MO_goes) (rest := []) (as := [.int 1, .int 0, .int 0]) d_MO_remove_36 vc_MO_69 ⟨by decide, by decide, Nat.le_of_ble_eq_true rfl⟩ (Nat.le_of_ble_eq_true rfl) fm_mo (c_MO_goes2 hA) rfl ?_
    refine fr_if_ne (pc := 39) (tgt := 44) d_MO_remove_39 (by decide) (fun q => absurd q (by decide)) (fun _ => ?_)
    refine fr_iconst (pc := 42) (v := 0) d_MO_remove_42 (by decide) ?_
    exact fr_iret rfl d_MO_remove_43 ⟨rfl, _, _, _, _, rfl, hc⟩
  · refine fr_iconst (pc := 31) (v := 1) d_MO_remove_31 (by decide) ?_
    refine fr_goto (pc := 32) (tgt := 36) d_MO_remove_32 (by decide) ?_
    refine fr_callv_p (pc := 36) (nc := nc) (ns := ns) (N := m_MO_goes) (rest := []) (as := [.int 1, .int 0, .int 1]) d_MO_remove_36 vc_MO_69 ⟨by decide, by decide, Nat.le_of_ble_eq_true rfl⟩ (Nat.le_of_ble_eq_true rfl) fm_mo (c_MO_goes2 hA) rfl ?_
    refine fr_if_ne (pc := 39) (tgt := 44) d_MO_remove_39 (by decide) (fun q => absurd q (by decide)) (fun _ => ?_)
    refine fr_iconst (pc := 42) (v := 0) d_MO_remove_42 (by decide) ?_
    exact fr_iret rfl d_MO_remove_43 ⟨rfl, _, _, _, _, rfl, hc⟩
theorem p_MO_remove_n3 {g : fw_G} {nc ns : Nat} {w0 : fw_W} {mo : Nat} {ar : Nat → Nat} (hA : fm_ad mo ar) {th so pl po : Int32} {us n : Nat} {F : fm_F} {hu hg : Nat → Nat → Bool} {nd : fs_D} (hc : fm_c us n hu hg nd F) (hs : fm_S us n hu hg nd) {k : Nat} {N : fs_N} (hk : nd k = some N) {p : Nat} (hp : N.2.1 = some p) (hs0 : (fs_sum (fs_f4 nd k) 150 0) ≠ 0) : fw_R g m_MO_remove (fm_P g w0 mo ar (.int 0) 3 (us, n, hu, hg, nd)) nc ns (fm_W g w0 mo ar (th, us, n, so, pl, po) F) 0 [(0, .ref mo), (1, .int (nI k))] [] := by
  obtain ⟨hok, hub, hgb⟩ := id hs
  have hus := hok.2.1
  have hn := hok.2.2.1
  have hk150 := fm_k hok hk
  obtain ⟨c5, c6, c8, c9, c10⟩ := hc.2.2.2.2.2.1 k N hk
  obtain ⟨-, hk0, how, hlen, hes, hch, hdep⟩ := hok.2.2.2.2 k N hk
  have hkn : k ≠ 0 := fun z => by obtain ⟨M, h1, h2⟩ := hok.2.2.2.1; subst z; rw [hk] at h1; cases h1; rw [hp] at h2; cases h2
  have hsb : (fs_sum (fs_f4 nd k) 150 0) < 2 ^ 31 := by have := fs_sum_le (fs_f4_1 nd k) 150 0; omega
  refine fr_aload_n (pc := 0) d_MO_remove_0 rfl rfl ?_
  refine fr_aload_n (pc := 1) d_MO_remove_1 rfl rfl ?_
  refine fr_iload_n (pc := 2) d_MO_remove_2 rfl rfl ?_
  refine fr_callv_p (pc := 3) (nc := nc) (ns := ns) (N := m_MO_isNode) (rest := [.ref mo]) (as := [.int (nI k)]) d_MO_remove_3 vc_MO_91 ⟨by decide, by decide, Nat.le_of_ble_eq_true rfl⟩ (Nat.le_of_ble_eq_true rfl) fm_mo (c_MO_isNode_y hA hk150 (fm_th hc hok hk)) rfl ?_
  refine fr_iload_n (pc := 6) d_MO_remove_6 rfl rfl ?_
  refine fr_if_le (pc := 7) (tgt := 14) d_MO_remove_7 (by decide) (fun q => absurd ((ni_le (b := 0) (by omega) (by omega)).mp q) (by omega)) (fun _ => ?_)
  refine fr_iconst (pc := 10) (v := 1) d_MO_remove_10 (by decide) ?_
  refine fr_goto (pc := 11) (tgt := 15) d_MO_remove_11 (by decide) ?_
  refine fr_aload_n (pc := 15) d_MO_remove_15 rfl rfl ?_
  refine fr_iload_n (pc := 16) d_MO_remove_16 rfl rfl ?_
  refine fr_callv_p (pc := 17) (nc := nc) (ns := ns) (N := m_MO_isNode) (rest := [.int 1, .int 1, .ref mo]) (as := [.int (nI k)]) d_MO_remove_17 vc_MO_91 ⟨by decide, by decide, Nat.le_of_ble_eq_true rfl⟩ (Nat.le_of_ble_eq_true rfl) fm_mo (c_MO_isNode_y hA hk150 (fm_th hc hok hk)) rfl ?_
  refine fr_if_eq (pc := 20) (tgt := 35) d_MO_remove_20 (by decide) (fun q => absurd q (by decide)) (fun _ => ?_)
  refine fr_aload_n (pc := 23) d_MO_remove_23 rfl rfl ?_
  refine fr_iload_n (pc := 24) d_MO_remove_24 rfl rfl ?_
  refine fr_callv_p (pc := 25) (nc := nc) (ns := ns) (N := m_MO_children) (rest := [.int 1, .int 1, .ref mo]) (as := [.int (nI k)]) d_MO_remove_25 vc_MO_109 ⟨by decide, by decide, Nat.le_of_ble_eq_true rfl⟩ (Nat.le_of_ble_eq_true rfl) fm_mo (c_MO_children hA (fm_p_c hc hok) hc.2.2.2.1 hk150 (fm_pp hok) hok.2.2.2.1) rfl ?_
  refine fr_if_ne (pc := 28) (tgt := 35) d_MO_remove_28 (by decide) (fun _ => ?_) (fun q => absurd ((ni_eq (b := 0) (by omega) (by omega)).mp q) hs0)
  refine fr_iconst (pc := 35) (v := 0) d_MO_remove_35 (by decide) ?_
  refine fr_callv_p (pc := 36) (nc := nc) (ns := ns) (N := m_MO_goes) (rest := []) (as := [.int 1, .int 1, .int 0]) d_MO_remove_36 vc_MO_69 ⟨by decide, by decide, Nat.le_of_ble_eq_true rfl⟩ (Nat.le_of_ble_eq_true rfl) fm_mo (c_MO_goes3 hA) rfl ?_
  refine fr_if_ne (pc := 39) (tgt := 44) d_MO_remove_39 (by decide) (fun q => absurd q (by decide)) (fun _ => ?_)
  refine fr_iconst (pc := 42) (v := 0) d_MO_remove_42 (by decide) ?_
  exact fr_iret rfl d_MO_remove_43 ⟨rfl, _, _, _, _, rfl, hc⟩
theorem p_MO_remove_ok {g : fw_G} {nc ns : Nat} {w0 : fw_W} {mo : Nat} {ar : Nat → Nat} (hA : fm_ad mo ar) {th so pl po : Int32} {us n : Nat} {F : fm_F} {hu hg : Nat → Nat → Bool} {nd : fs_D} (hc : fm_c us n hu hg nd F) (hs : fm_S us n hu hg nd) {k : Nat} {N : fs_N} (hk : nd k = some N) {p : Nat} (hp : N.2.1 = some p) (hs0 : (fs_sum (fs_f4 nd k) 150 0) = 0) : fw_R g m_MO_remove (fm_P g w0 mo ar (.int (nI N.2.2.2.2.2.length)) 0 (us, n, hu, hg, va_up nd k none)) nc ns (fm_W g w0 mo ar (th, us, n, so, pl, po) F) 0 [(0, .ref mo), (1, .int (nI k))] [] := by
  obtain ⟨hok, hub, hgb⟩ := id hs
  have hus := hok.2.1
  have hn := hok.2.2.1
  have hk150 := fm_k hok hk
  obtain ⟨c5, c6, c8, c9, c10⟩ := hc.2.2.2.2.2.1 k N hk
  obtain ⟨-, hk0, how, hlen, hes, hch, hdep⟩ := hok.2.2.2.2 k N hk
  have hkn : k ≠ 0 := fun z => by obtain ⟨M, h1, h2⟩ := hok.2.2.2.1; subst z; rw [hk] at h1; cases h1; rw [hp] at h2; cases h2
  have hsb : (fs_sum (fs_f4 nd k) 150 0) < 2 ^ 31 := by have := fs_sum_le (fs_f4_1 nd k) 150 0; omega
  refine fr_aload_n (pc := 0) d_MO_remove_0 rfl rfl ?_
  refine fr_aload_n (pc := 1) d_MO_remove_1 rfl rfl ?_
  refine fr_iload_n (pc := 2) d_MO_remove_2 rfl rfl ?_
  refine fr_callv_p (pc := 3) (nc := nc) (ns := ns) (N := m_MO_isNode) (rest := [.ref mo]) (as := [.int (nI k)]) d_MO_remove_3 vc_MO_91 ⟨by decide, by decide, Nat.le_of_ble_eq_true rfl⟩ (Nat.le_of_ble_eq_true rfl) fm_mo (c_MO_isNode_y hA hk150 (fm_th hc hok hk)) rfl ?_
  refine fr_iload_n (pc := 6) d_MO_remove_6 rfl rfl ?_
  refine fr_if_le (pc := 7) (tgt := 14) d_MO_remove_7 (by decide) (fun q => absurd ((ni_le (b := 0) (by omega) (by omega)).mp q) (by omega)) (fun _ => ?_)
  refine fr_iconst (pc := 10) (v := 1) d_MO_remove_10 (by decide) ?_
  refine fr_goto (pc := 11) (tgt := 15) d_MO_remove_11 (by decide) ?_
  refine fr_aload_n (pc := 15) d_MO_remove_15 rfl rfl ?_
  refine fr_iload_n (pc := 16) d_MO_remove_16 rfl rfl ?_
  refine fr_callv_p (pc := 17) (nc := nc) (ns := ns) (N := m_MO_isNode) (rest := [.int 1, .int 1, .ref mo]) (as := [.int (nI k)]) d_MO_remove_17 vc_MO_91 ⟨by decide, by decide, Nat.le_of_ble_eq_true rfl⟩ (Nat.le_of_ble_eq_true rfl) fm_mo (c_MO_isNode_y hA hk150 (fm_th hc hok hk)) rfl ?_
  refine fr_if_eq (pc := 20) (tgt := 35) d_MO_remove_20 (by decide) (fun q => absurd q (by decide)) (fun _ => ?_)
  refine fr_aload_n (pc := 23) d_MO_remove_23 rfl rfl ?_
  refine fr_iload_n (pc := 24) d_MO_remove_24 rfl rfl ?_
  refine fr_callv_p (pc := 25) (nc := nc) (ns := ns) (N := m_MO_children) (rest := [.int 1, .int 1, .ref mo]) (as := [.int (nI k)]) d_MO_remove_25 vc_MO_109 ⟨by decide, by decide, Nat.le_of_ble_eq_true rfl⟩ (Nat.le_of_ble_eq_true rfl) fm_mo (c_MO_children hA (fm_p_c hc hok) hc.2.2.2.1 hk150 (fm_pp hok) hok.2.2.2.1) rfl ?_
  refine fr_if_ne (pc := 28) (tgt := 35) d_MO_remove_28 (by decide) (fun q => absurd ((ni_eq (b := 0) (by omega) (by omega)).mpr hs0) q) (fun _ => ?_)
  refine fr_iconst (pc := 31) (v := 1) d_MO_remove_31 (by decide) ?_
  refine fr_goto (pc := 32) (tgt := 36) d_MO_remove_32 (by decide) ?_
  refine fr_callv_p (pc := 36) (nc := nc) (ns := ns) (N := m_MO_goes) (rest := []) (as := [.int 1, .int 1, .int 1]) d_MO_remove_36 vc_MO_69 ⟨by decide, by decide, Nat.le_of_ble_eq_true rfl⟩ (Nat.le_of_ble_eq_true rfl) fm_mo (c_MO_goes0 hA) rfl ?_
  refine fr_if_ne (pc := 39) (tgt := 44) d_MO_remove_39 (by decide) (fun _ => ?_) (fun q => absurd q (by decide))
  refine fr_aload_n (pc := 44) d_MO_remove_44 rfl rfl ?_
  refine fr_get (pc := 45) (v := .ref (ar 4)) d_MO_remove_45 fg_MO_26 fm_mo rfl ?_
  refine fr_iload_n (pc := 48) d_MO_remove_48 rfl rfl ?_
  refine fr_iconst (pc := 49) (v := 0) d_MO_remove_49 (by decide) ?_
  refine fr_mzst (pc := 50) (j := 4) (k := k) (x := 0) d_MO_remove_50 hA (by decide) rfl (by show k < 150; omega) (Or.inl rfl) ?_
  refine fr_aload_n (pc := 51) d_MO_remove_51 rfl rfl ?_
  refine fr_get (pc := 52) (v := .ref (ar 7)) d_MO_remove_52 fg_MO_35 fm_mo rfl ?_
  refine fr_iload_n (pc := 55) d_MO_remove_55 rfl rfl ?_
  refine fr_iconst (pc := 56) (v := 0) d_MO_remove_56 (by decide) ?_
  refine fr_mzst (pc := 57) (j := 7) (k := k) (x := 0) d_MO_remove_57 hA (by decide) rfl (by show k < 150; omega) (Or.inl rfl) ?_
  refine fr_aload_n (pc := 58) d_MO_remove_58 rfl rfl ?_
  refine fr_get (pc := 59) (v := .ref (ar 10)) d_MO_remove_59 fg_MO_45 fm_mo rfl ?_
  refine fr_iload_n (pc := 62) d_MO_remove_62 rfl rfl ?_
  refine fr_mild (pc := 63) (j := 10) (k := k) d_MO_remove_63 hA (by decide) rfl (by show k < 150; omega) ?_
  refine fr_st (st2 := [.int (nI N.2.2.2.2.2.length)]) (by rw [fm_e_ne (by decide), fm_e_ne (by decide), c10]) ?_
  exact fr_iret rfl d_MO_remove_64 ⟨rfl, _, _, _, _, rfl, fm_c_rm hc⟩
theorem p_MO_about_0 {g : fw_G} {nc ns : Nat} {w0 : fw_W} {mo : Nat} {ar : Nat → Nat} (hA : fm_ad mo ar) {th so pl po : Int32} {us n : Nat} {F : fm_F} {hu hg : Nat → Nat → Bool} {nd : fs_D} (hc : fm_c us n hu hg nd F) (hs : fm_S us n hu hg nd) {k : Nat} {N : fs_N} (hk : nd k = some N) : fw_R g m_MO_about (fm_P g w0 mo ar (.int (fs_ov N.2.1)) 0 (us, n, hu, hg, nd)) nc ns (fm_W g w0 mo ar (th, us, n, so, pl, po) F) 0 [(0, .ref mo), (1, .int (nI k)), (2, .int (nI 0))] [] := by
  obtain ⟨hok, hub, hgb⟩ := id hs
  have hus := hok.2.1
  have hn := hok.2.2.1
  have hk150 := fm_k hok hk
  obtain ⟨c5, c6, c8, c9, c10⟩ := hc.2.2.2.2.2.1 k N hk
  obtain ⟨-, hk0, how, hlen, hes, hch, hdep⟩ := hok.2.2.2.2 k N hk
  have c7 := hc.2.2.2.2.1 k hk150
  rw [fm_sl_at hk] at c7
  refine fr_aload_n (pc := 0) d_MO_about_0 rfl rfl ?_
  refine fr_aload_n (pc := 1) d_MO_about_1 rfl rfl ?_
  refine fr_iload_n (pc := 2) d_MO_about_2 rfl rfl ?_
  refine fr_callv_p (pc := 3) (nc := nc) (ns := ns) (N := m_MO_isNode) (rest := [.ref mo]) (as := [.int (nI k)]) d_MO_about_3 vc_MO_91 ⟨by decide, by decide, Nat.le_of_ble_eq_true rfl⟩ (Nat.le_of_ble_eq_true rfl) fm_mo (c_MO_isNode_y hA hk150 (fm_th hc hok hk)) rfl ?_
  refine fr_iload_n (pc := 6) d_MO_about_6 rfl rfl ?_
  refine fr_iconst (pc := 7) (v := 0) d_MO_about_7 (by decide) ?_
  refine fr_bipush (pc := 8) (v := 7) d_MO_about_8 (by decide) ?_
  refine fr_calls_p (pc := 10) (nc := nc) (ns := ns) (N := m_MO_within) (rest := [.int 1, .ref mo]) (as := [.int (nI 0), .int 0, .int 7]) d_MO_about_10 k_MO_within lk_MO_112 sc_MO_within np_MO_within ⟨by decide, by decide, Nat.le_of_ble_eq_true rfl⟩ (Nat.le_of_ble_eq_true rfl) (c_MO_within_y (fm_8 (r := 0) (by omega)).1 (fm_8 (r := 0) (by omega)).2) rfl ?_
  refine fr_iconst (pc := 13) (v := 1) d_MO_about_13 (by decide) ?_
  refine fr_callv_p (pc := 14) (nc := nc) (ns := ns) (N := m_MO_goes) (rest := []) (as := [.int 1, .int 1, .int 1]) d_MO_about_14 vc_MO_69 ⟨by decide, by decide, Nat.le_of_ble_eq_true rfl⟩ (Nat.le_of_ble_eq_true rfl) fm_mo (c_MO_goes0 hA) rfl ?_
  refine fr_if_ne (pc := 17) (tgt := 22) d_MO_about_17 (by decide) (fun _ => ?_) (fun q => absurd q (by decide))
  refine fr_iload_n (pc := 22) d_MO_about_22 rfl rfl ?_
  refine fr_tableIn (pc := 23) (off := 41) (tgt := 64) d_MO_about_23 (by decide) (by decide) (by decide) (by decide) ?_
  refine fr_aload_n (pc := 64) d_MO_about_64 rfl rfl ?_
  refine fr_get (pc := 65) (v := .ref (ar 8)) d_MO_about_65 fg_MO_38 fm_mo rfl ?_
  refine fr_iload_n (pc := 68) d_MO_about_68 rfl rfl ?_
  refine fr_mild (pc := 69) (j := 8) (k := k) d_MO_about_69 hA (by decide) rfl (by show k < 150; omega) ?_
  refine fr_st (st2 := [.int (fs_ov N.2.1)]) (by rw [c8]) ?_
  exact fr_iret rfl d_MO_about_70 ⟨rfl, _, _, _, _, rfl, hc⟩
theorem p_MO_about_1 {g : fw_G} {nc ns : Nat} {w0 : fw_W} {mo : Nat} {ar : Nat → Nat} (hA : fm_ad mo ar) {th so pl po : Int32} {us n : Nat} {F : fm_F} {hu hg : Nat → Nat → Bool} {nd : fs_D} (hc : fm_c us n hu hg nd F) (hs : fm_S us n hu hg nd) {k : Nat} {N : fs_N} (hk : nd k = some N) : fw_R g m_MO_about (fm_P g w0 mo ar (.int (bI N.1)) 0 (us, n, hu, hg, nd)) nc ns (fm_W g w0 mo ar (th, us, n, so, pl, po) F) 0 [(0, .ref mo), (1, .int (nI k)), (2, .int (nI 1))] [] := by
  obtain ⟨hok, hub, hgb⟩ := id hs
  have hus := hok.2.1
  have hn := hok.2.2.1
  have hk150 := fm_k hok hk
  obtain ⟨c5, c6, c8, c9, c10⟩ := hc.2.2.2.2.2.1 k N hk
  obtain ⟨-, hk0, how, hlen, hes, hch, hdep⟩ := hok.2.2.2.2 k N hk
  have c7 := hc.2.2.2.2.1 k hk150
  rw [fm_sl_at hk] at c7
  refine fr_aload_n (pc := 0) d_MO_about_0 rfl rfl ?_
  refine fr_aload_n (pc := 1) d_MO_about_1 rfl rfl ?_
  refine fr_iload_n (pc := 2) d_MO_about_2 rfl rfl ?_
  refine fr_callv_p (pc := 3) (nc := nc) (ns := ns) (N := m_MO_isNode) (rest := [.ref mo]) (as := [.int (nI k)]) d_MO_about_3 vc_MO_91 ⟨by decide, by decide, Nat.le_of_ble_eq_true rfl⟩ (Nat.le_of_ble_eq_true rfl) fm_mo (c_MO_isNode_y hA hk150 (fm_th hc hok hk)) rfl ?_
  refine fr_iload_n (pc := 6) d_MO_about_6 rfl rfl ?_
  refine fr_iconst (pc := 7) (v := 0) d_MO_about_7 (by decide) ?_
  refine fr_bipush (pc := 8) (v := 7) d_MO_about_8 (by decide) ?_
  refine fr_calls_p (pc := 10) (nc := nc) (ns := ns) (N := m_MO_within) (rest := [.int 1, .ref mo]) (as := [.int (nI 1), .int 0, .int 7]) d_MO_about_10 k_MO_within lk_MO_112 sc_MO_within np_MO_within ⟨by decide, by decide, Nat.le_of_ble_eq_true rfl⟩ (Nat.le_of_ble_eq_true rfl) (c_MO_within_y (fm_8 (r := 1) (by omega)).1 (fm_8 (r := 1) (by omega)).2) rfl ?_
  refine fr_iconst (pc := 13) (v := 1) d_MO_about_13 (by decide) ?_
  refine fr_callv_p (pc := 14) (nc := nc) (ns := ns) (N := m_MO_goes) (rest := []) (as := [.int 1, .int 1, .int 1]) d_MO_about_14 vc_MO_69 ⟨by decide, by decide, Nat.le_of_ble_eq_true rfl⟩ (Nat.le_of_ble_eq_true rfl) fm_mo (c_MO_goes0 hA) rfl ?_
  refine fr_if_ne (pc := 17) (tgt := 22) d_MO_about_17 (by decide) (fun _ => ?_) (fun q => absurd q (by decide))
  refine fr_iload_n (pc := 22) d_MO_about_22 rfl rfl ?_
  refine fr_tableIn (pc := 23) (off := 48) (tgt := 71) d_MO_about_23 (by decide) (by decide) (by decide) (by decide) ?_
  refine fr_aload_n (pc := 71) d_MO_about_71 rfl rfl ?_
  refine fr_get (pc := 72) (v := .ref (ar 5)) d_MO_about_72 fg_MO_29 fm_mo rfl ?_
  refine fr_iload_n (pc := 75) d_MO_about_75 rfl rfl ?_
  refine fr_mzld (pc := 76) (j := 5) (k := k) d_MO_about_76 hA (by decide) rfl (by show k < 150; omega) ?_
  refine fr_st (st2 := [.int (bI N.1)]) (by rw [c5]) ?_
  refine fr_if_eq (pc := 77) (tgt := 84) d_MO_about_77 (by decide) (fun z => ?_) (fun z => ?_)
  · have z2 := bI_0.mp z
    refine fr_iconst (pc := 84) (v := 0) d_MO_about_84 (by decide) ?_
    refine fr_st (st2 := [.int (bI N.1)]) (by rw [z2]; rfl) ?_
    exact fr_iret rfl d_MO_about_85 ⟨rfl, _, _, _, _, rfl, hc⟩
  · have z2 := ts_nf (fun x => z (bI_0.mpr x))
    refine fr_iconst (pc := 80) (v := 1) d_MO_about_80 (by decide) ?_
    refine fr_goto (pc := 81) (tgt := 85) d_MO_about_81 (by decide) ?_
    refine fr_st (st2 := [.int (bI N.1)]) (by rw [z2]; rfl) ?_
    exact fr_iret rfl d_MO_about_85 ⟨rfl, _, _, _, _, rfl, hc⟩
theorem p_MO_about_2 {g : fw_G} {nc ns : Nat} {w0 : fw_W} {mo : Nat} {ar : Nat → Nat} (hA : fm_ad mo ar) {th so pl po : Int32} {us n : Nat} {F : fm_F} {hu hg : Nat → Nat → Bool} {nd : fs_D} (hc : fm_c us n hu hg nd F) (hs : fm_S us n hu hg nd) {k : Nat} {N : fs_N} (hk : nd k = some N) : fw_R g m_MO_about (fm_P g w0 mo ar (.int (nI N.2.2.1)) 0 (us, n, hu, hg, nd)) nc ns (fm_W g w0 mo ar (th, us, n, so, pl, po) F) 0 [(0, .ref mo), (1, .int (nI k)), (2, .int (nI 2))] [] := by
  obtain ⟨hok, hub, hgb⟩ := id hs
  have hus := hok.2.1
  have hn := hok.2.2.1
  have hk150 := fm_k hok hk
  obtain ⟨c5, c6, c8, c9, c10⟩ := hc.2.2.2.2.2.1 k N hk
  obtain ⟨-, hk0, how, hlen, hes, hch, hdep⟩ := hok.2.2.2.2 k N hk
  have c7 := hc.2.2.2.2.1 k hk150
  rw [fm_sl_at hk] at c7
  refine fr_aload_n (pc := 0) d_MO_about_0 rfl rfl ?_
  refine fr_aload_n (pc := 1) d_MO_about_1 rfl rfl ?_
  refine fr_iload_n (pc := 2) d_MO_about_2 rfl rfl ?_
  refine fr_callv_p (pc := 3) (nc := nc) (ns := ns) (N := m_MO_isNode) (rest := [.ref mo]) (as := [.int (nI k)]) d_MO_about_3 vc_MO_91 ⟨by decide, by decide, Nat.le_of_ble_eq_true rfl⟩ (Nat.le_of_ble_eq_true rfl) fm_mo (c_MO_isNode_y hA hk150 (fm_th hc hok hk)) rfl ?_
  refine fr_iload_n (pc := 6) d_MO_about_6 rfl rfl ?_
  refine fr_iconst (pc := 7) (v := 0) d_MO_about_7 (by decide) ?_
  refine fr_bipush (pc := 8) (v := 7) d_MO_about_8 (by decide) ?_
  refine fr_calls_p (pc := 10) (nc := nc) (ns := ns) (N := m_MO_within) (rest := [.int 1, .ref mo]) (as := [.int (nI 2), .int 0, .int 7]) d_MO_about_10 k_MO_within lk_MO_112 sc_MO_within np_MO_within ⟨by decide, by decide, Nat.le_of_ble_eq_true rfl⟩ (Nat.le_of_ble_eq_true rfl) (c_MO_within_y (fm_8 (r := 2) (by omega)).1 (fm_8 (r := 2) (by omega)).2) rfl ?_
  refine fr_iconst (pc := 13) (v := 1) d_MO_about_13 (by decide) ?_
  refine fr_callv_p (pc := 14) (nc := nc) (ns := ns) (N := m_MO_goes) (rest := []) (as := [.int 1, .int 1, .int 1]) d_MO_about_14 vc_MO_69 ⟨by decide, by decide, Nat.le_of_ble_eq_true rfl⟩ (Nat.le_of_ble_eq_true rfl) fm_mo (c_MO_goes0 hA) rfl ?_
  refine fr_if_ne (pc := 17) (tgt := 22) d_MO_about_17 (by decide) (fun _ => ?_) (fun q => absurd q (by decide))
  refine fr_iload_n (pc := 22) d_MO_about_22 rfl rfl ?_
  refine fr_tableIn (pc := 23) (off := 63) (tgt := 86) d_MO_about_23 (by decide) (by decide) (by decide) (by decide) ?_
  refine fr_aload_n (pc := 86) d_MO_about_86 rfl rfl ?_
  refine fr_get (pc := 87) (v := .ref (ar 9)) d_MO_about_87 fg_MO_42 fm_mo rfl ?_
  refine fr_iload_n (pc := 90) d_MO_about_90 rfl rfl ?_
  refine fr_mild (pc := 91) (j := 9) (k := k) d_MO_about_91 hA (by decide) rfl (by show k < 150; omega) ?_
  refine fr_st (st2 := [.int (nI N.2.2.1)]) (by rw [c9]) ?_
  exact fr_iret rfl d_MO_about_92 ⟨rfl, _, _, _, _, rfl, hc⟩
theorem p_MO_about_3 {g : fw_G} {nc ns : Nat} {w0 : fw_W} {mo : Nat} {ar : Nat → Nat} (hA : fm_ad mo ar) {th so pl po : Int32} {us n : Nat} {F : fm_F} {hu hg : Nat → Nat → Bool} {nd : fs_D} (hc : fm_c us n hu hg nd F) (hs : fm_S us n hu hg nd) {k : Nat} {N : fs_N} (hk : nd k = some N) : fw_R g m_MO_about (fm_P g w0 mo ar (.int (bI N.2.2.2.1)) 0 (us, n, hu, hg, nd)) nc ns (fm_W g w0 mo ar (th, us, n, so, pl, po) F) 0 [(0, .ref mo), (1, .int (nI k)), (2, .int (nI 3))] [] := by
  obtain ⟨hok, hub, hgb⟩ := id hs
  have hus := hok.2.1
  have hn := hok.2.2.1
  have hk150 := fm_k hok hk
  obtain ⟨c5, c6, c8, c9, c10⟩ := hc.2.2.2.2.2.1 k N hk
  obtain ⟨-, hk0, how, hlen, hes, hch, hdep⟩ := hok.2.2.2.2 k N hk
  have c7 := hc.2.2.2.2.1 k hk150
  rw [fm_sl_at hk] at c7
  refine fr_aload_n (pc := 0) d_MO_about_0 rfl rfl ?_
  refine fr_aload_n (pc := 1) d_MO_about_1 rfl rfl ?_
  refine fr_iload_n (pc := 2) d_MO_about_2 rfl rfl ?_
  refine fr_callv_p (pc := 3) (nc := nc) (ns := ns) (N := m_MO_isNode) (rest := [.ref mo]) (as := [.int (nI k)]) d_MO_about_3 vc_MO_91 ⟨by decide, by decide, Nat.le_of_ble_eq_true rfl⟩ (Nat.le_of_ble_eq_true rfl) fm_mo (c_MO_isNode_y hA hk150 (fm_th hc hok hk)) rfl ?_
  refine fr_iload_n (pc := 6) d_MO_about_6 rfl rfl ?_
  refine fr_iconst (pc := 7) (v := 0) d_MO_about_7 (by decide) ?_
  refine fr_bipush (pc := 8) (v := 7) d_MO_about_8 (by decide) ?_
  refine fr_calls_p (pc := 10) (nc := nc) (ns := ns) (N := m_MO_within) (rest := [.int 1, .ref mo]) (as := [.int (nI 3), .int 0, .int 7]) d_MO_about_10 k_MO_within lk_MO_112 sc_MO_within np_MO_within ⟨by decide, by decide, Nat.le_of_ble_eq_true rfl⟩ (Nat.le_of_ble_eq_true rfl) (c_MO_within_y (fm_8 (r := 3) (by omega)).1 (fm_8 (r := 3) (by omega)).2) rfl ?_
  refine fr_iconst (pc := 13) (v := 1) d_MO_about_13 (by decide) ?_
  refine fr_callv_p (pc := 14) (nc := nc) (ns := ns) (N := m_MO_goes) (rest := []) (as := [.int 1, .int 1, .int 1]) d_MO_about_14 vc_MO_69 ⟨by decide, by decide, Nat.le_of_ble_eq_true rfl⟩ (Nat.le_of_ble_eq_true rfl) fm_mo (c_MO_goes0 hA) rfl ?_
  refine fr_if_ne (pc := 17) (tgt := 22) d_MO_about_17 (by decide) (fun _ => ?_) (fun q => absurd q (by decide))
  refine fr_iload_n (pc := 22) d_MO_about_22 rfl rfl ?_
  refine fr_tableIn (pc := 23) (off := 70) (tgt := 93) d_MO_about_23 (by decide) (by decide) (by decide) (by decide) ?_
  refine fr_aload_n (pc := 93) d_MO_about_93 rfl rfl ?_
  refine fr_get (pc := 94) (v := .ref (ar 6)) d_MO_about_94 fg_MO_32 fm_mo rfl ?_
  refine fr_iload_n (pc := 97) d_MO_about_97 rfl rfl ?_
  refine fr_mzld (pc := 98) (j := 6) (k := k) d_MO_about_98 hA (by decide) rfl (by show k < 150; omega) ?_
  refine fr_st (st2 := [.int (bI N.2.2.2.1)]) (by rw [c6]) ?_
  refine fr_if_eq (pc := 99) (tgt := 106) d_MO_about_99 (by decide) (fun z => ?_) (fun z => ?_)
  · have z2 := bI_0.mp z
    refine fr_iconst (pc := 106) (v := 0) d_MO_about_106 (by decide) ?_
    refine fr_st (st2 := [.int (bI N.2.2.2.1)]) (by rw [z2]; rfl) ?_
    exact fr_iret rfl d_MO_about_107 ⟨rfl, _, _, _, _, rfl, hc⟩
  · have z2 := ts_nf (fun x => z (bI_0.mpr x))
    refine fr_iconst (pc := 102) (v := 1) d_MO_about_102 (by decide) ?_
    refine fr_goto (pc := 103) (tgt := 107) d_MO_about_103 (by decide) ?_
    refine fr_st (st2 := [.int (bI N.2.2.2.1)]) (by rw [z2]; rfl) ?_
    exact fr_iret rfl d_MO_about_107 ⟨rfl, _, _, _, _, rfl, hc⟩
theorem p_MO_about_4 {g : fw_G} {nc ns : Nat} {w0 : fw_W} {mo : Nat} {ar : Nat → Nat} (hA : fm_ad mo ar) {th so pl po : Int32} {us n : Nat} {F : fm_F} {hu hg : Nat → Nat → Bool} {nd : fs_D} (hc : fm_c us n hu hg nd F) (hs : fm_S us n hu hg nd) {k : Nat} {N : fs_N} (hk : nd k = some N) : fw_R g m_MO_about (fm_P g w0 mo ar (.int (nI (fs_ab nd k).length)) 0 (us, n, hu, hg, nd)) nc ns (fm_W g w0 mo ar (th, us, n, so, pl, po) F) 0 [(0, .ref mo), (1, .int (nI k)), (2, .int (nI 4))] [] := by
  obtain ⟨hok, hub, hgb⟩ := id hs
  have hus := hok.2.1
  have hn := hok.2.2.1
  have hk150 := fm_k hok hk
  obtain ⟨c5, c6, c8, c9, c10⟩ := hc.2.2.2.2.2.1 k N hk
  obtain ⟨-, hk0, how, hlen, hes, hch, hdep⟩ := hok.2.2.2.2 k N hk
  have c7 := hc.2.2.2.2.1 k hk150
  rw [fm_sl_at hk] at c7
  refine fr_aload_n (pc := 0) d_MO_about_0 rfl rfl ?_
  refine fr_aload_n (pc := 1) d_MO_about_1 rfl rfl ?_
  refine fr_iload_n (pc := 2) d_MO_about_2 rfl rfl ?_
  refine fr_callv_p (pc := 3) (nc := nc) (ns := ns) (N := m_MO_isNode) (rest := [.ref mo]) (as := [.int (nI k)]) d_MO_about_3 vc_MO_91 ⟨by decide, by decide, Nat.le_of_ble_eq_true rfl⟩ (Nat.le_of_ble_eq_true rfl) fm_mo (c_MO_isNode_y hA hk150 (fm_th hc hok hk)) rfl ?_
  refine fr_iload_n (pc := 6) d_MO_about_6 rfl rfl ?_
  refine fr_iconst (pc := 7) (v := 0) d_MO_about_7 (by decide) ?_
  refine fr_bipush (pc := 8) (v := 7) d_MO_about_8 (by decide) ?_
  refine fr_calls_p (pc := 10) (nc := nc) (ns := ns) (N := m_MO_within) (rest := [.int 1, .ref mo]) (as := [.int (nI 4), .int 0, .int 7]) d_MO_about_10 k_MO_within lk_MO_112 sc_MO_within np_MO_within ⟨by decide, by decide, Nat.le_of_ble_eq_true rfl⟩ (Nat.le_of_ble_eq_true rfl) (c_MO_within_y (fm_8 (r := 4) (by omega)).1 (fm_8 (r := 4) (by omega)).2) rfl ?_
  refine fr_iconst (pc := 13) (v := 1) d_MO_about_13 (by decide) ?_
  refine fr_callv_p (pc := 14) (nc := nc) (ns := ns) (N := m_MO_goes) (rest := []) (as := [.int 1, .int 1, .int 1]) d_MO_about_14 vc_MO_69 ⟨by decide, by decide, Nat.le_of_ble_eq_true rfl⟩ (Nat.le_of_ble_eq_true rfl) fm_mo (c_MO_goes0 hA) rfl ?_
  refine fr_if_ne (pc := 17) (tgt := 22) d_MO_about_17 (by decide) (fun _ => ?_) (fun q => absurd q (by decide))
  refine fr_iload_n (pc := 22) d_MO_about_22 rfl rfl ?_
  refine fr_tableIn (pc := 23) (off := 85) (tgt := 108) d_MO_about_23 (by decide) (by decide) (by decide) (by decide) ?_
  refine fr_aload_n (pc := 108) d_MO_about_108 rfl rfl ?_
  refine fr_iload_n (pc := 109) d_MO_about_109 rfl rfl ?_
  refine fr_callv_p (pc := 110) (nc := nc) (ns := ns) (N := m_MO_depth) (rest := []) (as := [.int (nI k)]) d_MO_about_110 vc_MO_94 ⟨by decide, by decide, Nat.le_of_ble_eq_true rfl⟩ (Nat.le_of_ble_eq_true rfl) fm_mo (c_MO_depth hA (fm_p_c hc hok) hch) rfl ?_
  exact fr_iret rfl d_MO_about_113 ⟨rfl, _, _, _, _, rfl, hc⟩
theorem p_MO_about_5 {g : fw_G} {nc ns : Nat} {w0 : fw_W} {mo : Nat} {ar : Nat → Nat} (hA : fm_ad mo ar) {th so pl po : Int32} {us n : Nat} {F : fm_F} {hu hg : Nat → Nat → Bool} {nd : fs_D} (hc : fm_c us n hu hg nd F) (hs : fm_S us n hu hg nd) {k : Nat} {N : fs_N} (hk : nd k = some N) : fw_R g m_MO_about (fm_P g w0 mo ar (.int (nI N.2.2.2.2.2.length)) 0 (us, n, hu, hg, nd)) nc ns (fm_W g w0 mo ar (th, us, n, so, pl, po) F) 0 [(0, .ref mo), (1, .int (nI k)), (2, .int (nI 5))] [] := by
  obtain ⟨hok, hub, hgb⟩ := id hs
  have hus := hok.2.1
  have hn := hok.2.2.1
  have hk150 := fm_k hok hk
  obtain ⟨c5, c6, c8, c9, c10⟩ := hc.2.2.2.2.2.1 k N hk
  obtain ⟨-, hk0, how, hlen, hes, hch, hdep⟩ := hok.2.2.2.2 k N hk
  have c7 := hc.2.2.2.2.1 k hk150
  rw [fm_sl_at hk] at c7
  refine fr_aload_n (pc := 0) d_MO_about_0 rfl rfl ?_
  refine fr_aload_n (pc := 1) d_MO_about_1 rfl rfl ?_
  refine fr_iload_n (pc := 2) d_MO_about_2 rfl rfl ?_
  refine fr_callv_p (pc := 3) (nc := nc) (ns := ns) (N := m_MO_isNode) (rest := [.ref mo]) (as := [.int (nI k)]) d_MO_about_3 vc_MO_91 ⟨by decide, by decide, Nat.le_of_ble_eq_true rfl⟩ (Nat.le_of_ble_eq_true rfl) fm_mo (c_MO_isNode_y hA hk150 (fm_th hc hok hk)) rfl ?_
  refine fr_iload_n (pc := 6) d_MO_about_6 rfl rfl ?_
  refine fr_iconst (pc := 7) (v := 0) d_MO_about_7 (by decide) ?_
  refine fr_bipush (pc := 8) (v := 7) d_MO_about_8 (by decide) ?_
  refine fr_calls_p (pc := 10) (nc := nc) (ns := ns) (N := m_MO_within) (rest := [.int 1, .ref mo]) (as := [.int (nI 5), .int 0, .int 7]) d_MO_about_10 k_MO_within lk_MO_112 sc_MO_within np_MO_within ⟨by decide, by decide, Nat.le_of_ble_eq_true rfl⟩ (Nat.le_of_ble_eq_true rfl) (c_MO_within_y (fm_8 (r := 5) (by omega)).1 (fm_8 (r := 5) (by omega)).2) rfl ?_
  refine fr_iconst (pc := 13) (v := 1) d_MO_about_13 (by decide) ?_
  refine fr_callv_p (pc := 14) (nc := nc) (ns := ns) (N := m_MO_goes) (rest := []) (as := [.int 1, .int 1, .int 1]) d_MO_about_14 vc_MO_69 ⟨by decide, by decide, Nat.le_of_ble_eq_true rfl⟩ (Nat.le_of_ble_eq_true rfl) fm_mo (c_MO_goes0 hA) rfl ?_
  refine fr_if_ne (pc := 17) (tgt := 22) d_MO_about_17 (by decide) (fun _ => ?_) (fun q => absurd q (by decide))
  refine fr_iload_n (pc := 22) d_MO_about_22 rfl rfl ?_
  refine fr_tableIn (pc := 23) (off := 91) (tgt := 114) d_MO_about_23 (by decide) (by decide) (by decide) (by decide) ?_
  refine fr_aload_n (pc := 114) d_MO_about_114 rfl rfl ?_
  refine fr_get (pc := 115) (v := .ref (ar 10)) d_MO_about_115 fg_MO_45 fm_mo rfl ?_
  refine fr_iload_n (pc := 118) d_MO_about_118 rfl rfl ?_
  refine fr_mild (pc := 119) (j := 10) (k := k) d_MO_about_119 hA (by decide) rfl (by show k < 150; omega) ?_
  refine fr_st (st2 := [.int (nI N.2.2.2.2.2.length)]) (by rw [c10]) ?_
  exact fr_iret rfl d_MO_about_120 ⟨rfl, _, _, _, _, rfl, hc⟩
theorem p_MO_about_6 {g : fw_G} {nc ns : Nat} {w0 : fw_W} {mo : Nat} {ar : Nat → Nat} (hA : fm_ad mo ar) {th so pl po : Int32} {us n : Nat} {F : fm_F} {hu hg : Nat → Nat → Bool} {nd : fs_D} (hc : fm_c us n hu hg nd F) (hs : fm_S us n hu hg nd) {k : Nat} {N : fs_N} (hk : nd k = some N) : fw_R g m_MO_about (fm_P g w0 mo ar (.int (nI (fs_sum (fs_f4 nd k) 150 0))) 0 (us, n, hu, hg, nd)) nc ns (fm_W g w0 mo ar (th, us, n, so, pl, po) F) 0 [(0, .ref mo), (1, .int (nI k)), (2, .int (nI 6))] [] := by
  obtain ⟨hok, hub, hgb⟩ := id hs
  have hus := hok.2.1
  have hn := hok.2.2.1
  have hk150 := fm_k hok hk
  obtain ⟨c5, c6, c8, c9, c10⟩ := hc.2.2.2.2.2.1 k N hk
  obtain ⟨-, hk0, how, hlen, hes, hch, hdep⟩ := hok.2.2.2.2 k N hk
  have c7 := hc.2.2.2.2.1 k hk150
  rw [fm_sl_at hk] at c7
  refine fr_aload_n (pc := 0) d_MO_about_0 rfl rfl ?_
  refine fr_aload_n (pc := 1) d_MO_about_1 rfl rfl ?_
  refine fr_iload_n (pc := 2) d_MO_about_2 rfl rfl ?_
  refine fr_callv_p (pc := 3) (nc := nc) (ns := ns) (N := m_MO_isNode) (rest := [.ref mo]) (as := [.int (nI k)]) d_MO_about_3 vc_MO_91 ⟨by decide, by decide, Nat.le_of_ble_eq_true rfl⟩ (Nat.le_of_ble_eq_true rfl) fm_mo (c_MO_isNode_y hA hk150 (fm_th hc hok hk)) rfl ?_
  refine fr_iload_n (pc := 6) d_MO_about_6 rfl rfl ?_
  refine fr_iconst (pc := 7) (v := 0) d_MO_about_7 (by decide) ?_
  refine fr_bipush (pc := 8) (v := 7) d_MO_about_8 (by decide) ?_
  refine fr_calls_p (pc := 10) (nc := nc) (ns := ns) (N := m_MO_within) (rest := [.int 1, .ref mo]) (as := [.int (nI 6), .int 0, .int 7]) d_MO_about_10 k_MO_within lk_MO_112 sc_MO_within np_MO_within ⟨by decide, by decide, Nat.le_of_ble_eq_true rfl⟩ (Nat.le_of_ble_eq_true rfl) (c_MO_within_y (fm_8 (r := 6) (by omega)).1 (fm_8 (r := 6) (by omega)).2) rfl ?_
  refine fr_iconst (pc := 13) (v := 1) d_MO_about_13 (by decide) ?_
  refine fr_callv_p (pc := 14) (nc := nc) (ns := ns) (N := m_MO_goes) (rest := []) (as := [.int 1, .int 1, .int 1]) d_MO_about_14 vc_MO_69 ⟨by decide, by decide, Nat.le_of_ble_eq_true rfl⟩ (Nat.le_of_ble_eq_true rfl) fm_mo (c_MO_goes0 hA) rfl ?_
  refine fr_if_ne (pc := 17) (tgt := 22) d_MO_about_17 (by decide) (fun _ => ?_) (fun q => absurd q (by decide))
  refine fr_iload_n (pc := 22) d_MO_about_22 rfl rfl ?_
  refine fr_tableIn (pc := 23) (off := 98) (tgt := 121) d_MO_about_23 (by decide) (by decide) (by decide) (by decide) ?_
  refine fr_aload_n (pc := 121) d_MO_about_121 rfl rfl ?_
  refine fr_iload_n (pc := 122) d_MO_about_122 rfl rfl ?_
  refine fr_callv_p (pc := 123) (nc := nc) (ns := ns) (N := m_MO_children) (rest := []) (as := [.int (nI k)]) d_MO_about_123 vc_MO_109 ⟨by decide, by decide, Nat.le_of_ble_eq_true rfl⟩ (Nat.le_of_ble_eq_true rfl) fm_mo (c_MO_children hA (fm_p_c hc hok) hc.2.2.2.1 hk150 (fm_pp hok) hok.2.2.2.1) rfl ?_
  exact fr_iret rfl d_MO_about_126 ⟨rfl, _, _, _, _, rfl, hc⟩
theorem p_MO_about_7 {g : fw_G} {nc ns : Nat} {w0 : fw_W} {mo : Nat} {ar : Nat → Nat} (hA : fm_ad mo ar) {th so pl po : Int32} {us n : Nat} {F : fm_F} {hu hg : Nat → Nat → Bool} {nd : fs_D} (hc : fm_c us n hu hg nd F) (hs : fm_S us n hu hg nd) {k : Nat} {N : fs_N} (hk : nd k = some N) : fw_R g m_MO_about (fm_P g w0 mo ar (.int (bI N.2.2.2.2.1)) 0 (us, n, hu, hg, nd)) nc ns (fm_W g w0 mo ar (th, us, n, so, pl, po) F) 0 [(0, .ref mo), (1, .int (nI k)), (2, .int (nI 7))] [] := by
  obtain ⟨hok, hub, hgb⟩ := id hs
  have hus := hok.2.1
  have hn := hok.2.2.1
  have hk150 := fm_k hok hk
  obtain ⟨c5, c6, c8, c9, c10⟩ := hc.2.2.2.2.2.1 k N hk
  obtain ⟨-, hk0, how, hlen, hes, hch, hdep⟩ := hok.2.2.2.2 k N hk
  have c7 := hc.2.2.2.2.1 k hk150
  rw [fm_sl_at hk] at c7
  refine fr_aload_n (pc := 0) d_MO_about_0 rfl rfl ?_
  refine fr_aload_n (pc := 1) d_MO_about_1 rfl rfl ?_
  refine fr_iload_n (pc := 2) d_MO_about_2 rfl rfl ?_
  refine fr_callv_p (pc := 3) (nc := nc) (ns := ns) (N := m_MO_isNode) (rest := [.ref mo]) (as := [.int (nI k)]) d_MO_about_3 vc_MO_91 ⟨by decide, by decide, Nat.le_of_ble_eq_true rfl⟩ (Nat.le_of_ble_eq_true rfl) fm_mo (c_MO_isNode_y hA hk150 (fm_th hc hok hk)) rfl ?_
  refine fr_iload_n (pc := 6) d_MO_about_6 rfl rfl ?_
  refine fr_iconst (pc := 7) (v := 0) d_MO_about_7 (by decide) ?_
  refine fr_bipush (pc := 8) (v := 7) d_MO_about_8 (by decide) ?_
  refine fr_calls_p (pc := 10) (nc := nc) (ns := ns) (N := m_MO_within) (rest := [.int 1, .ref mo]) (as := [.int (nI 7), .int 0, .int 7]) d_MO_about_10 k_MO_within lk_MO_112 sc_MO_within np_MO_within ⟨by decide, by decide, Nat.le_of_ble_eq_true rfl⟩ (Nat.le_of_ble_eq_true rfl) (c_MO_within_y (fm_8 (r := 7) (by omega)).1 (fm_8 (r := 7) (by omega)).2) rfl ?_
  refine fr_iconst (pc := 13) (v := 1) d_MO_about_13 (by decide) ?_
  refine fr_callv_p (pc := 14) (nc := nc) (ns := ns) (N := m_MO_goes) (rest := []) (as := [.int 1, .int 1, .int 1]) d_MO_about_14 vc_MO_69 ⟨by decide, by decide, Nat.le_of_ble_eq_true rfl⟩ (Nat.le_of_ble_eq_true rfl) fm_mo (c_MO_goes0 hA) rfl ?_
  refine fr_if_ne (pc := 17) (tgt := 22) d_MO_about_17 (by decide) (fun _ => ?_) (fun q => absurd q (by decide))
  refine fr_iload_n (pc := 22) d_MO_about_22 rfl rfl ?_
  refine fr_tableOut (pc := 23) (tgt := 127) d_MO_about_23 (by decide) (by decide) ?_
  refine fr_aload_n (pc := 127) d_MO_about_127 rfl rfl ?_
  refine fr_get (pc := 128) (v := .ref (ar 7)) d_MO_about_128 fg_MO_35 fm_mo rfl ?_
  refine fr_iload_n (pc := 131) d_MO_about_131 rfl rfl ?_
  refine fr_mzld (pc := 132) (j := 7) (k := k) d_MO_about_132 hA (by decide) rfl (by show k < 150; omega) ?_
  refine fr_st (st2 := [.int (bI N.2.2.2.2.1)]) (by rw [c7]) ?_
  refine fr_if_eq (pc := 133) (tgt := 140) d_MO_about_133 (by decide) (fun z => ?_) (fun z => ?_)
  · have z2 := bI_0.mp z
    refine fr_iconst (pc := 140) (v := 0) d_MO_about_140 (by decide) ?_
    refine fr_st (st2 := [.int (bI N.2.2.2.2.1)]) (by rw [z2]; rfl) ?_
    exact fr_iret rfl d_MO_about_141 ⟨rfl, _, _, _, _, rfl, hc⟩
  · have z2 := ts_nf (fun x => z (bI_0.mpr x))
    refine fr_iconst (pc := 136) (v := 1) d_MO_about_136 (by decide) ?_
    refine fr_goto (pc := 137) (tgt := 141) d_MO_about_137 (by decide) ?_
    refine fr_st (st2 := [.int (bI N.2.2.2.2.1)]) (by rw [z2]; rfl) ?_
    exact fr_iret rfl d_MO_about_141 ⟨rfl, _, _, _, _, rfl, hc⟩
theorem p_MO_about_n1 {g : fw_G} {nc ns : Nat} {w0 : fw_W} {mo : Nat} {ar : Nat → Nat} (hA : fm_ad mo ar) {th so pl po : Int32} {us n : Nat} {F : fm_F} {hu hg : Nat → Nat → Bool} {nd : fs_D} (hc : fm_c us n hu hg nd F) (hs : fm_S us n hu hg nd) {x y : Int32} (hx : ∀ k, x = nI k → nd k = none) : fw_R g m_MO_about (fm_P g w0 mo ar (.int 0) 1 (us, n, hu, hg, nd)) nc ns (fm_W g w0 mo ar (th, us, n, so, pl, po) F) 0 [(0, .ref mo), (1, .int x), (2, .int y)] [] := by
  obtain ⟨hok, hub, hgb⟩ := id hs
  have hus := hok.2.1
  have hn := hok.2.2.1
  refine fr_aload_n (pc := 0) d_MO_about_0 rfl rfl ?_
  refine fr_aload_n (pc := 1) d_MO_about_1 rfl rfl ?_
  refine fr_iload_n (pc := 2) d_MO_about_2 rfl rfl ?_
  refine fr_callv_p (pc := 3) (nc := nc) (ns := ns) (N := m_MO_isNode) (rest := [.ref mo]) (as := [.int x]) d_MO_about_3 vc_MO_91 ⟨by decide, by decide, Nat.le_of_ble_eq_true rfl⟩ (Nat.le_of_ble_eq_true rfl) fm_mo (c_MO_isNode_n hA (fun k hk e => fm_nt hc hk (hx k e))) rfl ?_
  refine fr_iload_n (pc := 6) d_MO_about_6 rfl rfl ?_
  refine fr_iconst (pc := 7) (v := 0) d_MO_about_7 (by decide) ?_
  refine fr_bipush (pc := 8) (v := 7) d_MO_about_8 (by decide) ?_
  refine fr_calls_p (pc := 10) (nc := nc) (ns := ns) (N := m_MO_within) (rest := [.int 0, .ref mo]) (as := [.int y, .int 0, .int 7]) d_MO_about_10 k_MO_within lk_MO_112 sc_MO_within np_MO_within ⟨by decide, by decide, Nat.le_of_ble_eq_true rfl⟩ (Nat.le_of_ble_eq_true rfl) c_MO_within rfl ?_
  refine fr_iconst (pc := 13) (v := 1) d_MO_about_13 (by decide) ?_
  refine fr_callv_p (pc := 14) (nc := nc) (ns := ns) (N := m_MO_goes) (rest := []) (as := [.int 0, .int (bI (decide (0 ≤ y ∧ y ≤ 7))), .int 1]) d_MO_about_14 vc_MO_69 ⟨by decide, by decide, Nat.le_of_ble_eq_true rfl⟩ (Nat.le_of_ble_eq_true rfl) fm_mo (c_MO_goes1 hA) rfl ?_
  refine fr_if_ne (pc := 17) (tgt := 22) d_MO_about_17 (by decide) (fun q => absurd q (by decide)) (fun _ => ?_)
  refine fr_iconst (pc := 20) (v := 0) d_MO_about_20 (by decide) ?_
  exact fr_iret rfl d_MO_about_21 ⟨rfl, _, _, _, _, rfl, hc⟩
theorem p_MO_about_n2 {g : fw_G} {nc ns : Nat} {w0 : fw_W} {mo : Nat} {ar : Nat → Nat} (hA : fm_ad mo ar) {th so pl po : Int32} {us n : Nat} {F : fm_F} {hu hg : Nat → Nat → Bool} {nd : fs_D} (hc : fm_c us n hu hg nd F) (hs : fm_S us n hu hg nd) {k : Nat} {N : fs_N} (hk : nd k = some N) {y : Int32} (hy : fs_no2 y 8) : fw_R g m_MO_about (fm_P g w0 mo ar (.int 0) 2 (us, n, hu, hg, nd)) nc ns (fm_W g w0 mo ar (th, us, n, so, pl, po) F) 0 [(0, .ref mo), (1, .int (nI k)), (2, .int y)] [] := by
  obtain ⟨hok, hub, hgb⟩ := id hs
  have hus := hok.2.1
  have hn := hok.2.2.1
  have hk150 := fm_k hok hk
  obtain ⟨c5, c6, c8, c9, c10⟩ := hc.2.2.2.2.2.1 k N hk
  obtain ⟨-, hk0, how, hlen, hes, hch, hdep⟩ := hok.2.2.2.2 k N hk
  refine fr_aload_n (pc := 0) d_MO_about_0 rfl rfl ?_
  refine fr_aload_n (pc := 1) d_MO_about_1 rfl rfl ?_
  refine fr_iload_n (pc := 2) d_MO_about_2 rfl rfl ?_
  refine fr_callv_p (pc := 3) (nc := nc) (ns := ns) (N := m_MO_isNode) (rest := [.ref mo]) (as := [.int (nI k)]) d_MO_about_3 vc_MO_91 ⟨by decide, by decide, Nat.le_of_ble_eq_true rfl⟩ (Nat.le_of_ble_eq_true rfl) fm_mo (c_MO_isNode_y hA hk150 (fm_th hc hok hk)) rfl ?_
  refine fr_iload_n (pc := 6) d_MO_about_6 rfl rfl ?_
  refine fr_iconst (pc := 7) (v := 0) d_MO_about_7 (by decide) ?_
  refine fr_bipush (pc := 8) (v := 7) d_MO_about_8 (by decide) ?_
  refine fr_calls_p (pc := 10) (nc := nc) (ns := ns) (N := m_MO_within) (rest := [.int 1, .ref mo]) (as := [.int y, .int 0, .int 7]) d_MO_about_10 k_MO_within lk_MO_112 sc_MO_within np_MO_within ⟨by decide, by decide, Nat.le_of_ble_eq_true rfl⟩ (Nat.le_of_ble_eq_true rfl) (c_MO_within_n (fm_no (m := 7) (by omega) hy)) rfl ?_
  refine fr_iconst (pc := 13) (v := 1) d_MO_about_13 (by decide) ?_
  refine fr_callv_p (pc := 14) (nc := nc) (ns := ns) (N := m_MO_goes) (rest := []) (as := [.int 1, .int 0, .int 1]) d_MO_about_14 vc_MO_69 ⟨by decide, by decide, Nat.le_of_ble_eq_true rfl⟩ (Nat.le_of_ble_eq_true rfl) fm_mo (c_MO_goes2 hA) rfl ?_
  refine fr_if_ne (pc := 17) (tgt := 22) d_MO_about_17 (by decide) (fun q => absurd q (by decide)) (fun _ => ?_)
  refine fr_iconst (pc := 20) (v := 0) d_MO_about_20 (by decide) ?_
  exact fr_iret rfl d_MO_about_21 ⟨rfl, _, _, _, _, rfl, hc⟩
theorem fm_c_7 {us n : Nat} {hu hg : Nat → Nat → Bool} {nd nd2 : fs_D} {F : fm_F} {f : Nat → Int32} (hc : fm_c us n hu hg nd F) (h1 : ∀ k, (nd k = none ∧ nd2 k = none) ∨ ∃ N b, nd k = some N ∧ nd2 k = some (fs_st N b)) (h2 : ∀ k, k < 150 → f k = bI (fm_sl nd2 k)) (h3 : ∀ k, f k = 0 ∨ f k = 1) : fm_c us n hu hg nd2 (fm_s F 7 f) := by
  obtain ⟨e0, e1, e3, e4, e7, eN, eE, eB⟩ := hc
  have key : ∀ k M, nd2 k = some M → ∃ N b, nd k = some N ∧ M = fs_st N b := by
    intro k M hM
    rcases h1 k with ⟨-, q⟩ | ⟨N, b, q1, q2⟩
    · rw [q] at hM; cases hM
    · rw [q2] at hM; cases hM; exact ⟨N, b, q1, rfl⟩
  refine ⟨fun i u h1 h2 => by rw [fm_s_ne (by decide)]; exact e0 i u h1 h2, fun i u h1 h2 => by rw [fm_s_ne (by decide)]; exact e1 i u h1 h2, fun i u h1 h2 => by rw [fm_s_ne (by decide)]; exact e3 i u h1 h2, fun j hj => ?_, fun j hj => by rw [fm_s_self]; exact h2 j hj, fun j M hj => ?_, fun j M i E hj hE => ?_, fun j i hj => ?_⟩
  · rw [fm_s_ne (by decide), e4 j hj]
    rcases h1 j with ⟨q1, q2⟩ | ⟨N, b, q1, q2⟩
    · rw [q1, q2]
    · rw [q1, q2]; rfl
  · obtain ⟨N, b, q1, rfl⟩ := key j M hj
    rw [fm_s_ne (by decide), fm_s_ne (by decide), fm_s_ne (by decide), fm_s_ne (by decide), fm_s_ne (by decide)]
    exact eN j N q1
  · obtain ⟨N, b, q1, rfl⟩ := key j M hj
    rw [fm_s_ne (by decide), fm_s_ne (by decide), fm_s_ne (by decide), fm_s_ne (by decide), fm_s_ne (by decide)]
    exact eE j N i E q1 hE
  · by_cases e : j = 7
    · subst e; rw [fm_s_self]; exact h3 i
    · rw [fm_s_ne e]; exact eB j i hj
theorem fm_sf_01 {nd : fs_D} {t i : Nat} {b : Bool} {f : Nat → Int32} (h : ∀ k, f k = 0 ∨ f k = 1) (k : Nat) : fm_sf nd t b f i k = 0 ∨ fm_sf nd t b f i k = 1 := by
  unfold fm_sf
  split
  · split
    · exact Or.inr rfl
    · exact h k
  · exact h k
theorem fs_st_st {N : fs_N} {b c : Bool} : fs_st (fs_st N b) c = fs_st N c := rfl
theorem fs_st_id {N : fs_N} : fs_st N N.2.2.2.2.1 = N := rfl
theorem fm_c_mk {us n : Nat} {hu hg : Nat → Nat → Bool} {nd : fs_D} {F : fm_F} (hc : fm_c us n hu hg nd F) {t : Nat} : fm_c us n hu hg (fs_mk nd t 150) (fm_s F 7 (fm_sf nd t false (F 7) 150)) := by
  refine fm_c_7 hc (fun k => ?_) (fun k hk => ?_) (fm_sf_01 (fun k => hc.2.2.2.2.2.2.2 7 k (by omega)))
  · cases h : nd k with
    | none => exact Or.inl ⟨rfl, by simp [fs_mk, h]⟩
    | some N =>
      refine Or.inr ⟨N, (if k < 150 ∧ k ≠ t ∧ fs_un nd k t = true then true else N.2.2.2.2.1), rfl, ?_⟩
      simp only [fs_mk, h]
      split <;> rfl
  · have e7 := hc.2.2.2.2.1 k hk
    unfold fm_sf
    rw [if_pos hk]
    cases h : nd k with
    | none =>
      rw [fm_sl_no h] at e7
      rw [fm_sl_no (by simp [fs_mk, h])]
      simp [fm_sp, h, e7]
    | some N =>
      rw [fm_sl_at h] at e7
      have h2 : fs_mk nd t 150 k = some (if k < 150 ∧ k ≠ t ∧ fs_un nd k t = true then fs_st N true else N) := by simp only [fs_mk, h]
      rw [fm_sl_at h2, e7]
      by_cases q : k ≠ t ∧ fs_un nd k t = true
      · have : fm_sp nd t false k = true := by simp [fm_sp, h, q.1, q.2]
        rw [if_pos this, if_pos ⟨hk, q⟩]; rfl
      · have : ¬ fm_sp nd t false k = true := by
          intro z
          simp [fm_sp, h] at z
          exact q ⟨z.2, z.1⟩
        rw [if_neg this, if_neg (fun z => q z.2)]
theorem fm_c_mk1 {us n : Nat} {hu hg : Nat → Nat → Bool} {nd : fs_D} {F : fm_F} (hc : fm_c us n hu hg nd F) {t : Nat} {T : fs_N} (ht : nd t = some T) : fm_c us n hu hg (va_up (fs_mk nd t 150) t (some (fs_st T true))) (fm_s F 7 (fm_sf nd t true (F 7) 150)) := by
  have hmk : ∀ k N, nd k = some N → k ≠ t → va_up (fs_mk nd t 150) t (some (fs_st T true)) k = some (if k < 150 ∧ k ≠ t ∧ fs_un nd k t = true then fs_st N true else N) := by
    intro k N h e
    rw [vu_ne e]; simp only [fs_mk, h]
  refine fm_c_7 hc (fun k => ?_) (fun k hk => ?_) (fm_sf_01 (fun k => hc.2.2.2.2.2.2.2 7 k (by omega)))
  · by_cases e : k = t
    · subst e; exact Or.inr ⟨T, true, ht, vu_self⟩
    · cases h : nd k with
      | none => exact Or.inl ⟨rfl, by rw [vu_ne e]; simp [fs_mk, h]⟩
      | some N =>
        refine Or.inr ⟨N, (if k < 150 ∧ k ≠ t ∧ fs_un nd k t = true then true else N.2.2.2.2.1), rfl, ?_⟩
        rw [hmk k N h e]
        split <;> rfl
  · have e7 := hc.2.2.2.2.1 k hk
    unfold fm_sf
    rw [if_pos hk]
    by_cases e : k = t
    · subst e
      rw [fm_sl_at vu_self]
      have : fm_sp nd k true k = true := by simp [fm_sp, ht, fs_un]
      rw [if_pos this]; rfl
    · cases h : nd k with
      | none =>
        rw [fm_sl_no h] at e7
        rw [fm_sl_no (by rw [vu_ne e]; simp [fs_mk, h])]
        simp [fm_sp, h, e7]
      | some N =>
        rw [fm_sl_at h] at e7
        rw [fm_sl_at (hmk k N h e), e7]
        by_cases q : fs_un nd k t = true
        · have : fm_sp nd t true k = true := by simp [fm_sp, h, q]
          rw [if_pos this, if_pos ⟨hk, e, q⟩]; rfl
        · have : ¬ fm_sp nd t true k = true := by
            intro z
            simp [fm_sp, h] at z
            exact q z
          rw [if_neg this, if_neg (fun z => q z.2.2)]
theorem vu_idn {nd : fs_D} {k : Nat} {N : fs_N} (h : nd k = some N) : va_up nd k (some N) = nd := by rw [← h]; exact vu_id
theorem p_MO_block_n1 {g : fw_G} {nc ns : Nat} {w0 : fw_W} {mo : Nat} {ar : Nat → Nat} (hA : fm_ad mo ar) {th so pl po : Int32} {us n : Nat} {F : fm_F} {hu hg : Nat → Nat → Bool} {nd : fs_D} (hc : fm_c us n hu hg nd F) (hs : fm_S us n hu hg nd) {x : Int32} {b : Bool} (hx : ∀ k, x = nI k → nd k = none) : fw_R g m_MO_block (fm_P g w0 mo ar (.int 0) 1 (us, n, hu, hg, nd)) nc ns (fm_W g w0 mo ar (th, us, n, so, pl, po) F) 0 [(0, .ref mo), (1, .int x), (2, .int (bI b))] [] := by
  obtain ⟨hok, hub, hgb⟩ := id hs
  have hus := hok.2.1
  have hn := hok.2.2.1
  refine fr_aload_n (pc := 0) d_MO_block_0 rfl rfl ?_
  refine fr_aload_n (pc := 1) d_MO_block_1 rfl rfl ?_
  refine fr_iload_n (pc := 2) d_MO_block_2 rfl rfl ?_
  refine fr_callv_p (pc := 3) (nc := nc) (ns := ns) (N := m_MO_isNode) (rest := [.ref mo]) (as := [.int x]) d_MO_block_3 vc_MO_91 ⟨by decide, by decide, Nat.le_of_ble_eq_true rfl⟩ (Nat.le_of_ble_eq_true rfl) fm_mo (c_MO_isNode_n hA (fun k hk e => fm_nt hc hk (hx k e))) rfl ?_
  refine fr_iconst (pc := 6) (v := 1) d_MO_block_6 (by decide) ?_
  refine fr_iconst (pc := 7) (v := 1) d_MO_block_7 (by decide) ?_
  refine fr_callv_p (pc := 8) (nc := nc) (ns := ns) (N := m_MO_goes) (rest := []) (as := [.int 0, .int 1, .int 1]) d_MO_block_8 vc_MO_69 ⟨by decide, by decide, Nat.le_of_ble_eq_true rfl⟩ (Nat.le_of_ble_eq_true rfl) fm_mo (c_MO_goes1 hA) rfl ?_
  refine fr_if_ne (pc := 11) (tgt := 16) d_MO_block_11 (by decide) (fun q => absurd q (by decide)) (fun _ => ?_)
  refine fr_iconst (pc := 14) (v := 0) d_MO_block_14 (by decide) ?_
  exact fr_zret rfl (by first | exact bI_01 _ | exact Or.inl rfl | exact Or.inr rfl) d_MO_block_15 ⟨rfl, _, _, _, _, rfl, hc⟩
theorem p_MO_block_eq {g : fw_G} {nc ns : Nat} {w0 : fw_W} {mo : Nat} {ar : Nat → Nat} (hA : fm_ad mo ar) {th so pl po : Int32} {us n : Nat} {F : fm_F} {hu hg : Nat → Nat → Bool} {nd : fs_D} (hc : fm_c us n hu hg nd F) (hs : fm_S us n hu hg nd) {k : Nat} {N : fs_N} (hk : nd k = some N) {b : Bool} (hb3 : N.2.2.2.1 = b) : fw_R g m_MO_block (fm_P g w0 mo ar (.int (bI N.2.2.2.1)) 0 (us, n, hu, hg, nd)) nc ns (fm_W g w0 mo ar (th, us, n, so, pl, po) F) 0 [(0, .ref mo), (1, .int (nI k)), (2, .int (bI b))] [] := by
  obtain ⟨hok, hub, hgb⟩ := id hs
  have hus := hok.2.1
  have hn := hok.2.2.1
  have hk150 := fm_k hok hk
  obtain ⟨c5, c6, c8, c9, c10⟩ := hc.2.2.2.2.2.1 k N hk
  obtain ⟨-, hk0, how, hlen, hes, hch, hdep⟩ := hok.2.2.2.2 k N hk
  have c7 := hc.2.2.2.2.1 k hk150
  rw [fm_sl_at hk] at c7
  have hc1 : fm_c us n hu hg nd (fm_e F 6 k (bI b)) := by
    have h := fm_c_up hc (N2 := (N.1, N.2.1, N.2.2.1, b, N.2.2.2.2.1, N.2.2.2.2.2)) (F2 := fm_e F 6 k (bI b)) hk rfl (fm_e_hs (by omega)) fm_e_hm (by rw [fm_e_ne (by decide)]; exact c5) fm_e_self (by rw [fm_e_ne (by decide)]; exact c7) (by rw [fm_e_ne (by decide)]; exact c8) (by rw [fm_e_ne (by decide)]; exact c9) (by rw [fm_e_ne (by decide)])
    have e : (N.1, N.2.1, N.2.2.1, b, N.2.2.2.2.1, N.2.2.2.2.2) = N := by rw [← hb3]
    rw [e, vu_idn hk] at h
    exact h
  refine fr_aload_n (pc := 0) d_MO_block_0 rfl rfl ?_
  refine fr_aload_n (pc := 1) d_MO_block_1 rfl rfl ?_
  refine fr_iload_n (pc := 2) d_MO_block_2 rfl rfl ?_
  refine fr_callv_p (pc := 3) (nc := nc) (ns := ns) (N := m_MO_isNode) (rest := [.ref mo]) (as := [.int (nI k)]) d_MO_block_3 vc_MO_91 ⟨by decide, by decide, Nat.le_of_ble_eq_true rfl⟩ (Nat.le_of_ble_eq_true rfl) fm_mo (c_MO_isNode_y hA hk150 (fm_th hc hok hk)) rfl ?_
  refine fr_iconst (pc := 6) (v := 1) d_MO_block_6 (by decide) ?_
  refine fr_iconst (pc := 7) (v := 1) d_MO_block_7 (by decide) ?_
  refine fr_callv_p (pc := 8) (nc := nc) (ns := ns) (N := m_MO_goes) (rest := []) (as := [.int 1, .int 1, .int 1]) d_MO_block_8 vc_MO_69 ⟨by decide, by decide, Nat.le_of_ble_eq_true rfl⟩ (Nat.le_of_ble_eq_true rfl) fm_mo (c_MO_goes0 hA) rfl ?_
  refine fr_if_ne (pc := 11) (tgt := 16) d_MO_block_11 (by decide) (fun _ => ?_) (fun q => absurd q (by decide))
  refine fr_aload_n (pc := 16) d_MO_block_16 rfl rfl ?_
  refine fr_get (pc := 17) (v := .ref (ar 6)) d_MO_block_17 fg_MO_32 fm_mo rfl ?_
  refine fr_iload_n (pc := 20) d_MO_block_20 rfl rfl ?_
  refine fr_mzld (pc := 21) (j := 6) (k := k) d_MO_block_21 hA (by decide) rfl (by show k < 150; omega) ?_
  refine fr_st (st2 := [.int (bI N.2.2.2.1)]) (by rw [c6]) ?_
  refine fr_istore_n (pc := 22) (L2 := [(0, .ref mo), (1, .int (nI k)), (2, .int (bI b)), (3, .int (bI N.2.2.2.1))]) d_MO_block_22 rfl (by decide) rfl ?_
  refine fr_aload_n (pc := 23) d_MO_block_23 rfl rfl ?_
  refine fr_get (pc := 24) (v := .ref (ar 6)) d_MO_block_24 fg_MO_32 fm_mo rfl ?_
  refine fr_iload_n (pc := 27) d_MO_block_27 rfl rfl ?_
  refine fr_iload_n (pc := 28) d_MO_block_28 rfl rfl ?_
  refine fr_mzst (pc := 29) (j := 6) (k := k) (x := (bI b)) d_MO_block_29 hA (by decide) rfl (by show k < 150; omega) (bI_01 _) ?_
  refine fr_iload_n (pc := 30) d_MO_block_30 rfl rfl ?_
  refine fr_iload_n (pc := 31) d_MO_block_31 rfl rfl ?_
  refine fr_icmp_eq (pc := 32) (tgt := 41) d_MO_block_32 (by decide) (fun q => ?_) (fun q => ?_)
  · refine fr_iload_n (pc := 41) d_MO_block_41 rfl rfl ?_
    exact fr_zret rfl (by first | exact bI_01 _ | exact Or.inl rfl | exact Or.inr rfl) d_MO_block_42 ⟨rfl, _, _, _, _, rfl, hc1⟩
  · exact absurd (by rw [hb3]) q
theorem p_MO_block_ne {g : fw_G} {nc ns : Nat} {w0 : fw_W} {mo : Nat} {ar : Nat → Nat} (hA : fm_ad mo ar) {th so pl po : Int32} {us n : Nat} {F : fm_F} {hu hg : Nat → Nat → Bool} {nd : fs_D} (hc : fm_c us n hu hg nd F) (hs : fm_S us n hu hg nd) {k : Nat} {N : fs_N} (hk : nd k = some N) {b : Bool} (hb3 : ¬ N.2.2.2.1 = b) : fw_R g m_MO_block (fm_P g w0 mo ar (.int (bI N.2.2.2.1)) 0 (us, n, hu, hg, (va_up (fs_mk (va_up nd k (some (N.1, N.2.1, N.2.2.1, b, N.2.2.2.2.1, N.2.2.2.2.2))) k 150) k (some (N.1, N.2.1, N.2.2.1, b, true, N.2.2.2.2.2))))) nc ns (fm_W g w0 mo ar (th, us, n, so, pl, po) F) 0 [(0, .ref mo), (1, .int (nI k)), (2, .int (bI b))] [] := by
  obtain ⟨hok, hub, hgb⟩ := id hs
  have hus := hok.2.1
  have hn := hok.2.2.1
  have hk150 := fm_k hok hk
  obtain ⟨c5, c6, c8, c9, c10⟩ := hc.2.2.2.2.2.1 k N hk
  obtain ⟨-, hk0, how, hlen, hes, hch, hdep⟩ := hok.2.2.2.2 k N hk
  have c7 := hc.2.2.2.2.1 k hk150
  rw [fm_sl_at hk] at c7
  have hc1 := fm_c_up hc (N2 := (N.1, N.2.1, N.2.2.1, b, N.2.2.2.2.1, N.2.2.2.2.2)) (F2 := fm_e F 6 k (bI b)) hk rfl (fm_e_hs (by omega)) fm_e_hm (by rw [fm_e_ne (by decide)]; exact c5) fm_e_self (by rw [fm_e_ne (by decide)]; exact c7) (by rw [fm_e_ne (by decide)]; exact c8) (by rw [fm_e_ne (by decide)]; exact c9) (by rw [fm_e_ne (by decide)])
  have hok1 := fs_ok_up hok (N2 := (N.1, N.2.1, N.2.2.1, b, N.2.2.2.2.1, N.2.2.2.2.2)) hk rfl how hlen hes
  refine fr_aload_n (pc := 0) d_MO_block_0 rfl rfl ?_
  refine fr_aload_n (pc := 1) d_MO_block_1 rfl rfl ?_
  refine fr_iload_n (pc := 2) d_MO_block_2 rfl rfl ?_
  refine fr_callv_p (pc := 3) (nc := nc) (ns := ns) (N := m_MO_isNode) (rest := [.ref mo]) (as := [.int (nI k)]) d_MO_block_3 vc_MO_91 ⟨by decide, by decide, Nat.le_of_ble_eq_true rfl⟩ (Nat.le_of_ble_eq_true rfl) fm_mo (c_MO_isNode_y hA hk150 (fm_th hc hok hk)) rfl ?_
  refine fr_iconst (pc := 6) (v := 1) d_MO_block_6 (by decide) ?_
  refine fr_iconst (pc := 7) (v := 1) d_MO_block_7 (by decide) ?_
  refine fr_callv_p (pc := 8) (nc := nc) (ns := ns) (N := m_MO_goes) (rest := []) (as := [.int 1, .int 1, .int 1]) d_MO_block_8 vc_MO_69 ⟨by decide, by decide, Nat.le_of_ble_eq_true rfl⟩ (Nat.le_of_ble_eq_true rfl) fm_mo (c_MO_goes0 hA) rfl ?_
  refine fr_if_ne (pc := 11) (tgt := 16) d_MO_block_11 (by decide) (fun _ => ?_) (fun q => absurd q (by decide))
  refine fr_aload_n (pc := 16) d_MO_block_16 rfl rfl ?_
  refine fr_get (pc := 17) (v := .ref (ar 6)) d_MO_block_17 fg_MO_32 fm_mo rfl ?_
  refine fr_iload_n (pc := 20) d_MO_block_20 rfl rfl ?_
  refine fr_mzld (pc := 21) (j := 6) (k := k) d_MO_block_21 hA (by decide) rfl (by show k < 150; omega) ?_
  refine fr_st (st2 := [.int (bI N.2.2.2.1)]) (by rw [c6]) ?_
  refine fr_istore_n (pc := 22) (L2 := [(0, .ref mo), (1, .int (nI k)), (2, .int (bI b)), (3, .int (bI N.2.2.2.1))]) d_MO_block_22 rfl (by decide) rfl ?_
  refine fr_aload_n (pc := 23) d_MO_block_23 rfl rfl ?_
  refine fr_get (pc := 24) (v := .ref (ar 6)) d_MO_block_24 fg_MO_32 fm_mo rfl ?_
  refine fr_iload_n (pc := 27) d_MO_block_27 rfl rfl ?_
  refine fr_iload_n (pc := 28) d_MO_block_28 rfl rfl ?_
  refine fr_mzst (pc := 29) (j := 6) (k := k) (x := (bI b)) d_MO_block_29 hA (by decide) rfl (by show k < 150; omega) (bI_01 _) ?_
  refine fr_iload_n (pc := 30) d_MO_block_30 rfl rfl ?_
  refine fr_iload_n (pc := 31) d_MO_block_31 rfl rfl ?_
  refine fr_icmp_eq (pc := 32) (tgt := 41) d_MO_block_32 (by decide) (fun q => ?_) (fun q => ?_)
  · exact absurd (bI_inj.mp q) hb3
  · refine fr_aload_n (pc := 35) d_MO_block_35 rfl rfl ?_
    refine fr_iload_n (pc := 36) d_MO_block_36 rfl rfl ?_
    refine fr_iconst (pc := 37) (v := 1) d_MO_block_37 (by decide) ?_
    refine fr_callv_n (pc := 38) (nc := nc) (ns := ns) (N := m_MO_spread) (rest := []) (as := [.int (nI k), .int 1]) d_MO_block_38 vc_MO_105 ⟨by decide, by decide, Nat.le_of_ble_eq_true rfl⟩ (Nat.le_of_ble_eq_true rfl) fm_mo (c_MO_spread hA (fm_p_c hc1 hok1) hc1.2.2.2.1 (fun j => hc1.2.2.2.2.2.2.2 7 j (by omega)) (fs_ok_ch hok1) (t := k) (b := true) hk150) rfl ?_
    refine fr_iload_n (pc := 41) d_MO_block_41 rfl rfl ?_
    exact fr_zret rfl (by first | exact bI_01 _ | exact Or.inl rfl | exact Or.inr rfl) d_MO_block_42 ⟨rfl, _, _, _, _, rfl, fm_c_mk1 hc1 vu_self⟩

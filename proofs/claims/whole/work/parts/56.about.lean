theorem fs_no2_out {x : Int32} {n : Nat} (hn : n + 1 < 2 ^ 31) (h : fs_no2 x (n + 1)) : x.toInt < 0 ∨ (n : Int) < x.toInt := by
  by_cases h1 : x < 0
  · left
    have := Int32.lt_iff_toInt_lt.mp h1
    have e : (0 : Int32).toInt = 0 := rfl
    omega
  · right
    obtain ⟨h2, h3⟩ := ix_of h1
    have h4 : ¬ x.toNatClampNeg < n + 1 := fun z => h _ z h3
    have h5 : x.toNatClampNeg = x.toInt.toNat := rfl
    omega
theorem p_FR_about_0 {g : fw_G} {w : fw_W} {o gr a1 a2 a3 a4 na us n : Nat} {hu hg : Nat → Nat → Bool} {nd : fs_D} (hX : fs_X g (o, gr, a1, a2, a3, a4, na) (us, n, hu, hg, nd) w) {k : Nat} {N : fs_N} (hk : nd k = some N) : fw_R g m_FR_about (fs_P g (o, gr, a1, a2, a3, a4, na) w (.inl (some (.int (fs_ov N.2.1)))) (us, n, hu, hg, nd)) 2 12 w 0 [(0, .ref o), (1, .int (nI k)), (2, .int (nI 0))] [] := by
  obtain ⟨f1, f2, f3, f4, ad, lq, ld, lc, lt, hok, h0, hG, hR, hN, hr⟩ := fs_X_el hX
  obtain ⟨hk150, a, ha, hc, hl, hE⟩ := hr.2.1 k N hk
  obtain ⟨-, hk0, how, hlen, hes, hch, hdep⟩ := hok.2.2.2.2 k N hk
  refine fr_aload_n (pc := 0) d_FR_about_0 rfl rfl ?_
  refine fr_iload_n (pc := 1) d_FR_about_1 rfl rfl ?_
  refine fr_callv_p (pc := 2) (nc := 1) (ns := 6) (N := m_FR_nodeAt) (rest := []) (as := [.int (nI k)]) d_FR_about_2 vc_FR_63 ⟨by decide, by decide, Nat.le_of_ble_eq_true rfl⟩ (Nat.le_of_ble_eq_true rfl) h0 (c_FR_nodeAt h0 hN hk150 ha) rfl ?_
  refine fr_astore_n (pc := 5) (L2 := [(0, .ref o), (1, .int (nI k)), (2, .int (nI 0)), (3, .ref a)]) d_FR_about_5 rfl (by decide) rfl ?_
  refine fr_iload_n (pc := 6) d_FR_about_6 rfl rfl ?_
  refine fr_tableIn (pc := 7) (off := 45) (tgt := 52) d_FR_about_7 (by decide) (by decide) (by decide) (by decide) ?_
  refine fr_aload_n (pc := 52) d_FR_about_52 rfl rfl ?_
  refine fr_get (pc := 53) (v := va_rf (N.2.1.bind ad)) d_FR_about_53 fg_FR_103 hc rfl ?_
  cases hp : N.2.1 with
  | none =>
    refine fr_st (st2 := [.null]) rfl ?_
    refine fr_ifnonnullN (pc := 56) d_FR_about_56 ?_
    refine fr_iconst (pc := 59) (v := -1) d_FR_about_59 (by decide) ?_
    refine fr_goto (pc := 60) (tgt := 70) d_FR_about_60 (by decide) ?_
    exact fr_iret rfl d_FR_about_70 ⟨rfl, hX, fs_Fr_id⟩
  | some p =>
    obtain ⟨Pn, hPn, hbp⟩ : ∃ Pn b, nd p = some Pn ∧ ad p = some b := by
      obtain ⟨Pn, hPn⟩ : ∃ Pn, nd p = some Pn := by
        cases hab : fs_ab nd k with
        | nil => rw [hab] at hch; obtain ⟨N9, e1, e2⟩ := hch; rw [hk] at e1; cases e1; rw [hp] at e2; cases e2
        | cons p9 t9 => rw [hab] at hch; obtain ⟨⟨N9, e1, e2⟩, e3⟩ := hch; rw [hk] at e1; cases e1; rw [hp] at e2; cases e2; exact fs_ch_some _ _ e3 p (Or.inl rfl)
      obtain ⟨-, b, hb, -⟩ := hr.2.1 p Pn hPn
      exact ⟨Pn, b, hPn, hb⟩
    obtain ⟨hPn2, hbp2⟩ := hbp
    obtain ⟨-, b9, hb9, hcp, -⟩ := hr.2.1 p Pn hPn2
    rw [hbp2] at hb9; cases hb9
    refine fr_st (st2 := [.ref hPn]) (by show [va_rf (ad p)] = _; rw [rf_some hbp2]) ?_
    refine fr_ifnonnull (pc := 56) (tgt := 63) d_FR_about_56 (by decide) ?_
    refine fr_aload_n (pc := 63) d_FR_about_63 rfl rfl ?_
    refine fr_get (pc := 64) (v := va_rf (N.2.1.bind ad)) d_FR_about_64 fg_FR_103 hc rfl ?_
    refine fr_st (st2 := [.ref hPn]) (by rw [hp]; show [va_rf (ad p)] = _; rw [rf_some hbp2]) ?_
    refine fr_get (pc := 67) (v := .int (nI p)) d_FR_about_67 fg_FR_186 hcp rfl ?_
    exact fr_iret rfl d_FR_about_70 ⟨rfl, hX, fs_Fr_id⟩
theorem p_FR_about_1 {g : fw_G} {w : fw_W} {o gr a1 a2 a3 a4 na us n : Nat} {hu hg : Nat → Nat → Bool} {nd : fs_D} (hX : fs_X g (o, gr, a1, a2, a3, a4, na) (us, n, hu, hg, nd) w) {k : Nat} {N : fs_N} (hk : nd k = some N) : fw_R g m_FR_about (fs_P g (o, gr, a1, a2, a3, a4, na) w (.inl (some (.int (bI N.1)))) (us, n, hu, hg, nd)) 2 12 w 0 [(0, .ref o), (1, .int (nI k)), (2, .int (nI 1))] [] := by
  obtain ⟨f1, f2, f3, f4, ad, lq, ld, lc, lt, hok, h0, hG, hR, hN, hr⟩ := fs_X_el hX
  obtain ⟨hk150, a, ha, hc, hl, hE⟩ := hr.2.1 k N hk
  obtain ⟨-, hk0, how, hlen, hes, hch, hdep⟩ := hok.2.2.2.2 k N hk
  refine fr_aload_n (pc := 0) d_FR_about_0 rfl rfl ?_
  refine fr_iload_n (pc := 1) d_FR_about_1 rfl rfl ?_
  refine fr_callv_p (pc := 2) (nc := 1) (ns := 6) (N := m_FR_nodeAt) (rest := []) (as := [.int (nI k)]) d_FR_about_2 vc_FR_63 ⟨by decide, by decide, Nat.le_of_ble_eq_true rfl⟩ (Nat.le_of_ble_eq_true rfl) h0 (c_FR_nodeAt h0 hN hk150 ha) rfl ?_
  refine fr_astore_n (pc := 5) (L2 := [(0, .ref o), (1, .int (nI k)), (2, .int (nI 1)), (3, .ref a)]) d_FR_about_5 rfl (by decide) rfl ?_
  refine fr_iload_n (pc := 6) d_FR_about_6 rfl rfl ?_
  refine fr_tableIn (pc := 7) (off := 64) (tgt := 71) d_FR_about_7 (by decide) (by decide) (by decide) (by decide) ?_
  refine fr_aload_n (pc := 71) d_FR_about_71 rfl rfl ?_
  refine fr_get (pc := 72) (v := .int (bI N.1)) d_FR_about_72 fg_FR_200 hc rfl ?_
  refine fr_if_eq (pc := 75) (tgt := 82) d_FR_about_75 (by decide) (fun q => ?_) (fun q => ?_)
  · refine fr_iconst (pc := 82) (v := 0) d_FR_about_82 (by decide) ?_
    refine fr_st (st2 := [.int (bI N.1)]) (by rw [bI_0.mp q]; rfl) ?_
    exact fr_iret rfl d_FR_about_83 ⟨rfl, hX, fs_Fr_id⟩
  · refine fr_iconst (pc := 78) (v := 1) d_FR_about_78 (by decide) ?_
    refine fr_goto (pc := 79) (tgt := 83) d_FR_about_79 (by decide) ?_
    refine fr_st (st2 := [.int (bI N.1)]) (by rw [ts_nf (fun z => q (bI_0.mpr z))]; rfl) ?_
    exact fr_iret rfl d_FR_about_83 ⟨rfl, hX, fs_Fr_id⟩
theorem p_FR_about_2 {g : fw_G} {w : fw_W} {o gr a1 a2 a3 a4 na us n : Nat} {hu hg : Nat → Nat → Bool} {nd : fs_D} (hX : fs_X g (o, gr, a1, a2, a3, a4, na) (us, n, hu, hg, nd) w) {k : Nat} {N : fs_N} (hk : nd k = some N) : fw_R g m_FR_about (fs_P g (o, gr, a1, a2, a3, a4, na) w (.inl (some (.int (nI N.2.2.1)))) (us, n, hu, hg, nd)) 2 12 w 0 [(0, .ref o), (1, .int (nI k)), (2, .int (nI 2))] [] := by
  obtain ⟨f1, f2, f3, f4, ad, lq, ld, lc, lt, hok, h0, hG, hR, hN, hr⟩ := fs_X_el hX
  obtain ⟨hk150, a, ha, hc, hl, hE⟩ := hr.2.1 k N hk
  obtain ⟨-, hk0, how, hlen, hes, hch, hdep⟩ := hok.2.2.2.2 k N hk
  refine fr_aload_n (pc := 0) d_FR_about_0 rfl rfl ?_
  refine fr_iload_n (pc := 1) d_FR_about_1 rfl rfl ?_
  refine fr_callv_p (pc := 2) (nc := 1) (ns := 6) (N := m_FR_nodeAt) (rest := []) (as := [.int (nI k)]) d_FR_about_2 vc_FR_63 ⟨by decide, by decide, Nat.le_of_ble_eq_true rfl⟩ (Nat.le_of_ble_eq_true rfl) h0 (c_FR_nodeAt h0 hN hk150 ha) rfl ?_
  refine fr_astore_n (pc := 5) (L2 := [(0, .ref o), (1, .int (nI k)), (2, .int (nI 2)), (3, .ref a)]) d_FR_about_5 rfl (by decide) rfl ?_
  refine fr_iload_n (pc := 6) d_FR_about_6 rfl rfl ?_
  refine fr_tableIn (pc := 7) (off := 77) (tgt := 84) d_FR_about_7 (by decide) (by decide) (by decide) (by decide) ?_
  refine fr_aload_n (pc := 84) d_FR_about_84 rfl rfl ?_
  refine fr_get (pc := 85) (v := .int (nI N.2.2.1)) d_FR_about_85 fg_FR_156 hc rfl ?_
  exact fr_iret rfl d_FR_about_88 ⟨rfl, hX, fs_Fr_id⟩
theorem p_FR_about_3 {g : fw_G} {w : fw_W} {o gr a1 a2 a3 a4 na us n : Nat} {hu hg : Nat → Nat → Bool} {nd : fs_D} (hX : fs_X g (o, gr, a1, a2, a3, a4, na) (us, n, hu, hg, nd) w) {k : Nat} {N : fs_N} (hk : nd k = some N) : fw_R g m_FR_about (fs_P g (o, gr, a1, a2, a3, a4, na) w (.inl (some (.int (bI N.2.2.2.1)))) (us, n, hu, hg, nd)) 2 12 w 0 [(0, .ref o), (1, .int (nI k)), (2, .int (nI 3))] [] := by
  obtain ⟨f1, f2, f3, f4, ad, lq, ld, lc, lt, hok, h0, hG, hR, hN, hr⟩ := fs_X_el hX
  obtain ⟨hk150, a, ha, hc, hl, hE⟩ := hr.2.1 k N hk
  obtain ⟨-, hk0, how, hlen, hes, hch, hdep⟩ := hok.2.2.2.2 k N hk
  refine fr_aload_n (pc := 0) d_FR_about_0 rfl rfl ?_
  refine fr_iload_n (pc := 1) d_FR_about_1 rfl rfl ?_
  refine fr_callv_p (pc := 2) (nc := 1) (ns := 6) (N := m_FR_nodeAt) (rest := []) (as := [.int (nI k)]) d_FR_about_2 vc_FR_63 ⟨by decide, by decide, Nat.le_of_ble_eq_true rfl⟩ (Nat.le_of_ble_eq_true rfl) h0 (c_FR_nodeAt h0 hN hk150 ha) rfl ?_
  refine fr_astore_n (pc := 5) (L2 := [(0, .ref o), (1, .int (nI k)), (2, .int (nI 3)), (3, .ref a)]) d_FR_about_5 rfl (by decide) rfl ?_
  refine fr_iload_n (pc := 6) d_FR_about_6 rfl rfl ?_
  refine fr_tableIn (pc := 7) (off := 82) (tgt := 89) d_FR_about_7 (by decide) (by decide) (by decide) (by decide) ?_
  refine fr_aload_n (pc := 89) d_FR_about_89 rfl rfl ?_
  refine fr_get (pc := 90) (v := .int (bI N.2.2.2.1)) d_FR_about_90 fg_FR_153 hc rfl ?_
  refine fr_if_eq (pc := 93) (tgt := 100) d_FR_about_93 (by decide) (fun q => ?_) (fun q => ?_)
  · refine fr_iconst (pc := 100) (v := 0) d_FR_about_100 (by decide) ?_
    refine fr_st (st2 := [.int (bI N.2.2.2.1)]) (by rw [bI_0.mp q]; rfl) ?_
    exact fr_iret rfl d_FR_about_101 ⟨rfl, hX, fs_Fr_id⟩
  · refine fr_iconst (pc := 96) (v := 1) d_FR_about_96 (by decide) ?_
    refine fr_goto (pc := 97) (tgt := 101) d_FR_about_97 (by decide) ?_
    refine fr_st (st2 := [.int (bI N.2.2.2.1)]) (by rw [ts_nf (fun z => q (bI_0.mpr z))]; rfl) ?_
    exact fr_iret rfl d_FR_about_101 ⟨rfl, hX, fs_Fr_id⟩
theorem p_FR_about_4 {g : fw_G} {w : fw_W} {o gr a1 a2 a3 a4 na us n : Nat} {hu hg : Nat → Nat → Bool} {nd : fs_D} (hX : fs_X g (o, gr, a1, a2, a3, a4, na) (us, n, hu, hg, nd) w) {k : Nat} {N : fs_N} (hk : nd k = some N) : fw_R g m_FR_about (fs_P g (o, gr, a1, a2, a3, a4, na) w (.inl (some (.int (nI (fs_ab nd k).length)))) (us, n, hu, hg, nd)) 2 12 w 0 [(0, .ref o), (1, .int (nI k)), (2, .int (nI 4))] [] := by
  obtain ⟨f1, f2, f3, f4, ad, lq, ld, lc, lt, hok, h0, hG, hR, hN, hr⟩ := fs_X_el hX
  obtain ⟨hk150, a, ha, hc, hl, hE⟩ := hr.2.1 k N hk
  obtain ⟨-, hk0, how, hlen, hes, hch, hdep⟩ := hok.2.2.2.2 k N hk
  refine fr_aload_n (pc := 0) d_FR_about_0 rfl rfl ?_
  refine fr_iload_n (pc := 1) d_FR_about_1 rfl rfl ?_
  refine fr_callv_p (pc := 2) (nc := 1) (ns := 6) (N := m_FR_nodeAt) (rest := []) (as := [.int (nI k)]) d_FR_about_2 vc_FR_63 ⟨by decide, by decide, Nat.le_of_ble_eq_true rfl⟩ (Nat.le_of_ble_eq_true rfl) h0 (c_FR_nodeAt h0 hN hk150 ha) rfl ?_
  refine fr_astore_n (pc := 5) (L2 := [(0, .ref o), (1, .int (nI k)), (2, .int (nI 4)), (3, .ref a)]) d_FR_about_5 rfl (by decide) rfl ?_
  refine fr_iload_n (pc := 6) d_FR_about_6 rfl rfl ?_
  refine fr_tableIn (pc := 7) (off := 95) (tgt := 102) d_FR_about_7 (by decide) (by decide) (by decide) (by decide) ?_
  refine fr_aload_n (pc := 102) d_FR_about_102 rfl rfl ?_
  refine fr_callv_p (pc := 103) (nc := 1) (ns := 6) (N := m_ND_depth) (rest := []) (as := []) d_FR_about_103 vc_FR_80 ⟨by decide, by decide, Nat.le_of_ble_eq_true rfl⟩ (Nat.le_of_ble_eq_true rfl) hc (c_dep hr hch ha) rfl ?_
  exact fr_iret rfl d_FR_about_106 ⟨rfl, hX, fs_Fr_id⟩
theorem p_FR_about_5 {g : fw_G} {w : fw_W} {o gr a1 a2 a3 a4 na us n : Nat} {hu hg : Nat → Nat → Bool} {nd : fs_D} (hX : fs_X g (o, gr, a1, a2, a3, a4, na) (us, n, hu, hg, nd) w) {k : Nat} {N : fs_N} (hk : nd k = some N) : fw_R g m_FR_about (fs_P g (o, gr, a1, a2, a3, a4, na) w (.inl (some (.int (nI N.2.2.2.2.2.length)))) (us, n, hu, hg, nd)) 2 12 w 0 [(0, .ref o), (1, .int (nI k)), (2, .int (nI 5))] [] := by
  obtain ⟨f1, f2, f3, f4, ad, lq, ld, lc, lt, hok, h0, hG, hR, hN, hr⟩ := fs_X_el hX
  obtain ⟨hk150, a, ha, hc, hl, hE⟩ := hr.2.1 k N hk
  obtain ⟨-, hk0, how, hlen, hes, hch, hdep⟩ := hok.2.2.2.2 k N hk
  refine fr_aload_n (pc := 0) d_FR_about_0 rfl rfl ?_
  refine fr_iload_n (pc := 1) d_FR_about_1 rfl rfl ?_
  refine fr_callv_p (pc := 2) (nc := 1) (ns := 6) (N := m_FR_nodeAt) (rest := []) (as := [.int (nI k)]) d_FR_about_2 vc_FR_63 ⟨by decide, by decide, Nat.le_of_ble_eq_true rfl⟩ (Nat.le_of_ble_eq_true rfl) h0 (c_FR_nodeAt h0 hN hk150 ha) rfl ?_
  refine fr_astore_n (pc := 5) (L2 := [(0, .ref o), (1, .int (nI k)), (2, .int (nI 5)), (3, .ref a)]) d_FR_about_5 rfl (by decide) rfl ?_
  refine fr_iload_n (pc := 6) d_FR_about_6 rfl rfl ?_
  refine fr_tableIn (pc := 7) (off := 100) (tgt := 107) d_FR_about_7 (by decide) (by decide) (by decide) (by decide) ?_
  refine fr_aload_n (pc := 107) d_FR_about_107 rfl rfl ?_
  refine fr_get (pc := 108) (v := .ref (lq k)) d_FR_about_108 fg_FR_119 hc rfl ?_
  obtain ⟨mc, hl1, -⟩ := id hl
  refine fr_callv_p (pc := 111) (nc := 1) (ns := 6) (N := m_AL_size) (rest := []) (as := []) d_FR_about_111 vc_FR_123 ⟨by decide, by decide, Nat.le_of_ble_eq_true rfl⟩ (Nat.le_of_ble_eq_true rfl) hl1 (c_AL_size hl) rfl ?_
  refine fr_st (st2 := [.int (nI N.2.2.2.2.2.length)]) (by rw [hE.1]) ?_
  exact fr_iret rfl d_FR_about_114 ⟨rfl, hX, fs_Fr_id⟩
theorem p_FR_about_6 {g : fw_G} {w : fw_W} {o gr a1 a2 a3 a4 na us n : Nat} {hu hg : Nat → Nat → Bool} {nd : fs_D} (hX : fs_X g (o, gr, a1, a2, a3, a4, na) (us, n, hu, hg, nd) w) {k : Nat} {N : fs_N} (hk : nd k = some N) : fw_R g m_FR_about (fs_P g (o, gr, a1, a2, a3, a4, na) w (.inl (some (.int (nI (fs_sum (fs_f4 nd k) 150 0))))) (us, n, hu, hg, nd)) 2 12 w 0 [(0, .ref o), (1, .int (nI k)), (2, .int (nI 6))] [] := by
  obtain ⟨f1, f2, f3, f4, ad, lq, ld, lc, lt, hok, h0, hG, hR, hN, hr⟩ := fs_X_el hX
  obtain ⟨hk150, a, ha, hc, hl, hE⟩ := hr.2.1 k N hk
  obtain ⟨-, hk0, how, hlen, hes, hch, hdep⟩ := hok.2.2.2.2 k N hk
  refine fr_aload_n (pc := 0) d_FR_about_0 rfl rfl ?_
  refine fr_iload_n (pc := 1) d_FR_about_1 rfl rfl ?_
  refine fr_callv_p (pc := 2) (nc := 1) (ns := 6) (N := m_FR_nodeAt) (rest := []) (as := [.int (nI k)]) d_FR_about_2 vc_FR_63 ⟨by decide, by decide, Nat.le_of_ble_eq_true rfl⟩ (Nat.le_of_ble_eq_true rfl) h0 (c_FR_nodeAt h0 hN hk150 ha) rfl ?_
  refine fr_astore_n (pc := 5) (L2 := [(0, .ref o), (1, .int (nI k)), (2, .int (nI 6)), (3, .ref a)]) d_FR_about_5 rfl (by decide) rfl ?_
  refine fr_iload_n (pc := 6) d_FR_about_6 rfl rfl ?_
  refine fr_tableIn (pc := 7) (off := 108) (tgt := 115) d_FR_about_7 (by decide) (by decide) (by decide) (by decide) ?_
  refine fr_aload_n (pc := 115) d_FR_about_115 rfl rfl ?_
  refine fr_aload_n (pc := 116) d_FR_about_116 rfl rfl ?_
  refine fr_callv_p (pc := 117) (nc := 1) (ns := 6) (N := m_FR_childrenOf) (rest := []) (as := [.ref a]) d_FR_about_117 vc_FR_114 ⟨by decide, by decide, Nat.le_of_ble_eq_true rfl⟩ (Nat.le_of_ble_eq_true rfl) h0 (by have hh := c_FR_childrenOf (nc := 0) (ns := 0) h0 hN hr (fs_ok_ch hok) hk ha; rw [Nat.zero_add] at hh; exact hh) rfl ?_
  exact fr_iret rfl d_FR_about_120 ⟨rfl, hX, fs_Fr_id⟩
theorem p_FR_about_7 {g : fw_G} {w : fw_W} {o gr a1 a2 a3 a4 na us n : Nat} {hu hg : Nat → Nat → Bool} {nd : fs_D} (hX : fs_X g (o, gr, a1, a2, a3, a4, na) (us, n, hu, hg, nd) w) {k : Nat} {N : fs_N} (hk : nd k = some N) : fw_R g m_FR_about (fs_P g (o, gr, a1, a2, a3, a4, na) w (.inl (some (.int (bI N.2.2.2.2.1)))) (us, n, hu, hg, nd)) 2 12 w 0 [(0, .ref o), (1, .int (nI k)), (2, .int (nI 7))] [] := by
  obtain ⟨f1, f2, f3, f4, ad, lq, ld, lc, lt, hok, h0, hG, hR, hN, hr⟩ := fs_X_el hX
  obtain ⟨hk150, a, ha, hc, hl, hE⟩ := hr.2.1 k N hk
  obtain ⟨-, hk0, how, hlen, hes, hch, hdep⟩ := hok.2.2.2.2 k N hk
  refine fr_aload_n (pc := 0) d_FR_about_0 rfl rfl ?_
  refine fr_iload_n (pc := 1) d_FR_about_1 rfl rfl ?_
  refine fr_callv_p (pc := 2) (nc := 1) (ns := 6) (N := m_FR_nodeAt) (rest := []) (as := [.int (nI k)]) d_FR_about_2 vc_FR_63 ⟨by decide, by decide, Nat.le_of_ble_eq_true rfl⟩ (Nat.le_of_ble_eq_true rfl) h0 (c_FR_nodeAt h0 hN hk150 ha) rfl ?_
  refine fr_astore_n (pc := 5) (L2 := [(0, .ref o), (1, .int (nI k)), (2, .int (nI 7)), (3, .ref a)]) d_FR_about_5 rfl (by decide) rfl ?_
  refine fr_iload_n (pc := 6) d_FR_about_6 rfl rfl ?_
  refine fr_tableIn (pc := 7) (off := 114) (tgt := 121) d_FR_about_7 (by decide) (by decide) (by decide) (by decide) ?_
  refine fr_aload_n (pc := 121) d_FR_about_121 rfl rfl ?_
  refine fr_get (pc := 122) (v := .int (bI N.2.2.2.2.1)) d_FR_about_122 fg_FR_110 hc rfl ?_
  refine fr_if_eq (pc := 125) (tgt := 132) d_FR_about_125 (by decide) (fun q => ?_) (fun q => ?_)
  · refine fr_iconst (pc := 132) (v := 0) d_FR_about_132 (by decide) ?_
    refine fr_st (st2 := [.int (bI N.2.2.2.2.1)]) (by rw [bI_0.mp q]; rfl) ?_
    exact fr_iret rfl d_FR_about_133 ⟨rfl, hX, fs_Fr_id⟩
  · refine fr_iconst (pc := 128) (v := 1) d_FR_about_128 (by decide) ?_
    refine fr_goto (pc := 129) (tgt := 133) d_FR_about_129 (by decide) ?_
    refine fr_st (st2 := [.int (bI N.2.2.2.2.1)]) (by rw [ts_nf (fun z => q (bI_0.mpr z))]; rfl) ?_
    exact fr_iret rfl d_FR_about_133 ⟨rfl, hX, fs_Fr_id⟩
theorem p_FR_about_n1 {g : fw_G} {w : fw_W} {o gr a1 a2 a3 a4 na us n : Nat} {hu hg : Nat → Nat → Bool} {nd : fs_D} (hX : fs_X g (o, gr, a1, a2, a3, a4, na) (us, n, hu, hg, nd) w) {x y : Int32} (hx : ∀ k, x = nI k → nd k = none) : fw_R g m_FR_about (fs_P g (o, gr, a1, a2, a3, a4, na) w (.inr "java/util/NoSuchElementException") (us, n, hu, hg, nd)) 2 12 w 0 [(0, .ref o), (1, .int x), (2, .int y)] [] := by
  obtain ⟨f1, f2, f3, f4, ad, lq, ld, lc, lt, hok, h0, hG, hR, hN, hr⟩ := fs_X_el hX
  refine fr_aload_n (pc := 0) d_FR_about_0 rfl rfl ?_
  refine fr_iload_n (pc := 1) d_FR_about_1 rfl rfl ?_
  refine fr_callv_x (pc := 2) (nc := 1) (ns := 6) (N := m_FR_nodeAt) (rest := []) (as := [.int x]) d_FR_about_2 vc_FR_63 ⟨by decide, by decide, Nat.le_of_ble_eq_true rfl⟩ (Nat.le_of_ble_eq_true rfl) h0 (x_FR_nodeAt h0 hN (fun k _ e => hr.1 k (hx k e))) rfl ?_
  exact fx_out (by decide) ⟨rfl, hX, fs_Fr_id⟩
theorem p_FR_about_n2 {g : fw_G} {w : fw_W} {o gr a1 a2 a3 a4 na us n : Nat} {hu hg : Nat → Nat → Bool} {nd : fs_D} (hX : fs_X g (o, gr, a1, a2, a3, a4, na) (us, n, hu, hg, nd) w) {k : Nat} {N : fs_N} (hk : nd k = some N) {y : Int32} (hy : fs_no2 y 8) : fw_R g m_FR_about (fs_P g (o, gr, a1, a2, a3, a4, na) w (.inr "java/lang/IllegalArgumentException") (us, n, hu, hg, nd)) 2 12 w 0 [(0, .ref o), (1, .int (nI k)), (2, .int y)] [] := by
  obtain ⟨f1, f2, f3, f4, ad, lq, ld, lc, lt, hok, h0, hG, hR, hN, hr⟩ := fs_X_el hX
  obtain ⟨hk150, a, ha, hc, hl, hE⟩ := hr.2.1 k N hk
  obtain ⟨-, hk0, how, hlen, hes, hch, hdep⟩ := hok.2.2.2.2 k N hk
  refine fr_aload_n (pc := 0) d_FR_about_0 rfl rfl ?_
  refine fr_iload_n (pc := 1) d_FR_about_1 rfl rfl ?_
  refine fr_callv_p (pc := 2) (nc := 1) (ns := 6) (N := m_FR_nodeAt) (rest := []) (as := [.int (nI k)]) d_FR_about_2 vc_FR_63 ⟨by decide, by decide, Nat.le_of_ble_eq_true rfl⟩ (Nat.le_of_ble_eq_true rfl) h0 (c_FR_nodeAt h0 hN hk150 ha) rfl ?_
  refine fr_astore_n (pc := 5) (L2 := [(0, .ref o), (1, .int (nI k)), (2, .int y), (3, .ref a)]) d_FR_about_5 rfl (by decide) rfl ?_
  refine fr_iload_n (pc := 6) d_FR_about_6 rfl rfl ?_
  refine fr_tableOut (pc := 7) (tgt := 134) d_FR_about_7 (fs_no2_out (by decide) hy) (by decide) ?_
  exact fr_throw (pc := 134) (nc := 0) (ns := 0) th_FR_203 d_FR_about_134 d_FR_about_137 d_FR_about_138 d_FR_about_140 d_FR_about_143 (by decide) (by decide) (by decide) ⟨rfl, hX, fs_Fr_id⟩
theorem p_FR_count_0 {g : fw_G} {w : fw_W} {o gr a1 a2 a3 a4 na us n : Nat} {hu hg : Nat → Nat → Bool} {nd : fs_D} (hX : fs_X g (o, gr, a1, a2, a3, a4, na) (us, n, hu, hg, nd) w)  : fw_R g m_FR_count (fs_P g (o, gr, a1, a2, a3, a4, na) w (.inl (some (.int (nI us)))) (us, n, hu, hg, nd)) 1 6 w 0 [(0, .ref o), (1, .int (nI 0))] [] := by
  obtain ⟨f1, f2, f3, f4, ad, lq, ld, lc, lt, hok, h0, hG, hR, hN, hr⟩ := fs_X_el hX
  refine fr_iload_n (pc := 0) d_FR_count_0 rfl rfl ?_
  refine fr_tableIn (pc := 1) (off := 35) (tgt := 36) d_FR_count_1 (by decide) (by decide) (by decide) (by decide) ?_
  refine fr_aload_n (pc := 36) d_FR_count_36 rfl rfl ?_
  refine fr_get (pc := 37) (v := .int (nI us)) d_FR_count_37 fg_FR_25 h0 rfl ?_
  exact fr_iret rfl d_FR_count_40 ⟨rfl, hX, fs_Fr_id⟩
theorem p_FR_count_1 {g : fw_G} {w : fw_W} {o gr a1 a2 a3 a4 na us n : Nat} {hu hg : Nat → Nat → Bool} {nd : fs_D} (hX : fs_X g (o, gr, a1, a2, a3, a4, na) (us, n, hu, hg, nd) w)  : fw_R g m_FR_count (fs_P g (o, gr, a1, a2, a3, a4, na) w (.inl (some (.int (nI n)))) (us, n, hu, hg, nd)) 1 6 w 0 [(0, .ref o), (1, .int (nI 1))] [] := by
  obtain ⟨f1, f2, f3, f4, ad, lq, ld, lc, lt, hok, h0, hG, hR, hN, hr⟩ := fs_X_el hX
  refine fr_iload_n (pc := 0) d_FR_count_0 rfl rfl ?_
  refine fr_tableIn (pc := 1) (off := 40) (tgt := 41) d_FR_count_1 (by decide) (by decide) (by decide) (by decide) ?_
  refine fr_aload_n (pc := 41) d_FR_count_41 rfl rfl ?_
  refine fr_get (pc := 42) (v := .ref gr) d_FR_count_42 fg_FR_10 h0 rfl ?_
  refine fr_get (pc := 45) (v := .int (nI n)) d_FR_count_45 fg_FR_36 hG.1 rfl ?_
  exact fr_iret rfl d_FR_count_48 ⟨rfl, hX, fs_Fr_id⟩
theorem p_FR_count_2 {g : fw_G} {w : fw_W} {o gr a1 a2 a3 a4 na us n : Nat} {hu hg : Nat → Nat → Bool} {nd : fs_D} (hX : fs_X g (o, gr, a1, a2, a3, a4, na) (us, n, hu, hg, nd) w)  : fw_R g m_FR_count (fs_P g (o, gr, a1, a2, a3, a4, na) w (.inl (some (.int (nI (fs_sum (fs_f1 nd) 150 0))))) (us, n, hu, hg, nd)) 1 6 w 0 [(0, .ref o), (1, .int (nI 2))] [] := by
  obtain ⟨f1, f2, f3, f4, ad, lq, ld, lc, lt, hok, h0, hG, hR, hN, hr⟩ := fs_X_el hX
  refine fr_iload_n (pc := 0) d_FR_count_0 rfl rfl ?_
  refine fr_tableIn (pc := 1) (off := 48) (tgt := 49) d_FR_count_1 (by decide) (by decide) (by decide) (by decide) ?_
  refine fr_aload_n (pc := 49) d_FR_count_49 rfl rfl ?_
  refine fr_callv_p (pc := 50) (nc := 1) (ns := 6) (N := m_FR_countNodes) (rest := []) (as := []) d_FR_count_50 vc_FR_205 ⟨by decide, by decide, Nat.le_of_ble_eq_true rfl⟩ (Nat.le_of_ble_eq_true rfl) h0 (by have hh := c_FR_countNodes (nc := 0) (ns := 0) h0 hN hr; rw [Nat.zero_add] at hh; exact hh) rfl ?_
  exact fr_iret rfl d_FR_count_53 ⟨rfl, hX, fs_Fr_id⟩
theorem p_FR_count_3 {g : fw_G} {w : fw_W} {o gr a1 a2 a3 a4 na us n : Nat} {hu hg : Nat → Nat → Bool} {nd : fs_D} (hX : fs_X g (o, gr, a1, a2, a3, a4, na) (us, n, hu, hg, nd) w)  : fw_R g m_FR_count (fs_P g (o, gr, a1, a2, a3, a4, na) w (.inl (some (.int (nI (fs_sum (fs_f2 nd) 150 0))))) (us, n, hu, hg, nd)) 1 6 w 0 [(0, .ref o), (1, .int (nI 3))] [] := by
  obtain ⟨f1, f2, f3, f4, ad, lq, ld, lc, lt, hok, h0, hG, hR, hN, hr⟩ := fs_X_el hX
  refine fr_iload_n (pc := 0) d_FR_count_0 rfl rfl ?_
  refine fr_tableIn (pc := 1) (off := 53) (tgt := 54) d_FR_count_1 (by decide) (by decide) (by decide) (by decide) ?_
  refine fr_aload_n (pc := 54) d_FR_count_54 rfl rfl ?_
  refine fr_callv_p (pc := 55) (nc := 1) (ns := 6) (N := m_FR_countEntries) (rest := []) (as := []) d_FR_count_55 vc_FR_208 ⟨by decide, by decide, Nat.le_of_ble_eq_true rfl⟩ (Nat.le_of_ble_eq_true rfl) h0 (by have hh := c_FR_countEntries (nc := 0) (ns := 0) h0 hN hr; rw [Nat.zero_add] at hh; exact hh) rfl ?_
  exact fr_iret rfl d_FR_count_58 ⟨rfl, hX, fs_Fr_id⟩
theorem p_FR_count_n {g : fw_G} {w : fw_W} {o gr a1 a2 a3 a4 na us n : Nat} {hu hg : Nat → Nat → Bool} {nd : fs_D} (hX : fs_X g (o, gr, a1, a2, a3, a4, na) (us, n, hu, hg, nd) w) {x : Int32} (hx : fs_no2 x 5) : fw_R g m_FR_count (fs_P g (o, gr, a1, a2, a3, a4, na) w (.inr "java/lang/IllegalArgumentException") (us, n, hu, hg, nd)) 1 6 w 0 [(0, .ref o), (1, .int x)] [] := by
  obtain ⟨f1, f2, f3, f4, ad, lq, ld, lc, lt, hok, h0, hG, hR, hN, hr⟩ := fs_X_el hX
  refine fr_iload_n (pc := 0) d_FR_count_0 rfl rfl ?_
  refine fr_tableOut (pc := 1) (tgt := 67) d_FR_count_1 (fs_no2_out (by decide) hx) (by decide) ?_
  exact fr_throw (pc := 67) (nc := 0) (ns := 0) th_FR_214 d_FR_count_67 d_FR_count_70 d_FR_count_71 d_FR_count_73 d_FR_count_76 (by decide) (by decide) (by decide) ⟨rfl, hX, fs_Fr_id⟩

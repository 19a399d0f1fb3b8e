theorem p_MO_move_n1 {g : fw_G} {nc ns : Nat} {w0 : fw_W} {mo : Nat} {ar : Nat → Nat} (hA : fm_ad mo ar) {th so pl po : Int32} {us n : Nat} {F : fm_F} {hu hg : Nat → Nat → Bool} {nd : fs_D} (hc : fm_c us n hu hg nd F) (hs : fm_S us n hu hg nd) {x y : Int32} (hx : ∀ k, x = nI k → nd k = none) : fw_R g m_MO_move (fm_P g w0 mo ar (.int 0) 1 (us, n, hu, hg, nd)) nc ns (fm_W g w0 mo ar (th, us, n, so, pl, po) F) 0 [(0, .ref mo), (1, .int x), (2, .int y)] [] := by
  obtain ⟨hok, hub, hgb⟩ := id hs
  have hus := hok.2.1
  have hn := hok.2.2.1
  refine fr_aload_n (pc := 0) d_MO_move_0 rfl rfl ?_
  refine fr_iload_n (pc := 1) d_MO_move_1 rfl rfl ?_
  refine fr_callv_p (pc := 2) (nc := nc) (ns := ns) (N := m_MO_isNode) (rest := []) (as := [.int x]) d_MO_move_2 vc_MO_91 ⟨by decide, by decide, Nat.le_of_ble_eq_true rfl⟩ (Nat.le_of_ble_eq_true rfl) fm_mo (c_MO_isNode_n hA (fun k hk e => fm_nt hc hk (hx k e))) rfl ?_
  refine fr_if_eq (pc := 5) (tgt := 20) d_MO_move_5 (by decide) (fun _ => ?_) (fun q => absurd q (by decide))
  refine fr_iconst (pc := 20) (v := 0) d_MO_move_20 (by decide) ?_
  refine fr_istore_n (pc := 21) (L2 := [(0, .ref mo), (1, .int x), (2, .int y), (3, .int 0)]) d_MO_move_21 rfl (by decide) rfl ?_
  refine fr_iload_n (pc := 22) d_MO_move_22 rfl rfl ?_
  refine fr_if_eq (pc := 23) (tgt := 52) d_MO_move_23 (by decide) (fun _ => ?_) (fun q => absurd q (by decide))
  refine fr_iconst (pc := 52) (v := 0) d_MO_move_52 (by decide) ?_
  refine fr_istore (pc := 53) (L2 := [(0, .ref mo), (1, .int x), (2, .int y), (3, .int 0), (4, .int 0)]) d_MO_move_53 (by decide) rfl ?_
  refine fr_aload_n (pc := 55) d_MO_move_55 rfl rfl ?_
  refine fr_iload_n (pc := 56) d_MO_move_56 rfl rfl ?_
  refine fr_iload (pc := 57) d_MO_move_57 rfl ?_
  refine fr_iload (pc := 59) d_MO_move_59 rfl ?_
  refine fr_if_eq (pc := 61) (tgt := 86) d_MO_move_61 (by decide) (fun _ => ?_) (fun q => absurd q (by decide))
  refine fr_iconst (pc := 86) (v := 0) d_MO_move_86 (by decide) ?_
  refine fr_callv_p (pc := 87) (nc := nc) (ns := ns) (N := m_MO_goes) (rest := []) (as := [.int 0, .int 0, .int 0]) d_MO_move_87 vc_MO_69 ⟨by decide, by decide, Nat.le_of_ble_eq_true rfl⟩ (Nat.le_of_ble_eq_true rfl) fm_mo (c_MO_goes1 hA) rfl ?_
  refine fr_if_ne (pc := 90) (tgt := 95) d_MO_move_90 (by decide) (fun q => absurd q (by decide)) (fun _ => ?_)
  refine fr_iconst (pc := 93) (v := 0) d_MO_move_93 (by decide) ?_
  exact fr_iret rfl d_MO_move_94 ⟨rfl, _, _, _, _, rfl, hc⟩
theorem p_MO_move_n2 {g : fw_G} {nc ns : Nat} {w0 : fw_W} {mo : Nat} {ar : Nat → Nat} (hA : fm_ad mo ar) {th so pl po : Int32} {us n : Nat} {F : fm_F} {hu hg : Nat → Nat → Bool} {nd : fs_D} (hc : fm_c us n hu hg nd F) (hs : fm_S us n hu hg nd) {k : Nat} {N : fs_N} (hk : nd k = some N) {x : Int32} (hx : ∀ k, x = nI k → nd k = none) : fw_R g m_MO_move (fm_P g w0 mo ar (.int 0) 1 (us, n, hu, hg, nd)) nc ns (fm_W g w0 mo ar (th, us, n, so, pl, po) F) 0 [(0, .ref mo), (1, .int (nI k)), (2, .int x)] [] := by
  obtain ⟨hok, hub, hgb⟩ := id hs
  have hus := hok.2.1
  have hn := hok.2.2.1
  have hk150 := fm_k hok hk
  obtain ⟨c5, c6, c8, c9, c10⟩ := hc.2.2.2.2.2.1 k N hk
  obtain ⟨-, hk0, how, hlen, hes, hch, hdep⟩ := hok.2.2.2.2 k N hk
  refine fr_aload_n (pc := 0) d_MO_move_0 rfl rfl ?_
  refine fr_iload_n (pc := 1) d_MO_move_1 rfl rfl ?_
  refine fr_callv_p (pc := 2) (nc := nc) (ns := ns) (N := m_MO_isNode) (rest := []) (as := [.int (nI k)]) d_MO_move_2 vc_MO_91 ⟨by decide, by decide, Nat.le_of_ble_eq_true rfl⟩ (Nat.le_of_ble_eq_true rfl) fm_mo (c_MO_isNode_y hA hk150 (fm_th hc hok hk)) rfl ?_
  refine fr_if_eq (pc := 5) (tgt := 20) d_MO_move_5 (by decide) (fun q => absurd q (by decide)) (fun _ => ?_)
  refine fr_aload_n (pc := 8) d_MO_move_8 rfl rfl ?_
  refine fr_iload_n (pc := 9) d_MO_move_9 rfl rfl ?_
  refine fr_callv_p (pc := 10) (nc := nc) (ns := ns) (N := m_MO_isNode) (rest := []) (as := [.int x]) d_MO_move_10 vc_MO_91 ⟨by decide, by decide, Nat.le_of_ble_eq_true rfl⟩ (Nat.le_of_ble_eq_true rfl) fm_mo (c_MO_isNode_n hA (fun k hk e => fm_nt hc hk (hx k e))) rfl ?_
  refine fr_if_eq (pc := 13) (tgt := 20) d_MO_move_13 (by decide) (fun _ => ?_) (fun q => absurd q (by decide))
  refine fr_iconst (pc := 20) (v := 0) d_MO_move_20 (by decide) ?_
  refine fr_istore_n (pc := 21) (L2 := [(0, .ref mo), (1, .int (nI k)), (2, .int x), (3, .int 0)]) d_MO_move_21 rfl (by decide) rfl ?_
  refine fr_iload_n (pc := 22) d_MO_move_22 rfl rfl ?_
  refine fr_if_eq (pc := 23) (tgt := 52) d_MO_move_23 (by decide) (fun _ => ?_) (fun q => absurd q (by decide))
  refine fr_iconst (pc := 52) (v := 0) d_MO_move_52 (by decide) ?_
  refine fr_istore (pc := 53) (L2 := [(0, .ref mo), (1, .int (nI k)), (2, .int x), (3, .int 0), (4, .int 0)]) d_MO_move_53 (by decide) rfl ?_
  refine fr_aload_n (pc := 55) d_MO_move_55 rfl rfl ?_
  refine fr_iload_n (pc := 56) d_MO_move_56 rfl rfl ?_
  refine fr_iload (pc := 57) d_MO_move_57 rfl ?_
  refine fr_iload (pc := 59) d_MO_move_59 rfl ?_
  refine fr_if_eq (pc := 61) (tgt := 86) d_MO_move_61 (by decide) (fun _ => ?_) (fun q => absurd q (by decide))
  refine fr_iconst (pc := 86) (v := 0) d_MO_move_86 (by decide) ?_
  refine fr_callv_p (pc := 87) (nc := nc) (ns := ns) (N := m_MO_goes) (rest := []) (as := [.int 0, .int 0, .int 0]) d_MO_move_87 vc_MO_69 ⟨by decide, by decide, Nat.le_of_ble_eq_true rfl⟩ (Nat.le_of_ble_eq_true rfl) fm_mo (c_MO_goes1 hA) rfl ?_
  refine fr_if_ne (pc := 90) (tgt := 95) d_MO_move_90 (by decide) (fun q => absurd q (by decide)) (fun _ => ?_)
  refine fr_iconst (pc := 93) (v := 0) d_MO_move_93 (by decide) ?_
  exact fr_iret rfl d_MO_move_94 ⟨rfl, _, _, _, _, rfl, hc⟩
theorem p_MO_move_n3 {g : fw_G} {nc ns : Nat} {w0 : fw_W} {mo : Nat} {ar : Nat → Nat} (hA : fm_ad mo ar) {th so pl po : Int32} {us n : Nat} {F : fm_F} {hu hg : Nat → Nat → Bool} {nd : fs_D} (hc : fm_c us n hu hg nd F) (hs : fm_S us n hu hg nd) {k : Nat} {N : fs_N} (hk : nd k = some N) {p : Nat} {Q : fs_N} (hp : nd p = some Q) (h0p : N.2.1 = none) : fw_R g m_MO_move (fm_P g w0 mo ar (.int 0) 2 (us, n, hu, hg, nd)) nc ns (fm_W g w0 mo ar (th, us, n, so, pl, po) F) 0 [(0, .ref mo), (1, .int (nI k)), (2, .int (nI p))] [] := by
  obtain ⟨hok, hub, hgb⟩ := id hs
  have hus := hok.2.1
  have hn := hok.2.2.1
  have hk150 := fm_k hok hk
  obtain ⟨c5, c6, c8, c9, c10⟩ := hc.2.2.2.2.2.1 k N hk
  obtain ⟨-, hk0, how, hlen, hes, hch, hdep⟩ := hok.2.2.2.2 k N hk
  have hp150 := fm_k hok hp
  obtain ⟨d5, d6, d8, d9, d10⟩ := hc.2.2.2.2.2.1 p Q hp
  have hchp := fs_ok_ch hok p Q hp
  have hdp := (hok.2.2.2.2 p Q hp).2.2.2.2.2.2
  have hk00 := hk0 h0p
  refine fr_aload_n (pc := 0) d_MO_move_0 rfl rfl ?_
  refine fr_iload_n (pc := 1) d_MO_move_1 rfl rfl ?_
  refine fr_callv_p (pc := 2) (nc := nc) (ns := ns) (N := m_MO_isNode) (rest := []) (as := [.int (nI k)]) d_MO_move_2 vc_MO_91 ⟨by decide, by decide, Nat.le_of_ble_eq_true rfl⟩ (Nat.le_of_ble_eq_true rfl) fm_mo (c_MO_isNode_y hA hk150 (fm_th hc hok hk)) rfl ?_
  refine fr_if_eq (pc := 5) (tgt := 20) d_MO_move_5 (by decide) (fun q => absurd q (by decide)) (fun _ => ?_)
  refine fr_aload_n (pc := 8) d_MO_move_8 rfl rfl ?_
  refine fr_iload_n (pc := 9) d_MO_move_9 rfl rfl ?_
  refine fr_callv_p (pc := 10) (nc := nc) (ns := ns) (N := m_MO_isNode) (rest := []) (as := [.int (nI p)]) d_MO_move_10 vc_MO_91 ⟨by decide, by decide, Nat.le_of_ble_eq_true rfl⟩ (Nat.le_of_ble_eq_true rfl) fm_mo (c_MO_isNode_y hA hp150 (fm_th hc hok hp)) rfl ?_
  refine fr_if_eq (pc := 13) (tgt := 20) d_MO_move_13 (by decide) (fun q => absurd q (by decide)) (fun _ => ?_)
  refine fr_iconst (pc := 16) (v := 1) d_MO_move_16 (by decide) ?_
  refine fr_goto (pc := 17) (tgt := 21) d_MO_move_17 (by decide) ?_
  refine fr_istore_n (pc := 21) (L2 := [(0, .ref mo), (1, .int (nI k)), (2, .int (nI p)), (3, .int 1)]) d_MO_move_21 rfl (by decide) rfl ?_
  refine fr_iload_n (pc := 22) d_MO_move_22 rfl rfl ?_
  refine fr_if_eq (pc := 23) (tgt := 52) d_MO_move_23 (by decide) (fun q => absurd q (by decide)) (fun _ => ?_)
  refine fr_iload_n (pc := 26) d_MO_move_26 rfl rfl ?_
  refine fr_if_le (pc := 27) (tgt := 52) d_MO_move_27 (by decide) (fun _ => ?_) (fun q => absurd ((ni_le (b := 0) (by omega) (by omega)).mpr (by omega)) q)
  refine fr_iconst (pc := 52) (v := 0) d_MO_move_52 (by decide) ?_
  refine fr_istore (pc := 53) (L2 := [(0, .ref mo), (1, .int (nI k)), (2, .int (nI p)), (3, .int 1), (4, .int 0)]) d_MO_move_53 (by decide) rfl ?_
  refine fr_aload_n (pc := 55) d_MO_move_55 rfl rfl ?_
  refine fr_iload_n (pc := 56) d_MO_move_56 rfl rfl ?_
  refine fr_iload (pc := 57) d_MO_move_57 rfl ?_
  refine fr_iload (pc := 59) d_MO_move_59 rfl ?_
  refine fr_if_eq (pc := 61) (tgt := 86) d_MO_move_61 (by decide) (fun _ => ?_) (fun q => absurd q (by decide))
  refine fr_iconst (pc := 86) (v := 0) d_MO_move_86 (by decide) ?_
  refine fr_callv_p (pc := 87) (nc := nc) (ns := ns) (N := m_MO_goes) (rest := []) (as := [.int 1, .int 0, .int 0]) d_MO_move_87 vc_MO_69 ⟨by decide, by decide, Nat.le_of_ble_eq_true rfl⟩ (Nat.le_of_ble_eq_true rfl) fm_mo (c_MO_goes2 hA) rfl ?_
  refine fr_if_ne (pc := 90) (tgt := 95) d_MO_move_90 (by decide) (fun q => absurd q (by decide)) (fun _ => ?_)
  refine fr_iconst (pc := 93) (v := 0) d_MO_move_93 (by decide) ?_
  exact fr_iret rfl d_MO_move_94 ⟨rfl, _, _, _, _, rfl, hc⟩
theorem p_MO_move_n4 {g : fw_G} {nc ns : Nat} {w0 : fw_W} {mo : Nat} {ar : Nat → Nat} (hA : fm_ad mo ar) {th so pl po : Int32} {us n : Nat} {F : fm_F} {hu hg : Nat → Nat → Bool} {nd : fs_D} (hc : fm_c us n hu hg nd F) (hs : fm_S us n hu hg nd) {k : Nat} {N : fs_N} (hk : nd k = some N) {p : Nat} {Q : fs_N} (hp : nd p = some Q) {p0 : Nat} (h0p : N.2.1 = some p0) (hfo : Q.1 = false) : fw_R g m_MO_move (fm_P g w0 mo ar (.int 0) 2 (us, n, hu, hg, nd)) nc ns (fm_W g w0 mo ar (th, us, n, so, pl, po) F) 0 [(0, .ref mo), (1, .int (nI k)), (2, .int (nI p))] [] := by
  obtain ⟨hok, hub, hgb⟩ := id hs
  have hus := hok.2.1
  have hn := hok.2.2.1
  have hk150 := fm_k hok hk
  obtain ⟨c5, c6, c8, c9, c10⟩ := hc.2.2.2.2.2.1 k N hk
  obtain ⟨-, hk0, how, hlen, hes, hch, hdep⟩ := hok.2.2.2.2 k N hk
  have hp150 := fm_k hok hp
  obtain ⟨d5, d6, d8, d9, d10⟩ := hc.2.2.2.2.2.1 p Q hp
  have hchp := fs_ok_ch hok p Q hp
  have hdp := (hok.2.2.2.2 p Q hp).2.2.2.2.2.2
  have hkn : k ≠ 0 := fun z => by obtain ⟨M, h1, h2⟩ := hok.2.2.2.1; subst z; rw [hk] at h1; cases h1; rw [h0p] at h2; cases h2
  refine fr_aload_n (pc := 0) d_MO_move_0 rfl rfl ?_
  refine fr_iload_n (pc := 1) d_MO_move_1 rfl rfl ?_
  refine fr_callv_p (pc := 2) (nc := nc) (ns := ns) (N := m_MO_isNode) (rest := []) (as := [.int (nI k)]) d_MO_move_2 vc_MO_91 ⟨by decide, by decide, Nat.le_of_ble_eq_true rfl⟩ (Nat.le_of_ble_eq_true rfl) fm_mo (c_MO_isNode_y hA hk150 (fm_th hc hok hk)) rfl ?_
  refine fr_if_eq (pc := 5) (tgt := 20) d_MO_move_5 (by decide) (fun q => absurd q (by decide)) (fun _ => ?_)
  refine fr_aload_n (pc := 8) d_MO_move_8 rfl rfl ?_
  refine fr_iload_n (pc := 9) d_MO_move_9 rfl rfl ?_
  refine fr_callv_p (pc := 10) (nc := nc) (ns := ns) (N := m_MO_isNode) (rest := []) (as := [.int (nI p)]) d_MO_move_10 vc_MO_91 ⟨by decide, by decide, Nat.le_of_ble_eq_true rfl⟩ (Nat.le_of_ble_eq_true rfl) fm_mo (c_MO_isNode_y hA hp150 (fm_th hc hok hp)) rfl ?_
  refine fr_if_eq (pc := 13) (tgt := 20) d_MO_move_13 (by decide) (fun q => absurd q (by decide)) (fun _ => ?_)
  refine fr_iconst (pc := 16) (v := 1) d_MO_move_16 (by decide) ?_
  refine fr_goto (pc := 17) (tgt := 21) d_MO_move_17 (by decide) ?_
  refine fr_istore_n (pc := 21) (L2 := [(0, .ref mo), (1, .int (nI k)), (2, .int (nI p)), (3, .int 1)]) d_MO_move_21 rfl (by decide) rfl ?_
  refine fr_iload_n (pc := 22) d_MO_move_22 rfl rfl ?_
  refine fr_if_eq (pc := 23) (tgt := 52) d_MO_move_23 (by decide) (fun q => absurd q (by decide)) (fun _ => ?_)
  refine fr_iload_n (pc := 26) d_MO_move_26 rfl rfl ?_
  refine fr_if_le (pc := 27) (tgt := 52) d_MO_move_27 (by decide) (fun q => absurd ((ni_le (b := 0) (by omega) (by omega)).mp q) (by omega)) (fun _ => ?_)
  refine fr_aload_n (pc := 30) d_MO_move_30 rfl rfl ?_
  refine fr_get (pc := 31) (v := .ref (ar 5)) d_MO_move_31 fg_MO_29 fm_mo rfl ?_
  refine fr_iload_n (pc := 34) d_MO_move_34 rfl rfl ?_
  refine fr_mzld (pc := 35) (j := 5) (k := p) d_MO_move_35 hA (by decide) rfl (by show p < 150; omega) ?_
  refine fr_st (st2 := [.int 0]) (by rw [d5, hfo]; rfl) ?_
  refine fr_if_eq (pc := 36) (tgt := 52) d_MO_move_36 (by decide) (fun _ => ?_) (fun q => absurd q (by decide))
  refine fr_iconst (pc := 52) (v := 0) d_MO_move_52 (by decide) ?_
  refine fr_istore (pc := 53) (L2 := [(0, .ref mo), (1, .int (nI k)), (2, .int (nI p)), (3, .int 1), (4, .int 0)]) d_MO_move_53 (by decide) rfl ?_
  refine fr_aload_n (pc := 55) d_MO_move_55 rfl rfl ?_
  refine fr_iload_n (pc := 56) d_MO_move_56 rfl rfl ?_
  refine fr_iload (pc := 57) d_MO_move_57 rfl ?_
  refine fr_iload (pc := 59) d_MO_move_59 rfl ?_
  refine fr_if_eq (pc := 61) (tgt := 86) d_MO_move_61 (by decide) (fun _ => ?_) (fun q => absurd q (by decide))
  refine fr_iconst (pc := 86) (v := 0) d_MO_move_86 (by decide) ?_
  refine fr_callv_p (pc := 87) (nc := nc) (ns := ns) (N := m_MO_goes) (rest := []) (as := [.int 1, .int 0, .int 0]) d_MO_move_87 vc_MO_69 ⟨by decide, by decide, Nat.le_of_ble_eq_true rfl⟩ (Nat.le_of_ble_eq_true rfl) fm_mo (c_MO_goes2 hA) rfl ?_
  refine fr_if_ne (pc := 90) (tgt := 95) d_MO_move_90 (by decide) (fun q => absurd q (by decide)) (fun _ => ?_)
  refine fr_iconst (pc := 93) (v := 0) d_MO_move_93 (by decide) ?_
  exact fr_iret rfl d_MO_move_94 ⟨rfl, _, _, _, _, rfl, hc⟩
theorem p_MO_move_n5 {g : fw_G} {nc ns : Nat} {w0 : fw_W} {mo : Nat} {ar : Nat → Nat} (hA : fm_ad mo ar) {th so pl po : Int32} {us n : Nat} {F : fm_F} {hu hg : Nat → Nat → Bool} {nd : fs_D} (hc : fm_c us n hu hg nd F) (hs : fm_S us n hu hg nd) {k : Nat} {N : fs_N} (hk : nd k = some N) {p : Nat} {Q : fs_N} (hp : nd p = some Q) {p0 : Nat} (h0p : N.2.1 = some p0) (hfo : Q.1 = true) (hun : fs_un nd p k = true) : fw_R g m_MO_move (fm_P g w0 mo ar (.int 0) 2 (us, n, hu, hg, nd)) nc ns (fm_W g w0 mo ar (th, us, n, so, pl, po) F) 0 [(0, .ref mo), (1, .int (nI k)), (2, .int (nI p))] [] := by
  obtain ⟨hok, hub, hgb⟩ := id hs
  have hus := hok.2.1
  have hn := hok.2.2.1
  have hk150 := fm_k hok hk
  obtain ⟨c5, c6, c8, c9, c10⟩ := hc.2.2.2.2.2.1 k N hk
  obtain ⟨-, hk0, how, hlen, hes, hch, hdep⟩ := hok.2.2.2.2 k N hk
  have hp150 := fm_k hok hp
  obtain ⟨d5, d6, d8, d9, d10⟩ := hc.2.2.2.2.2.1 p Q hp
  have hchp := fs_ok_ch hok p Q hp
  have hdp := (hok.2.2.2.2 p Q hp).2.2.2.2.2.2
  have hkn : k ≠ 0 := fun z => by obtain ⟨M, h1, h2⟩ := hok.2.2.2.1; subst z; rw [hk] at h1; cases h1; rw [h0p] at h2; cases h2
  refine fr_aload_n (pc := 0) d_MO_move_0 rfl rfl ?_
  refine fr_iload_n (pc := 1) d_MO_move_1 rfl rfl ?_
  refine fr_callv_p (pc := 2) (nc := nc) (ns := ns) (N := m_MO_isNode) (rest := []) (as := [.int (nI k)]) d_MO_move_2 vc_MO_91 ⟨by decide, by decide, Nat.le_of_ble_eq_true rfl⟩ (Nat.le_of_ble_eq_true rfl) fm_mo (c_MO_isNode_y hA hk150 (fm_th hc hok hk)) rfl ?_
  refine fr_if_eq (pc := 5) (tgt := 20) d_MO_move_5 (by decide) (fun q => absurd q (by decide)) (fun _ => ?_)
  refine fr_aload_n (pc := 8) d_MO_move_8 rfl rfl ?_
  refine fr_iload_n (pc := 9) d_MO_move_9 rfl rfl ?_
  refine fr_callv_p (pc := 10) (nc := nc) (ns := ns) (N := m_MO_isNode) (rest := []) (as := [.int (nI p)]) d_MO_move_10 vc_MO_91 ⟨by decide, by decide, Nat.le_of_ble_eq_true rfl⟩ (Nat.le_of_ble_eq_true rfl) fm_mo (c_MO_isNode_y hA hp150 (fm_th hc hok hp)) rfl ?_
  refine fr_if_eq (pc := 13) (tgt := 20) d_MO_move_13 (by decide) (fun q => absurd q (by decide)) (fun _ => ?_)
  refine fr_iconst (pc := 16) (v := 1) d_MO_move_16 (by decide) ?_
  refine fr_goto (pc := 17) (tgt := 21) d_MO_move_17 (by decide) ?_
  refine fr_istore_n (pc := 21) (L2 := [(0, .ref mo), (1, .int (nI k)), (2, .int (nI p)), (3, .int 1)]) d_MO_move_21 rfl (by decide) rfl ?_
  refine fr_iload_n (pc := 22) d_MO_move_22 rfl rfl ?_
  refine fr_if_eq (pc := 23) (tgt := 52) d_MO_move_23 (by decide) (fun q => absurd q (by decide)) (fun _ => ?_)
  refine fr_iload_n (pc := 26) d_MO_move_26 rfl rfl ?_
  refine fr_if_le (pc := 27) (tgt := 52) d_MO_move_27 (by decide) (fun q => absurd ((ni_le (b := 0) (by omega) (by omega)).mp q) (by omega)) (fun _ => ?_)
  refine fr_aload_n (pc := 30) d_MO_move_30 rfl rfl ?_
  refine fr_get (pc := 31) (v := .ref (ar 5)) d_MO_move_31 fg_MO_29 fm_mo rfl ?_
  refine fr_iload_n (pc := 34) d_MO_move_34 rfl rfl ?_
  refine fr_mzld (pc := 35) (j := 5) (k := p) d_MO_move_35 hA (by decide) rfl (by show p < 150; omega) ?_
  refine fr_st (st2 := [.int 1]) (by rw [d5, hfo]; rfl) ?_
  refine fr_if_eq (pc := 36) (tgt := 52) d_MO_move_36 (by decide) (fun q => absurd q (by decide)) (fun _ => ?_)
  refine fr_aload_n (pc := 39) d_MO_move_39 rfl rfl ?_
  refine fr_iload_n (pc := 40) d_MO_move_40 rfl rfl ?_
  refine fr_iload_n (pc := 41) d_MO_move_41 rfl rfl ?_
  refine fr_callv_p (pc := 42) (nc := nc) (ns := ns) (N := m_MO_under) (rest := []) (as := [.int (nI p), .int (nI k)]) d_MO_move_42 vc_MO_98 ⟨by decide, by decide, Nat.le_of_ble_eq_true rfl⟩ (Nat.le_of_ble_eq_true rfl) fm_mo (c_MO_under hA (fm_p_c hc hok) hk150 hchp) rfl ?_
  refine fr_st (st2 := [.int (bI true)]) (by rw [hun]) ?_
  refine fr_if_ne (pc := 45) (tgt := 52) d_MO_move_45 (by decide) (fun _ => ?_) (fun q => absurd q (by decide))
  refine fr_iconst (pc := 52) (v := 0) d_MO_move_52 (by decide) ?_
  refine fr_istore (pc := 53) (L2 := [(0, .ref mo), (1, .int (nI k)), (2, .int (nI p)), (3, .int 1), (4, .int 0)]) d_MO_move_53 (by decide) rfl ?_
  refine fr_aload_n (pc := 55) d_MO_move_55 rfl rfl ?_
  refine fr_iload_n (pc := 56) d_MO_move_56 rfl rfl ?_
  refine fr_iload (pc := 57) d_MO_move_57 rfl ?_
  refine fr_iload (pc := 59) d_MO_move_59 rfl ?_
  refine fr_if_eq (pc := 61) (tgt := 86) d_MO_move_61 (by decide) (fun _ => ?_) (fun q => absurd q (by decide))
  refine fr_iconst (pc := 86) (v := 0) d_MO_move_86 (by decide) ?_
  refine fr_callv_p (pc := 87) (nc := nc) (ns := ns) (N := m_MO_goes) (rest := []) (as := [.int 1, .int 0, .int 0]) d_MO_move_87 vc_MO_69 ⟨by decide, by decide, Nat.le_of_ble_eq_true rfl⟩ (Nat.le_of_ble_eq_true rfl) fm_mo (c_MO_goes2 hA) rfl ?_
  refine fr_if_ne (pc := 90) (tgt := 95) d_MO_move_90 (by decide) (fun q => absurd q (by decide)) (fun _ => ?_)
  refine fr_iconst (pc := 93) (v := 0) d_MO_move_93 (by decide) ?_
  exact fr_iret rfl d_MO_move_94 ⟨rfl, _, _, _, _, rfl, hc⟩
theorem p_MO_move_n6 {g : fw_G} {nc ns : Nat} {w0 : fw_W} {mo : Nat} {ar : Nat → Nat} (hA : fm_ad mo ar) {th so pl po : Int32} {us n : Nat} {F : fm_F} {hu hg : Nat → Nat → Bool} {nd : fs_D} (hc : fm_c us n hu hg nd F) (hs : fm_S us n hu hg nd) {k : Nat} {N : fs_N} (hk : nd k = some N) {p : Nat} {Q : fs_N} (hp : nd p = some Q) {p0 : Nat} (h0p : N.2.1 = some p0) (hfo : Q.1 = true) (hun : fs_un nd p k = false) (hd : ¬ (fs_ab nd p).length + 1 + (fs_hi (fs_f5 nd k) 150 0 0) ≤ 20) : fw_R g m_MO_move (fm_P g w0 mo ar (.int 0) 3 (us, n, hu, hg, nd)) nc ns (fm_W g w0 mo ar (th, us, n, so, pl, po) F) 0 [(0, .ref mo), (1, .int (nI k)), (2, .int (nI p))] [] := by
  obtain ⟨hok, hub, hgb⟩ := id hs
  have hus := hok.2.1
  have hn := hok.2.2.1
  have hk150 := fm_k hok hk
  obtain ⟨c5, c6, c8, c9, c10⟩ := hc.2.2.2.2.2.1 k N hk
  obtain ⟨-, hk0, how, hlen, hes, hch, hdep⟩ := hok.2.2.2.2 k N hk
  have hp150 := fm_k hok hp
  obtain ⟨d5, d6, d8, d9, d10⟩ := hc.2.2.2.2.2.1 p Q hp
  have hchp := fs_ok_ch hok p Q hp
  have hdp := (hok.2.2.2.2 p Q hp).2.2.2.2.2.2
  have hkn : k ≠ 0 := fun z => by obtain ⟨M, h1, h2⟩ := hok.2.2.2.1; subst z; rw [hk] at h1; cases h1; rw [h0p] at h2; cases h2
  have hh20 : (fs_hi (fs_f5 nd k) 150 0 0) ≤ 20 := fs_hi_le (fs_f5_20 hok k) 150 0 0 (by omega)
  refine fr_aload_n (pc := 0) d_MO_move_0 rfl rfl ?_
  refine fr_iload_n (pc := 1) d_MO_move_1 rfl rfl ?_
  refine fr_callv_p (pc := 2) (nc := nc) (ns := ns) (N := m_MO_isNode) (rest := []) (as := [.int (nI k)]) d_MO_move_2 vc_MO_91 ⟨by decide, by decide, Nat.le_of_ble_eq_true rfl⟩ (Nat.le_of_ble_eq_true rfl) fm_mo (c_MO_isNode_y hA hk150 (fm_th hc hok hk)) rfl ?_
  refine fr_if_eq (pc := 5) (tgt := 20) d_MO_move_5 (by decide) (fun q => absurd q (by decide)) (fun _ => ?_)
  refine fr_aload_n (pc := 8) d_MO_move_8 rfl rfl ?_
  refine fr_iload_n (pc := 9) d_MO_move_9 rfl rfl ?_
  refine fr_callv_p (pc := 10) (nc := nc) (ns := ns) (N := m_MO_isNode) (rest := []) (as := [.int (nI p)]) d_MO_move_10 vc_MO_91 ⟨by decide, by decide, Nat.le_of_ble_eq_true rfl⟩ (Nat.le_of_ble_eq_true rfl) fm_mo (c_MO_isNode_y hA hp150 (fm_th hc hok hp)) rfl ?_
  refine fr_if_eq (pc := 13) (tgt := 20) d_MO_move_13 (by decide) (fun q => absurd q (by decide)) (fun _ => ?_)
  refine fr_iconst (pc := 16) (v := 1) d_MO_move_16 (by decide) ?_
  refine fr_goto (pc := 17) (tgt := 21) d_MO_move_17 (by decide) ?_
  refine fr_istore_n (pc := 21) (L2 := [(0, .ref mo), (1, .int (nI k)), (2, .int (nI p)), (3, .int 1)]) d_MO_move_21 rfl (by decide) rfl ?_
  refine fr_iload_n (pc := 22) d_MO_move_22 rfl rfl ?_
  refine fr_if_eq (pc := 23) (tgt := 52) d_MO_move_23 (by decide) (fun q => absurd q (by decide)) (fun _ => ?_)
  refine fr_iload_n (pc := 26) d_MO_move_26 rfl rfl ?_
  refine fr_if_le (pc := 27) (tgt := 52) d_MO_move_27 (by decide) (fun q => absurd ((ni_le (b := 0) (by omega) (by omega)).mp q) (by omega)) (fun _ => ?_)
  refine fr_aload_n (pc := 30) d_MO_move_30 rfl rfl ?_
  refine fr_get (pc := 31) (v := .ref (ar 5)) d_MO_move_31 fg_MO_29 fm_mo rfl ?_
  refine fr_iload_n (pc := 34) d_MO_move_34 rfl rfl ?_
  refine fr_mzld (pc := 35) (j := 5) (k := p) d_MO_move_35 hA (by decide) rfl (by show p < 150; omega) ?_
  refine fr_st (st2 := [.int 1]) (by rw [d5, hfo]; rfl) ?_
  refine fr_if_eq (pc := 36) (tgt := 52) d_MO_move_36 (by decide) (fun q => absurd q (by decide)) (fun _ => ?_)
  refine fr_aload_n (pc := 39) d_MO_move_39 rfl rfl ?_
  refine fr_iload_n (pc := 40) d_MO_move_40 rfl rfl ?_
  refine fr_iload_n (pc := 41) d_MO_move_41 rfl rfl ?_
  refine fr_callv_p (pc := 42) (nc := nc) (ns := ns) (N := m_MO_under) (rest := []) (as := [.int (nI p), .int (nI k)]) d_MO_move_42 vc_MO_98 ⟨by decide, by decide, Nat.le_of_ble_eq_true rfl⟩ (Nat.le_of_ble_eq_true rfl) fm_mo (c_MO_under hA (fm_p_c hc hok) hk150 hchp) rfl ?_
  refine fr_st (st2 := [.int (bI false)]) (by rw [hun]) ?_
  refine fr_if_ne (pc := 45) (tgt := 52) d_MO_move_45 (by decide) (fun q => absurd q (by decide)) (fun _ => ?_)
  refine fr_iconst (pc := 48) (v := 1) d_MO_move_48 (by decide) ?_
  refine fr_goto (pc := 49) (tgt := 53) d_MO_move_49 (by decide) ?_
  refine fr_istore (pc := 53) (L2 := [(0, .ref mo), (1, .int (nI k)), (2, .int (nI p)), (3, .int 1), (4, .int 1)]) d_MO_move_53 (by decide) rfl ?_
  refine fr_aload_n (pc := 55) d_MO_move_55 rfl rfl ?_
  refine fr_iload_n (pc := 56) d_MO_move_56 rfl rfl ?_
  refine fr_iload (pc := 57) d_MO_move_57 rfl ?_
  refine fr_iload (pc := 59) d_MO_move_59 rfl ?_
  refine fr_if_eq (pc := 61) (tgt := 86) d_MO_move_61 (by decide) (fun q => absurd q (by decide)) (fun _ => ?_)
  refine fr_aload_n (pc := 64) d_MO_move_64 rfl rfl ?_
  refine fr_iload_n (pc := 65) d_MO_move_65 rfl rfl ?_
  refine fr_callv_p (pc := 66) (nc := nc) (ns := ns) (N := m_MO_depth) (rest := [.int 1, .int 1, .ref mo]) (as := [.int (nI p)]) d_MO_move_66 vc_MO_94 ⟨by decide, by decide, Nat.le_of_ble_eq_true rfl⟩ (Nat.le_of_ble_eq_true rfl) fm_mo (c_MO_depth hA (fm_p_c hc hok) hchp) rfl ?_
  refine fr_iconst (pc := 69) (v := 1) d_MO_move_69 (by decide) ?_
  refine fr_iaddN (pc := 70) (a := (fs_ab nd p).length) (b := 1) d_MO_move_70 ?_
  refine fr_aload_n (pc := 71) d_MO_move_71 rfl rfl ?_
  refine fr_iload_n (pc := 72) d_MO_move_72 rfl rfl ?_
  refine fr_callv_p (pc := 73) (nc := nc) (ns := ns) (N := m_MO_height) (rest := [.int (nI ((fs_ab nd p).length + 1)), .int 1, .int 1, .ref mo]) (as := [.int (nI k)]) d_MO_move_73 vc_MO_102 ⟨by decide, by decide, Nat.le_of_ble_eq_true rfl⟩ (Nat.le_of_ble_eq_true rfl) fm_mo (c_MO_height hA (fm_p_c hc hok) hc.2.2.2.1 (fs_ok_ch hok) (fun k N hk => (hok.2.2.2.2 k N hk).2.2.2.2.2.2) hk) rfl ?_
  refine fr_iaddN (pc := 76) (a := ((fs_ab nd p).length + 1)) (b := (fs_hi (fs_f5 nd k) 150 0 0)) d_MO_move_76 ?_
  refine fr_bipush (pc := 77) (v := 20) d_MO_move_77 (by decide) ?_
  refine fr_icmp_gtN (pc := 79) (tgt := 86) (a := (((fs_ab nd p).length + 1) + (fs_hi (fs_f5 nd k) 150 0 0))) (b := 20) d_MO_move_79 (by decide) (by omega) (by omega) (fun _ => ?_) (fun q => absurd q (by omega))
  refine fr_iconst (pc := 86) (v := 0) d_MO_move_86 (by decide) ?_
  refine fr_callv_p (pc := 87) (nc := nc) (ns := ns) (N := m_MO_goes) (rest := []) (as := [.int 1, .int 1, .int 0]) d_MO_move_87 vc_MO_69 ⟨by decide, by decide, Nat.le_of_ble_eq_true rfl⟩ (Nat.le_of_ble_eq_true rfl) fm_mo (c_MO_goes3 hA) rfl ?_
  refine fr_if_ne (pc := 90) (tgt := 95) d_MO_move_90 (by decide) (fun q => absurd q (by decide)) (fun _ => ?_)
  refine fr_iconst (pc := 93) (v := 0) d_MO_move_93 (by decide) ?_
  exact fr_iret rfl d_MO_move_94 ⟨rfl, _, _, _, _, rfl, hc⟩
theorem p_MO_move_ok {g : fw_G} {nc ns : Nat} {w0 : fw_W} {mo : Nat} {ar : Nat → Nat} (hA : fm_ad mo ar) {th so pl po : Int32} {us n : Nat} {F : fm_F} {hu hg : Nat → Nat → Bool} {nd : fs_D} (hc : fm_c us n hu hg nd F) (hs : fm_S us n hu hg nd) {k : Nat} {N : fs_N} (hk : nd k = some N) {p : Nat} {Q : fs_N} (hp : nd p = some Q) {p0 : Nat} (h0p : N.2.1 = some p0) (hfo : Q.1 = true) (hun : fs_un nd p k = false) (hd : (fs_ab nd p).length + 1 + (fs_hi (fs_f5 nd k) 150 0 0) ≤ 20) : fw_R g m_MO_move (fm_P g w0 mo ar (.int (nI ((fs_ab nd p).length + 1))) 0 (us, n, hu, hg, (va_up (fs_mk (va_up nd k (some (N.1, some p, N.2.2.1, N.2.2.2.1, N.2.2.2.2.1, N.2.2.2.2.2))) k 150) k (some (N.1, some p, N.2.2.1, N.2.2.2.1, true, N.2.2.2.2.2))))) nc ns (fm_W g w0 mo ar (th, us, n, so, pl, po) F) 0 [(0, .ref mo), (1, .int (nI k)), (2, .int (nI p))] [] := by
  obtain ⟨hok, hub, hgb⟩ := id hs
  have hus := hok.2.1
  have hn := hok.2.2.1
  have hk150 := fm_k hok hk
  obtain ⟨c5, c6, c8, c9, c10⟩ := hc.2.2.2.2.2.1 k N hk
  obtain ⟨-, hk0, how, hlen, hes, hch, hdep⟩ := hok.2.2.2.2 k N hk
  have hp150 := fm_k hok hp
  obtain ⟨d5, d6, d8, d9, d10⟩ := hc.2.2.2.2.2.1 p Q hp
  have hchp := fs_ok_ch hok p Q hp
  have hdp := (hok.2.2.2.2 p Q hp).2.2.2.2.2.2
  have hkn : k ≠ 0 := fun z => by obtain ⟨M, h1, h2⟩ := hok.2.2.2.1; subst z; rw [hk] at h1; cases h1; rw [h0p] at h2; cases h2
  have hh20 : (fs_hi (fs_f5 nd k) 150 0 0) ≤ 20 := fs_hi_le (fs_f5_20 hok k) 150 0 0 (by omega)
  have c7 := hc.2.2.2.2.1 k hk150
  rw [fm_sl_at hk] at c7
  have hc1 := fm_c_up hc (N2 := (N.1, some p, N.2.2.1, N.2.2.2.1, N.2.2.2.2.1, N.2.2.2.2.2)) (F2 := fm_e F 8 k (nI p)) hk rfl (fm_e_hs (by omega)) fm_e_hm (by rw [fm_e_ne (by decide)]; exact c5) (by rw [fm_e_ne (by decide)]; exact c6) (by rw [fm_e_ne (by decide)]; exact c7) fm_e_self (by rw [fm_e_ne (by decide)]; exact c9) (by rw [fm_e_ne (by decide)])
  have hok1 := fs_ok_mv hok hk hp hkn hun hd
  have hun2 := of_decide_eq_false hun
  have hch1 : fs_ch (va_up nd k (some (N.1, some p, N.2.2.1, N.2.2.2.1, N.2.2.2.2.1, N.2.2.2.2.2))) k (p :: fs_ab nd p) := ⟨⟨_, vu_self, rfl⟩, fs_ch_off _ _ (fun x hx => vu_ne (fun e => by subst e; exact hun2 hx)) hchp⟩
  have hab1 : fs_ab (va_up nd k (some (N.1, some p, N.2.2.1, N.2.2.2.1, N.2.2.2.2.1, N.2.2.2.2.2))) k = p :: fs_ab nd p := fs_ab_of hch1 (by simp only [List.length_cons]; omega)
  have hlen1 : (fs_ab (va_up nd k (some (N.1, some p, N.2.2.1, N.2.2.2.1, N.2.2.2.2.1, N.2.2.2.2.2))) k).length = (fs_ab nd p).length + 1 := by rw [hab1]; rfl
  refine fr_aload_n (pc := 0) d_MO_move_0 rfl rfl ?_
  refine fr_iload_n (pc := 1) d_MO_move_1 rfl rfl ?_
  refine fr_callv_p (pc := 2) (nc := nc) (ns := ns) (N := m_MO_isNode) (rest := []) (as := [.int (nI k)]) d_MO_move_2 vc_MO_91 ⟨by decide, by decide, Nat.le_of_ble_eq_true rfl⟩ (Nat.le_of_ble_eq_true rfl) fm_mo (c_MO_isNode_y hA hk150 (fm_th hc hok hk)) rfl ?_
  refine fr_if_eq (pc := 5) (tgt := 20) d_MO_move_5 (by decide) (fun q => absurd q (by decide)) (fun _ => ?_)
  refine fr_aload_n (pc := 8) d_MO_move_8 rfl rfl ?_
  refine fr_iload_n (pc := 9) d_MO_move_9 rfl rfl ?_
  refine fr_callv_p (pc := 10) (nc := nc) (ns := ns) (N := m_MO_isNode) (rest := []) (as := [.int (nI p)]) d_MO_move_10 vc_MO_91 ⟨by decide, by decide, Nat.le_of_ble_eq_true rfl⟩ (Nat.le_of_ble_eq_true rfl) fm_mo (c_MO_isNode_y hA hp150 (fm_th hc hok hp)) rfl ?_
  refine fr_if_eq (pc := 13) (tgt := 20) d_MO_move_13 (by decide) (fun q => absurd q (by decide)) (fun _ => ?_)
  refine fr_iconst (pc := 16) (v := 1) d_MO_move_16 (by decide) ?_
  refine fr_goto (pc := 17) (tgt := 21) d_MO_move_17 (by decide) ?_
  refine fr_istore_n (pc := 21) (L2 := [(0, .ref mo), (1, .int (nI k)), (2, .int (nI p)), (3, .int 1)]) d_MO_move_21 rfl (by decide) rfl ?_
  refine fr_iload_n (pc := 22) d_MO_move_22 rfl rfl ?_
  refine fr_if_eq (pc := 23) (tgt := 52) d_MO_move_23 (by decide) (fun q => absurd q (by decide)) (fun _ => ?_)
  refine fr_iload_n (pc := 26) d_MO_move_26 rfl rfl ?_
  refine fr_if_le (pc := 27) (tgt := 52) d_MO_move_27 (by decide) (fun q => absurd ((ni_le (b := 0) (by omega) (by omega)).mp q) (by omega)) (fun _ => ?_)
  refine fr_aload_n (pc := 30) d_MO_move_30 rfl rfl ?_
  refine fr_get (pc := 31) (v := .ref (ar 5)) d_MO_move_31 fg_MO_29 fm_mo rfl ?_
  refine fr_iload_n (pc := 34) d_MO_move_34 rfl rfl ?_
  refine fr_mzld (pc := 35) (j := 5) (k := p) d_MO_move_35 hA (by decide) rfl (by show p < 150; omega) ?_
  refine fr_st (st2 := [.int 1]) (by rw [d5, hfo]; rfl) ?_
  refine fr_if_eq (pc := 36) (tgt := 52) d_MO_move_36 (by decide) (fun q => absurd q (by decide)) (fun _ => ?_)
  refine fr_aload_n (pc := 39) d_MO_move_39 rfl rfl ?_
  refine fr_iload_n (pc := 40) d_MO_move_40 rfl rfl ?_
  refine fr_iload_n (pc := 41) d_MO_move_41 rfl rfl ?_
  refine fr_callv_p (pc := 42) (nc := nc) (ns := ns) (N := m_MO_under) (rest := []) (as := [.int (nI p), .int (nI k)]) d_MO_move_42 vc_MO_98 ⟨by decide, by decide, Nat.le_of_ble_eq_true rfl⟩ (Nat.le_of_ble_eq_true rfl) fm_mo (c_MO_under hA (fm_p_c hc hok) hk150 hchp) rfl ?_
  refine fr_st (st2 := [.int (bI false)]) (by rw [hun]) ?_
  refine fr_if_ne (pc := 45) (tgt := 52) d_MO_move_45 (by decide) (fun q => absurd q (by decide)) (fun _ => ?_)
  refine fr_iconst (pc := 48) (v := 1) d_MO_move_48 (by decide) ?_
  refine fr_goto (pc := 49) (tgt := 53) d_MO_move_49 (by decide) ?_
  refine fr_istore (pc := 53) (L2 := [(0, .ref mo), (1, .int (nI k)), (2, .int (nI p)), (3, .int 1), (4, .int 1)]) d_MO_move_53 (by decide) rfl ?_
  refine fr_aload_n (pc := 55) d_MO_move_55 rfl rfl ?_
  refine fr_iload_n (pc := 56) d_MO_move_56 rfl rfl ?_
  refine fr_iload (pc := 57) d_MO_move_57 rfl ?_
  refine fr_iload (pc := 59) d_MO_move_59 rfl ?_
  refine fr_if_eq (pc := 61) (tgt := 86) d_MO_move_61 (by decide) (fun q => absurd q (by decide)) (fun _ => ?_)
  refine fr_aload_n (pc := 64) d_MO_move_64 rfl rfl ?_
  refine fr_iload_n (pc := 65) d_MO_move_65 rfl rfl ?_
  refine fr_callv_p (pc := 66) (nc := nc) (ns := ns) (N := m_MO_depth) (rest := [.int 1, .int 1, .ref mo]) (as := [.int (nI p)]) d_MO_move_66 vc_MO_94 ⟨by decide, by decide, Nat.le_of_ble_eq_true rfl⟩ (Nat.le_of_ble_eq_true rfl) fm_mo (c_MO_depth hA (fm_p_c hc hok) hchp) rfl ?_
  refine fr_iconst (pc := 69) (v := 1) d_MO_move_69 (by decide) ?_
  refine fr_iaddN (pc := 70) (a := (fs_ab nd p).length) (b := 1) d_MO_move_70 ?_
  refine fr_aload_n (pc := 71) d_MO_move_71 rfl rfl ?_
  refine fr_iload_n (pc := 72) d_MO_move_72 rfl rfl ?_
  refine fr_callv_p (pc := 73) (nc := nc) (ns := ns) (N := m_MO_height) (rest := [.int (nI ((fs_ab nd p).length + 1)), .int 1, .int 1, .ref mo]) (as := [.int (nI k)]) d_MO_move_73 vc_MO_102 ⟨by decide, by decide, Nat.le_of_ble_eq_true rfl⟩ (Nat.le_of_ble_eq_true rfl) fm_mo (c_MO_height hA (fm_p_c hc hok) hc.2.2.2.1 (fs_ok_ch hok) (fun k N hk => (hok.2.2.2.2 k N hk).2.2.2.2.2.2) hk) rfl ?_
  refine fr_iaddN (pc := 76) (a := ((fs_ab nd p).length + 1)) (b := (fs_hi (fs_f5 nd k) 150 0 0)) d_MO_move_76 ?_
  refine fr_bipush (pc := 77) (v := 20) d_MO_move_77 (by decide) ?_
  refine fr_icmp_gtN (pc := 79) (tgt := 86) (a := (((fs_ab nd p).length + 1) + (fs_hi (fs_f5 nd k) 150 0 0))) (b := 20) d_MO_move_79 (by decide) (by omega) (by omega) (fun q => absurd q (by omega)) (fun _ => ?_)
  refine fr_iconst (pc := 82) (v := 1) d_MO_move_82 (by decide) ?_
  refine fr_goto (pc := 83) (tgt := 87) d_MO_move_83 (by decide) ?_
  refine fr_callv_p (pc := 87) (nc := nc) (ns := ns) (N := m_MO_goes) (rest := []) (as := [.int 1, .int 1, .int 1]) d_MO_move_87 vc_MO_69 ⟨by decide, by decide, Nat.le_of_ble_eq_true rfl⟩ (Nat.le_of_ble_eq_true rfl) fm_mo (c_MO_goes0 hA) rfl ?_
  refine fr_if_ne (pc := 90) (tgt := 95) d_MO_move_90 (by decide) (fun _ => ?_) (fun q => absurd q (by decide))
  refine fr_aload_n (pc := 95) d_MO_move_95 rfl rfl ?_
  refine fr_get (pc := 96) (v := .ref (ar 8)) d_MO_move_96 fg_MO_38 fm_mo rfl ?_
  refine fr_iload_n (pc := 99) d_MO_move_99 rfl rfl ?_
  refine fr_iload_n (pc := 100) d_MO_move_100 rfl rfl ?_
  refine fr_mist (pc := 101) (j := 8) (k := k) (x := (nI p)) d_MO_move_101 hA (by decide) rfl (by show k < 150; omega) ?_
  refine fr_aload_n (pc := 102) d_MO_move_102 rfl rfl ?_
  refine fr_iload_n (pc := 103) d_MO_move_103 rfl rfl ?_
  refine fr_iconst (pc := 104) (v := 1) d_MO_move_104 (by decide) ?_
  refine fr_callv_n (pc := 105) (nc := nc) (ns := ns) (N := m_MO_spread) (rest := []) (as := [.int (nI k), .int 1]) d_MO_move_105 vc_MO_105 ⟨by decide, by decide, Nat.le_of_ble_eq_true rfl⟩ (Nat.le_of_ble_eq_true rfl) fm_mo (c_MO_spread hA (fm_p_c hc1 hok1) hc1.2.2.2.1 (fun j => hc1.2.2.2.2.2.2.2 7 j (by omega)) (fs_ok_ch hok1) (t := k) (b := true) hk150) rfl ?_
  refine fr_aload_n (pc := 108) d_MO_move_108 rfl rfl ?_
  refine fr_iload_n (pc := 109) d_MO_move_109 rfl rfl ?_
  refine fr_callv_p (pc := 110) (nc := nc) (ns := ns) (N := m_MO_depth) (rest := []) (as := [.int (nI k)]) d_MO_move_110 vc_MO_94 ⟨by decide, by decide, Nat.le_of_ble_eq_true rfl⟩ (Nat.le_of_ble_eq_true rfl) fm_mo (c_MO_depth hA (nd := (va_up nd k (some (N.1, some p, N.2.2.1, N.2.2.2.1, N.2.2.2.2.1, N.2.2.2.2.2)))) (fun j M hj => ⟨(fm_p_c hc1 hok1 j M hj).1, by rw [fm_s_ne (by decide)]; exact (fm_p_c hc1 hok1 j M hj).2⟩) (fs_ok_ch hok1 k _ vu_self)) rfl ?_
  refine fr_st (st2 := [.int (nI ((fs_ab nd p).length + 1))]) (by rw [hlen1]) ?_
  exact fr_iret rfl d_MO_move_113 ⟨rfl, _, _, _, _, rfl, fm_c_mk1 hc1 vu_self⟩
def fm_cp (F : fm_F) (a b : Nat) : fm_F := fun j m => if (11 ≤ j ∧ j < 16) ∧ m = b then F j a else F j m
theorem fm_cp_e {F : fm_F} {a b : Nat} : fm_e (fm_e (fm_e (fm_e (fm_e F 11 b (F 11 a)) 12 b (F 12 a)) 13 b (F 13 a)) 14 b (F 14 a)) 15 b (F 15 a) = fm_cp F a b := by
  funext j m
  unfold fm_cp
  by_cases h : 11 ≤ j ∧ j < 16
  · have h2 : j = 11 ∨ j = 12 ∨ j = 13 ∨ j = 14 ∨ j = 15 := by omega
    by_cases e : m = b
    · rw [if_pos ⟨h, e⟩, e]
      rcases h2 with rfl | rfl | rfl | rfl | rfl <;> repeat first | rw [fm_e_self] | rw [fm_e_ne (by decide)]
    · rw [if_neg (fun z => e z.2)]
      repeat rw [fm_e_hm _ _ e]
  · rw [if_neg (fun z => h z.1)]
    rw [fm_e_ne (by omega), fm_e_ne (by omega), fm_e_ne (by omega), fm_e_ne (by omega), fm_e_ne (by omega)]
theorem c_MO_copyEntry {g : fw_G} {nc ns : Nat} {w0 : fw_W} {mo : Nat} {ar : Nat → Nat} (hA : fm_ad mo ar) {th so pl po : Int32} {us n : Nat} {F : fm_F} (hB : ∀ j i, j < 8 ∨ j = 11 ∨ j = 12 → F j i = 0 ∨ F j i = 1) {a b : Nat} (ha : a < 1800) (hb : b < 1800) : fw_R g m_MO_copyEntry (fw_pn (fm_W g w0 mo ar (th, us, n, so, pl, po) (fm_cp F a b))) nc ns (fm_W g w0 mo ar (th, us, n, so, pl, po) F) 0 [(0, .ref mo), (1, .int (nI a)), (2, .int (nI b))] [] := by
  refine fr_aload_n (pc := 0) d_MO_copyEntry_0 rfl rfl ?_
  refine fr_get (pc := 1) (v := .ref (ar 11)) d_MO_copyEntry_1 fg_MO_48 fm_mo rfl ?_
  refine fr_iload_n (pc := 4) d_MO_copyEntry_4 rfl rfl ?_
  refine fr_aload_n (pc := 5) d_MO_copyEntry_5 rfl rfl ?_
  refine fr_get (pc := 6) (v := .ref (ar 11)) d_MO_copyEntry_6 fg_MO_48 fm_mo rfl ?_
  refine fr_iload_n (pc := 9) d_MO_copyEntry_9 rfl rfl ?_
  refine fr_mzld (pc := 10) (j := 11) (k := a) d_MO_copyEntry_10 hA (by decide) rfl (by show a < 1800; omega) ?_
  refine fr_mzst (pc := 11) (j := 11) (k := b) (x := (F 11 a)) d_MO_copyEntry_11 hA (by decide) rfl (by show b < 1800; omega) (hB _ _ (by decide)) ?_
  refine fr_aload_n (pc := 12) d_MO_copyEntry_12 rfl rfl ?_
  refine fr_get (pc := 13) (v := .ref (ar 12)) d_MO_copyEntry_13 fg_MO_51 fm_mo rfl ?_
  refine fr_iload_n (pc := 16) d_MO_copyEntry_16 rfl rfl ?_
  refine fr_aload_n (pc := 17) d_MO_copyEntry_17 rfl rfl ?_
  refine fr_get (pc := 18) (v := .ref (ar 12)) d_MO_copyEntry_18 fg_MO_51 fm_mo rfl ?_
  refine fr_iload_n (pc := 21) d_MO_copyEntry_21 rfl rfl ?_
  refine fr_mzld (pc := 22) (j := 12) (k := a) d_MO_copyEntry_22 hA (by decide) rfl (by show a < 1800; omega) ?_
  refine fr_st (st2 := [.int (F 12 a), .int (nI b), .ref (ar 12)]) (by repeat rw [fm_e_ne (by decide)]) ?_
  refine fr_mzst (pc := 23) (j := 12) (k := b) (x := (F 12 a)) d_MO_copyEntry_23 hA (by decide) rfl (by show b < 1800; omega) (hB _ _ (by decide)) ?_
  refine fr_aload_n (pc := 24) d_MO_copyEntry_24 rfl rfl ?_
  refine fr_get (pc := 25) (v := .ref (ar 13)) d_MO_copyEntry_25 fg_MO_54 fm_mo rfl ?_
  refine fr_iload_n (pc := 28) d_MO_copyEntry_28 rfl rfl ?_
  refine fr_aload_n (pc := 29) d_MO_copyEntry_29 rfl rfl ?_
  refine fr_get (pc := 30) (v := .ref (ar 13)) d_MO_copyEntry_30 fg_MO_54 fm_mo rfl ?_
  refine fr_iload_n (pc := 33) d_MO_copyEntry_33 rfl rfl ?_
  refine fr_mild (pc := 34) (j := 13) (k := a) d_MO_copyEntry_34 hA (by decide) rfl (by show a < 1800; omega) ?_
  refine fr_st (st2 := [.int (F 13 a), .int (nI b), .ref (ar 13)]) (by repeat rw [fm_e_ne (by decide)]) ?_
  refine fr_mist (pc := 35) (j := 13) (k := b) (x := (F 13 a)) d_MO_copyEntry_35 hA (by decide) rfl (by show b < 1800; omega) ?_
  refine fr_aload_n (pc := 36) d_MO_copyEntry_36 rfl rfl ?_
  refine fr_get (pc := 37) (v := .ref (ar 14)) d_MO_copyEntry_37 fg_MO_57 fm_mo rfl ?_
  refine fr_iload_n (pc := 40) d_MO_copyEntry_40 rfl rfl ?_
  refine fr_aload_n (pc := 41) d_MO_copyEntry_41 rfl rfl ?_
  refine fr_get (pc := 42) (v := .ref (ar 14)) d_MO_copyEntry_42 fg_MO_57 fm_mo rfl ?_
  refine fr_iload_n (pc := 45) d_MO_copyEntry_45 rfl rfl ?_
  refine fr_mild (pc := 46) (j := 14) (k := a) d_MO_copyEntry_46 hA (by decide) rfl (by show a < 1800; omega) ?_
  refine fr_st (st2 := [.int (F 14 a), .int (nI b), .ref (ar 14)]) (by repeat rw [fm_e_ne (by decide)]) ?_
  refine fr_mist (pc := 47) (j := 14) (k := b) (x := (F 14 a)) d_MO_copyEntry_47 hA (by decide) rfl (by show b < 1800; omega) ?_
  refine fr_aload_n (pc := 48) d_MO_copyEntry_48 rfl rfl ?_
  refine fr_get (pc := 49) (v := .ref (ar 15)) d_MO_copyEntry_49 fg_MO_60 fm_mo rfl ?_
  refine fr_iload_n (pc := 52) d_MO_copyEntry_52 rfl rfl ?_
  refine fr_aload_n (pc := 53) d_MO_copyEntry_53 rfl rfl ?_
  refine fr_get (pc := 54) (v := .ref (ar 15)) d_MO_copyEntry_54 fg_MO_60 fm_mo rfl ?_
  refine fr_iload_n (pc := 57) d_MO_copyEntry_57 rfl rfl ?_
  refine fr_mild (pc := 58) (j := 15) (k := a) d_MO_copyEntry_58 hA (by decide) rfl (by show a < 1800; omega) ?_
  refine fr_st (st2 := [.int (F 15 a), .int (nI b), .ref (ar 15)]) (by repeat rw [fm_e_ne (by decide)]) ?_
  refine fr_mist (pc := 59) (j := 15) (k := b) (x := (F 15 a)) d_MO_copyEntry_59 hA (by decide) rfl (by show b < 1800; omega) ?_
  rw [fm_cp_e]
  exact fr_vret rfl d_MO_copyEntry_60 ⟨rfl, rfl⟩
def fm_sh (F : fm_F) (lo hi : Nat) : fm_F := fun j m => if (11 ≤ j ∧ j < 16) ∧ lo < m ∧ m ≤ hi then F j (m - 1) else F j m
def fm_dr (F : fm_F) (lo hi : Nat) : fm_F := fun j m => if (11 ≤ j ∧ j < 16) ∧ lo ≤ m ∧ m < hi then F j (m + 1) else F j m
theorem fm_sh_0 {F : fm_F} {hi : Nat} : fm_sh F hi hi = F := by
  funext j m; unfold fm_sh; rw [if_neg (by omega)]
theorem fm_dr_0 {F : fm_F} {lo : Nat} : fm_dr F lo lo = F := by
  funext j m; unfold fm_dr; rw [if_neg (by omega)]
theorem fm_sh_s {F : fm_F} {lo hi : Nat} (h1 : 1 ≤ lo) (h2 : lo ≤ hi) : fm_cp (fm_sh F lo hi) (lo - 1) lo = fm_sh F (lo - 1) hi := by
  funext j m
  unfold fm_cp fm_sh
  by_cases h : 11 ≤ j ∧ j < 16
  · by_cases e : m = lo
    · rw [if_pos ⟨h, e⟩, if_neg (by omega), if_pos ⟨h, by omega, by omega⟩, e]
    · rw [if_neg (fun z => e z.2)]
      by_cases q : lo < m ∧ m ≤ hi
      · rw [if_pos ⟨h, q⟩, if_pos ⟨h, by omega, by omega⟩]
      · rw [if_neg (fun z => q z.2), if_neg (fun z => q ⟨by omega, by omega⟩)]
  · rw [if_neg (fun z => h z.1), if_neg (fun z => h z.1), if_neg (fun z => h z.1)]
theorem fm_dr_s {F : fm_F} {lo hi : Nat} (h : lo ≤ hi) : fm_cp (fm_dr F lo hi) (hi + 1) hi = fm_dr F lo (hi + 1) := by
  funext j m
  unfold fm_cp fm_dr
  by_cases h : 11 ≤ j ∧ j < 16
  · by_cases e : m = hi
    · rw [if_pos ⟨h, e⟩, if_neg (by omega), if_pos ⟨h, by omega, by omega⟩, e]
    · rw [if_neg (fun z => e z.2)]
      by_cases q : lo ≤ m ∧ m < hi
      · rw [if_pos ⟨h, q⟩, if_pos ⟨h, by omega, by omega⟩]
      · rw [if_neg (fun z => q z.2), if_neg (fun z => q ⟨by omega, by omega⟩)]
  · rw [if_neg (fun z => h z.1), if_neg (fun z => h z.1), if_neg (fun z => h z.1)]
theorem fm_sh_ne {F : fm_F} {lo hi j : Nat} (h : j < 11) : fm_sh F lo hi j = F j := by
  funext m; unfold fm_sh; rw [if_neg (by omega)]
theorem fm_dr_ne {F : fm_F} {lo hi j : Nat} (h : j < 11) : fm_dr F lo hi j = F j := by
  funext m; unfold fm_dr; rw [if_neg (by omega)]
theorem fm_sh_B {F : fm_F} {lo hi : Nat} (hB : ∀ j i, j < 8 ∨ j = 11 ∨ j = 12 → F j i = 0 ∨ F j i = 1) (j i : Nat) (hj : j < 8 ∨ j = 11 ∨ j = 12) : fm_sh F lo hi j i = 0 ∨ fm_sh F lo hi j i = 1 := by
  unfold fm_sh; split
  · exact hB j _ hj
  · exact hB j i hj
theorem fm_dr_B {F : fm_F} {lo hi : Nat} (hB : ∀ j i, j < 8 ∨ j = 11 ∨ j = 12 → F j i = 0 ∨ F j i = 1) (j i : Nat) (hj : j < 8 ∨ j = 11 ∨ j = 12) : fm_dr F lo hi j i = 0 ∨ fm_dr F lo hi j i = 1 := by
  unfold fm_dr; split
  · exact hB j _ hj
  · exact hB j i hj
theorem fm_c_ent {us n : Nat} {hu hg : Nat → Nat → Bool} {nd : fs_D} {F F1 : fm_F} (hc : fm_c us n hu hg nd F) (hok : fs_ok us n nd) {k : Nat} {N : fs_N} (hk : nd k = some N) {es2 : List fs_E} (hs : ∀ j, j < 10 → F1 j = F j) (h10 : F1 10 k = nI es2.length) (h10n : ∀ m, m ≠ k → F1 10 m = F 10 m) (hout : ∀ j m, 11 ≤ j → j < 16 → (m < 12 * k ∨ 12 * k + 12 ≤ m) → F1 j m = F j m)
    (hE : ∀ (i : Nat) E, es2[i]? = some E → F1 11 (12 * k + i) = bI E.1 ∧ F1 12 (12 * k + i) = bI E.2.2.1 ∧ F1 13 (12 * k + i) = nI E.2.1 ∧ F1 14 (12 * k + i) = nI E.2.2.2.1 ∧ F1 15 (12 * k + i) = nI E.2.2.2.2) (hB : ∀ j i, j = 11 ∨ j = 12 → F1 j i = 0 ∨ F1 j i = 1) : fm_c us n hu hg (va_up nd k (some (N.1, N.2.1, N.2.2.1, N.2.2.2.1, N.2.2.2.2.1, es2))) F1 := by
  obtain ⟨e0, e1, e3, e4, e7, eN, eE, eB⟩ := hc
  refine ⟨fun i u h1 h2 => by rw [hs 0 (by omega)]; exact e0 i u h1 h2, fun i u h1 h2 => by rw [hs 1 (by omega)]; exact e1 i u h1 h2, fun i u h1 h2 => by rw [hs 3 (by omega)]; exact e3 i u h1 h2, fun j hj => ?_, fun j hj => ?_, fun j M hj => ?_, fun j M i E hj hEE => ?_, fun j i hj => ?_⟩
  · rw [hs 4 (by omega), e4 j hj]
    by_cases e : j = k
    · subst e; rw [vu_self, hk]; rfl
    · rw [vu_ne e]
  · rw [hs 7 (by omega), e7 j hj]
    by_cases e : j = k
    · subst e; rw [fm_sl_at hk, fm_sl_at vu_self]
    · unfold fm_sl; rw [vu_ne e]
  · rw [hs 5 (by omega), hs 6 (by omega), hs 8 (by omega), hs 9 (by omega)]
    by_cases e : j = k
    · subst e; rw [vu_self] at hj; cases hj
      obtain ⟨q5, q6, q8, q9, -⟩ := eN j N hk
      exact ⟨q5, q6, q8, q9, h10⟩
    · rw [vu_ne e] at hj
      rw [h10n j e]
      exact eN j M hj
  · by_cases e : j = k
    · subst e; rw [vu_self] at hj; cases hj
      exact hE i E hEE
    · rw [vu_ne e] at hj
      have hl := (hok.2.2.2.2 j M hj).2.2.2.1
      have hi := (List.getElem?_eq_some_iff.mp hEE).1
      have ho : 12 * j + i < 12 * k ∨ 12 * k + 12 ≤ 12 * j + i := by omega
      rw [hout 11 _ (by omega) (by omega) ho, hout 12 _ (by omega) (by omega) ho, hout 13 _ (by omega) (by omega) ho, hout 14 _ (by omega) (by omega) ho, hout 15 _ (by omega) (by omega) ho]
      exact eE j M i E hj hEE
  · rcases hj with hj | hj
    · rw [hs j (by omega)]; exact eB j i (Or.inl hj)
    · exact hB j i hj
theorem fm_c_ins {us n : Nat} {hu hg : Nat → Nat → Bool} {nd : fs_D} {F F1 : fm_F} (hc : fm_c us n hu hg nd F) (hok : fs_ok us n nd) {k : Nat} {N : fs_N} (hk : nd k = some N) {i j bi fl : Nat} {al ig : Bool} (hi : i ≤ N.2.2.2.2.2.length) (h12 : N.2.2.2.2.2.length < 12) (hs : ∀ j, j < 10 → F1 j = F j) (h10 : F1 10 k = nI (N.2.2.2.2.2.length + 1)) (h10n : ∀ m, m ≠ k → F1 10 m = F 10 m)
    (q11 : ∀ x, F1 11 x = if x = 12 * k + i then bI al else fm_sh F (12 * k + i) (12 * k + N.2.2.2.2.2.length) 11 x) (q12 : ∀ x, F1 12 x = if x = 12 * k + i then bI ig else fm_sh F (12 * k + i) (12 * k + N.2.2.2.2.2.length) 12 x) (q13 : ∀ x, F1 13 x = if x = 12 * k + i then nI j else fm_sh F (12 * k + i) (12 * k + N.2.2.2.2.2.length) 13 x) (q14 : ∀ x, F1 14 x = if x = 12 * k + i then nI bi else fm_sh F (12 * k + i) (12 * k + N.2.2.2.2.2.length) 14 x) (q15 : ∀ x, F1 15 x = if x = 12 * k + i then nI fl else fm_sh F (12 * k + i) (12 * k + N.2.2.2.2.2.length) 15 x) :
    fm_c us n hu hg (va_up nd k (some (N.1, N.2.1, N.2.2.1, N.2.2.2.1, N.2.2.2.2.1, fs_ins N.2.2.2.2.2 i (al, j, ig, bi, fl)))) F1 := by
  have hB := hc.2.2.2.2.2.2.2
  refine fm_c_ent hc hok hk hs (by rw [fs_ins_len hi]; exact h10) h10n (fun q m h1 h2 h3 => ?_) (fun m E hE => ?_) (fun q m hq => ?_)
  · have hm : m ≠ 12 * k + i := by omega
    have hq : q = 11 ∨ q = 12 ∨ q = 13 ∨ q = 14 ∨ q = 15 := by omega
    have hsh : fm_sh F (12 * k + i) (12 * k + N.2.2.2.2.2.length) q m = F q m := by unfold fm_sh; rw [if_neg (by omega)]
    rcases hq with rfl | rfl | rfl | rfl | rfl
    · rw [q11, if_neg hm]; exact hsh
    · rw [q12, if_neg hm]; exact hsh
    · rw [q13, if_neg hm]; exact hsh
    · rw [q14, if_neg hm]; exact hsh
    · rw [q15, if_neg hm]; exact hsh
  · rw [fs_ins_at hi] at hE
    by_cases c1 : m < i
    · rw [if_pos c1] at hE
      have hm : 12 * k + m ≠ 12 * k + i := by omega
      have hsh : ∀ q, fm_sh F (12 * k + i) (12 * k + N.2.2.2.2.2.length) q (12 * k + m) = F q (12 * k + m) := fun q => by unfold fm_sh; rw [if_neg (by omega)]
      rw [q11, q12, q13, q14, q15, if_neg hm, if_neg hm, if_neg hm, if_neg hm, if_neg hm, hsh, hsh, hsh, hsh, hsh]
      exact hc.2.2.2.2.2.2.1 k N m E hk hE
    · rw [if_neg c1] at hE
      by_cases c2 : m = i
      · rw [if_pos c2] at hE; cases hE; subst c2
        rw [q11, q12, q13, q14, q15, if_pos rfl, if_pos rfl, if_pos rfl, if_pos rfl, if_pos rfl]
        exact ⟨rfl, rfl, rfl, rfl, rfl⟩
      · rw [if_neg c2] at hE
        have hlt := (List.getElem?_eq_some_iff.mp hE).1
        have hm : 12 * k + m ≠ 12 * k + i := by omega
        have hsh : ∀ q, 11 ≤ q → q < 16 → fm_sh F (12 * k + i) (12 * k + N.2.2.2.2.2.length) q (12 * k + m) = F q (12 * k + (m - 1)) := fun q g1 g2 => by
          unfold fm_sh; rw [if_pos ⟨⟨g1, g2⟩, by omega, by omega⟩, show 12 * k + m - 1 = 12 * k + (m - 1) from by omega]
        rw [q11, q12, q13, q14, q15, if_neg hm, if_neg hm, if_neg hm, if_neg hm, if_neg hm, hsh 11 (by omega) (by omega), hsh 12 (by omega) (by omega), hsh 13 (by omega) (by omega), hsh 14 (by omega) (by omega), hsh 15 (by omega) (by omega)]
        exact hc.2.2.2.2.2.2.1 k N (m - 1) E hk hE
  · rcases hq with rfl | rfl
    · rw [q11]; split
      · exact bI_01 _
      · exact fm_sh_B hB 11 m (by omega)
    · rw [q12]; split
      · exact bI_01 _
      · exact fm_sh_B hB 12 m (by omega)
theorem fm_c_del {us n : Nat} {hu hg : Nat → Nat → Bool} {nd : fs_D} {F F1 : fm_F} (hc : fm_c us n hu hg nd F) (hok : fs_ok us n nd) {k : Nat} {N : fs_N} (hk : nd k = some N) {i : Nat} (hi : i < N.2.2.2.2.2.length) (hs : ∀ j, j < 10 → F1 j = F j) (h10 : F1 10 k = nI (N.2.2.2.2.2.length - 1)) (h10n : ∀ m, m ≠ k → F1 10 m = F 10 m)
    (hq : ∀ j, 11 ≤ j → F1 j = fm_dr F (12 * k + i) (12 * k + (N.2.2.2.2.2.length - 1)) j) :
    fm_c us n hu hg (va_up nd k (some (N.1, N.2.1, N.2.2.1, N.2.2.2.1, N.2.2.2.2.1, fs_del N.2.2.2.2.2 i))) F1 := by
  have hB := hc.2.2.2.2.2.2.2
  have hlen := (hok.2.2.2.2 k N hk).2.2.2.1
  refine fm_c_ent hc hok hk hs (by rw [fs_del_len hi]; exact h10) h10n (fun q m h1 h2 h3 => ?_) (fun m E hE => ?_) (fun q m hj => ?_)
  · rw [hq q h1]; unfold fm_dr; rw [if_neg (by omega)]
  · rw [fs_del_at hi] at hE
    rw [hq 11 (by omega), hq 12 (by omega), hq 13 (by omega), hq 14 (by omega), hq 15 (by omega)]
    by_cases c1 : m < i
    · rw [if_pos c1] at hE
      have hsh : ∀ q, fm_dr F (12 * k + i) (12 * k + (N.2.2.2.2.2.length - 1)) q (12 * k + m) = F q (12 * k + m) := fun q => by unfold fm_dr; rw [if_neg (by omega)]
      rw [hsh, hsh, hsh, hsh, hsh]
      exact hc.2.2.2.2.2.2.1 k N m E hk hE
    · rw [if_neg c1] at hE
      have hlt := (List.getElem?_eq_some_iff.mp hE).1
      have hsh : ∀ q, 11 ≤ q → q < 16 → fm_dr F (12 * k + i) (12 * k + (N.2.2.2.2.2.length - 1)) q (12 * k + m) = F q (12 * k + (m + 1)) := fun q g1 g2 => by
        unfold fm_dr; rw [if_pos ⟨⟨g1, g2⟩, by omega, by omega⟩, show 12 * k + m + 1 = 12 * k + (m + 1) from by omega]
      rw [hsh 11 (by omega) (by omega), hsh 12 (by omega) (by omega), hsh 13 (by omega) (by omega), hsh 14 (by omega) (by omega), hsh 15 (by omega) (by omega)]
      exact hc.2.2.2.2.2.2.1 k N (m + 1) E hk hE
  · rcases hj with rfl | rfl
    · rw [hq 11 (by omega)]; exact fm_dr_B hB 11 m (by omega)
    · rw [hq 12 (by omega)]; exact fm_dr_B hB 12 m (by omega)
theorem c_MO_drop_l {g : fw_G} {nc ns : Nat} {w0 : fw_W} {mo : Nat} {ar : Nat → Nat} (hA : fm_ad mo ar) {th so pl po : Int32} {us n : Nat} {F : fm_F} (hB : ∀ j i, j < 8 ∨ j = 11 ∨ j = 12 → F j i = 0 ∨ F j i = 1) {k i len : Nat} (hk150 : k < 150) (h10 : F 10 k = nI len) (hlen : len ≤ 12) (hi : i < len) {Post : fw_O → fw_W → Prop} : ∀ m c, c + m = len - 1 → i ≤ c → fw_R g m_MO_dropEntry Post nc ns (fm_W g w0 mo ar (th, us, n, so, pl, po) (fm_dr F (12 * k + i) (12 * k + (len - 1)))) 76 [(0, .ref mo), (1, .int (nI k)), (2, .int (nI i)), (3, .int (nI (len - 1)))] [] → fw_R g m_MO_dropEntry Post nc ns (fm_W g w0 mo ar (th, us, n, so, pl, po) (fm_dr F (12 * k + i) (12 * k + c))) 40 [(0, .ref mo), (1, .int (nI k)), (2, .int (nI i)), (3, .int (nI c))] [] := by
  intro m
  induction m with
  | zero =>
    intro c hm hic kk
    have hc2 : c = len - 1 := by omega
    subst hc2
    refine fr_iload_n (pc := 40) d_MO_dropEntry_40 rfl rfl ?_
    refine fr_iconst (pc := 41) (v := 1) d_MO_dropEntry_41 (by decide) ?_
    refine fr_iaddN (pc := 42) (a := (len - 1)) (b := 1) d_MO_dropEntry_42 ?_
    refine fr_aload_n (pc := 43) d_MO_dropEntry_43 rfl rfl ?_
    refine fr_get (pc := 44) (v := .ref (ar 10)) d_MO_dropEntry_44 fg_MO_45 fm_mo rfl ?_
    refine fr_iload_n (pc := 47) d_MO_dropEntry_47 rfl rfl ?_
    refine fr_mild (pc := 48) (j := 10) (k := k) d_MO_dropEntry_48 hA (by decide) rfl (by show k < 150; omega) ?_
    refine fr_st (st2 := [.int (nI len), .int (nI ((len - 1) + 1))]) (by rw [fm_dr_ne (by decide), h10]) ?_
    refine fr_icmp_geN (pc := 49) (tgt := 76) (a := ((len - 1) + 1)) (b := len) d_MO_dropEntry_49 (by decide) (by omega) (by omega) (fun _ => ?_) (fun q => absurd q (by omega))
    exact kk
  | succ m ih =>
    intro c hm hic kk
    refine fr_iload_n (pc := 40) d_MO_dropEntry_40 rfl rfl ?_
    refine fr_iconst (pc := 41) (v := 1) d_MO_dropEntry_41 (by decide) ?_
    refine fr_iaddN (pc := 42) (a := c) (b := 1) d_MO_dropEntry_42 ?_
    refine fr_aload_n (pc := 43) d_MO_dropEntry_43 rfl rfl ?_
    refine fr_get (pc := 44) (v := .ref (ar 10)) d_MO_dropEntry_44 fg_MO_45 fm_mo rfl ?_
    refine fr_iload_n (pc := 47) d_MO_dropEntry_47 rfl rfl ?_
    refine fr_mild (pc := 48) (j := 10) (k := k) d_MO_dropEntry_48 hA (by decide) rfl (by show k < 150; omega) ?_
    refine fr_st (st2 := [.int (nI len), .int (nI (c + 1))]) (by rw [fm_dr_ne (by decide), h10]) ?_
    refine fr_icmp_geN (pc := 49) (tgt := 76) (a := (c + 1)) (b := len) d_MO_dropEntry_49 (by decide) (by omega) (by omega) (fun q => absurd q (by omega)) (fun _ => ?_)
    refine fr_aload_n (pc := 52) d_MO_dropEntry_52 rfl rfl ?_
    refine fr_bipush (pc := 53) (v := 12) d_MO_dropEntry_53 (by decide) ?_
    refine fr_iload_n (pc := 55) d_MO_dropEntry_55 rfl rfl ?_
    refine fr_imulN (pc := 56) (a := 12) (b := k) d_MO_dropEntry_56 ?_
    refine fr_iload_n (pc := 57) d_MO_dropEntry_57 rfl rfl ?_
    refine fr_iaddN (pc := 58) (a := (12 * k)) (b := c) d_MO_dropEntry_58 ?_
    refine fr_iconst (pc := 59) (v := 1) d_MO_dropEntry_59 (by decide) ?_
    refine fr_iaddN (pc := 60) (a := ((12 * k) + c)) (b := 1) d_MO_dropEntry_60 ?_
    refine fr_bipush (pc := 61) (v := 12) d_MO_dropEntry_61 (by decide) ?_
    refine fr_iload_n (pc := 63) d_MO_dropEntry_63 rfl rfl ?_
    refine fr_imulN (pc := 64) (a := 12) (b := k) d_MO_dropEntry_64 ?_
    refine fr_iload_n (pc := 65) d_MO_dropEntry_65 rfl rfl ?_
    refine fr_iaddN (pc := 66) (a := (12 * k)) (b := c) d_MO_dropEntry_66 ?_
    refine fr_callv_n (pc := 67) (nc := nc) (ns := ns) (N := m_MO_copyEntry) (rest := []) (as := [.int (nI (((12 * k) + c) + 1)), .int (nI ((12 * k) + c))]) d_MO_dropEntry_67 vc_MO_116 ⟨by decide, by decide, Nat.le_of_ble_eq_true rfl⟩ (Nat.le_of_ble_eq_true rfl) fm_mo (c_MO_copyEntry hA (fm_dr_B hB) (by omega) (by omega)) rfl ?_
    refine fr_iinc (pc := 70) (v := (nI (c + 1))) (L2 := [(0, .ref mo), (1, .int (nI k)), (2, .int (nI i)), (3, .int (nI (c + 1)))]) d_MO_dropEntry_70 rfl (fi_1 _) (by decide) rfl ?_
    refine fr_goto (pc := 73) (tgt := 40) d_MO_dropEntry_73 (by decide) ?_
    rw [fm_dr_s (by omega)]
    exact ih (c + 1) (by omega) (by omega) kk
theorem p_MO_dropEntry_n1 {g : fw_G} {nc ns : Nat} {w0 : fw_W} {mo : Nat} {ar : Nat → Nat} (hA : fm_ad mo ar) {th so pl po : Int32} {us n : Nat} {F : fm_F} {hu hg : Nat → Nat → Bool} {nd : fs_D} (hc : fm_c us n hu hg nd F) (hs : fm_S us n hu hg nd) {x y : Int32} (hx : ∀ k, x = nI k → nd k = none) : fw_R g m_MO_dropEntry (fm_P g w0 mo ar (.int 0) 1 (us, n, hu, hg, nd)) nc ns (fm_W g w0 mo ar (th, us, n, so, pl, po) F) 0 [(0, .ref mo), (1, .int x), (2, .int y)] [] := by
  obtain ⟨hok, hub, hgb⟩ := id hs
  have hus := hok.2.1
  have hn := hok.2.2.1
  refine fr_aload_n (pc := 0) d_MO_dropEntry_0 rfl rfl ?_
  refine fr_aload_n (pc := 1) d_MO_dropEntry_1 rfl rfl ?_
  refine fr_iload_n (pc := 2) d_MO_dropEntry_2 rfl rfl ?_
  refine fr_callv_p (pc := 3) (nc := nc) (ns := ns) (N := m_MO_isNode) (rest := [.ref mo]) (as := [.int x]) d_MO_dropEntry_3 vc_MO_91 ⟨by decide, by decide, Nat.le_of_ble_eq_true rfl⟩ (Nat.le_of_ble_eq_true rfl) fm_mo (c_MO_isNode_n hA (fun k hk e => fm_nt hc hk (hx k e))) rfl ?_
  refine fr_if_eq (pc := 6) (tgt := 27) d_MO_dropEntry_6 (by decide) (fun _ => ?_) (fun q => absurd q (by decide))
  refine fr_iconst (pc := 27) (v := 0) d_MO_dropEntry_27 (by decide) ?_
  refine fr_iconst (pc := 28) (v := 1) d_MO_dropEntry_28 (by decide) ?_
  refine fr_iconst (pc := 29) (v := 1) d_MO_dropEntry_29 (by decide) ?_
  refine fr_callv_p (pc := 30) (nc := nc) (ns := ns) (N := m_MO_goes) (rest := []) (as := [.int 0, .int 1, .int 1]) d_MO_dropEntry_30 vc_MO_69 ⟨by decide, by decide, Nat.le_of_ble_eq_true rfl⟩ (Nat.le_of_ble_eq_true rfl) fm_mo (c_MO_goes1 hA) rfl ?_
  refine fr_if_ne (pc := 33) (tgt := 38) d_MO_dropEntry_33 (by decide) (fun q => absurd q (by decide)) (fun _ => ?_)
  refine fr_iconst (pc := 36) (v := 0) d_MO_dropEntry_36 (by decide) ?_
  exact fr_iret rfl d_MO_dropEntry_37 ⟨rfl, _, _, _, _, rfl, hc⟩
theorem p_MO_dropEntry_n2 {g : fw_G} {nc ns : Nat} {w0 : fw_W} {mo : Nat} {ar : Nat → Nat} (hA : fm_ad mo ar) {th so pl po : Int32} {us n : Nat} {F : fm_F} {hu hg : Nat → Nat → Bool} {nd : fs_D} (hc : fm_c us n hu hg nd F) (hs : fm_S us n hu hg nd) {k : Nat} {N : fs_N} (hk : nd k = some N) {y : Int32} (hy : fs_no2 y N.2.2.2.2.2.length) : fw_R g m_MO_dropEntry (fm_P g w0 mo ar (.int 0) 1 (us, n, hu, hg, nd)) nc ns (fm_W g w0 mo ar (th, us, n, so, pl, po) F) 0 [(0, .ref mo), (1, .int (nI k)), (2, .int y)] [] := by
  obtain ⟨hok, hub, hgb⟩ := id hs
  have hus := hok.2.1
  have hn := hok.2.2.1
  have hk150 := fm_k hok hk
  obtain ⟨c5, c6, c8, c9, c10⟩ := hc.2.2.2.2.2.1 k N hk
  obtain ⟨-, hk0, how, hlen, hes, hch, hdep⟩ := hok.2.2.2.2 k N hk
  refine fr_aload_n (pc := 0) d_MO_dropEntry_0 rfl rfl ?_
  refine fr_aload_n (pc := 1) d_MO_dropEntry_1 rfl rfl ?_
  refine fr_iload_n (pc := 2) d_MO_dropEntry_2 rfl rfl ?_
  refine fr_callv_p (pc := 3) (nc := nc) (ns := ns) (N := m_MO_isNode) (rest := [.ref mo]) (as := [.int (nI k)]) d_MO_dropEntry_3 vc_MO_91 ⟨by decide, by decide, Nat.le_of_ble_eq_true rfl⟩ (Nat.le_of_ble_eq_true rfl) fm_mo (c_MO_isNode_y hA hk150 (fm_th hc hok hk)) rfl ?_
  refine fr_if_eq (pc := 6) (tgt := 27) d_MO_dropEntry_6 (by decide) (fun q => absurd q (by decide)) (fun _ => ?_)
  refine fr_iload_n (pc := 9) d_MO_dropEntry_9 rfl rfl ?_
  refine fr_if_lt (pc := 10) (tgt := 27) d_MO_dropEntry_10 (by decide) (fun q1 => ?_) (fun q1 => ?_)
  · refine fr_iconst (pc := 27) (v := 0) d_MO_dropEntry_27 (by decide) ?_
    refine fr_iconst (pc := 28) (v := 1) d_MO_dropEntry_28 (by decide) ?_
    refine fr_iconst (pc := 29) (v := 1) d_MO_dropEntry_29 (by decide) ?_
    refine fr_callv_p (pc := 30) (nc := nc) (ns := ns) (N := m_MO_goes) (rest := []) (as := [.int 0, .int 1, .int 1]) d_MO_dropEntry_30 vc_MO_69 ⟨by decide, by decide, Nat.le_of_ble_eq_true rfl⟩ (Nat.le_of_ble_eq_true rfl) fm_mo (c_MO_goes1 hA) rfl ?_
    refine fr_if_ne (pc := 33) (tgt := 38) d_MO_dropEntry_33 (by decide) (fun q => absurd q (by decide)) (fun _ => ?_)
    refine fr_iconst (pc := 36) (v := 0) d_MO_dropEntry_36 (by decide) ?_
    exact fr_iret rfl d_MO_dropEntry_37 ⟨rfl, _, _, _, _, rfl, hc⟩
  · refine fr_iload_n (pc := 13) d_MO_dropEntry_13 rfl rfl ?_
    refine fr_aload_n (pc := 14) d_MO_dropEntry_14 rfl rfl ?_
    refine fr_get (pc := 15) (v := .ref (ar 10)) d_MO_dropEntry_15 fg_MO_45 fm_mo rfl ?_
    refine fr_iload_n (pc := 18) d_MO_dropEntry_18 rfl rfl ?_
    refine fr_mild (pc := 19) (j := 10) (k := k) d_MO_dropEntry_19 hA (by decide) rfl (by show k < 150; omega) ?_
    refine fr_st (st2 := [.int (nI N.2.2.2.2.2.length), .int y, .ref mo]) (by rw [c10]) ?_
    refine fr_icmp_ge (pc := 20) (tgt := 27) d_MO_dropEntry_20 (by decide) (fun q2 => ?_) (fun q2 => ?_)
    · refine fr_iconst (pc := 27) (v := 0) d_MO_dropEntry_27 (by decide) ?_
      refine fr_iconst (pc := 28) (v := 1) d_MO_dropEntry_28 (by decide) ?_
      refine fr_iconst (pc := 29) (v := 1) d_MO_dropEntry_29 (by decide) ?_
      refine fr_callv_p (pc := 30) (nc := nc) (ns := ns) (N := m_MO_goes) (rest := []) (as := [.int 0, .int 1, .int 1]) d_MO_dropEntry_30 vc_MO_69 ⟨by decide, by decide, Nat.le_of_ble_eq_true rfl⟩ (Nat.le_of_ble_eq_true rfl) fm_mo (c_MO_goes1 hA) rfl ?_
      refine fr_if_ne (pc := 33) (tgt := 38) d_MO_dropEntry_33 (by decide) (fun q => absurd q (by decide)) (fun _ => ?_)
      refine fr_iconst (pc := 36) (v := 0) d_MO_dropEntry_36 (by decide) ?_
      exact fr_iret rfl d_MO_dropEntry_37 ⟨rfl, _, _, _, _, rfl, hc⟩
    · obtain ⟨i, hi, e⟩ := ix_le (by omega) q1 (fun z => q2 z)
      exact absurd e (hy i hi)
theorem p_MO_dropEntry_ok {g : fw_G} {nc ns : Nat} {w0 : fw_W} {mo : Nat} {ar : Nat → Nat} (hA : fm_ad mo ar) {th so pl po : Int32} {us n : Nat} {F : fm_F} {hu hg : Nat → Nat → Bool} {nd : fs_D} (hc : fm_c us n hu hg nd F) (hs : fm_S us n hu hg nd) {k : Nat} {N : fs_N} (hk : nd k = some N) {i : Nat} (hi : i < N.2.2.2.2.2.length) : fw_R g m_MO_dropEntry (fm_P g w0 mo ar (.int (nI (N.2.2.2.2.2.length - 1))) 0 (us, n, hu, hg, fs_mk (va_up nd k (some (N.1, N.2.1, N.2.2.1, N.2.2.2.1, N.2.2.2.2.1, (fs_del N.2.2.2.2.2 i)))) k 150)) nc ns (fm_W g w0 mo ar (th, us, n, so, pl, po) F) 0 [(0, .ref mo), (1, .int (nI k)), (2, .int (nI i))] [] := by
  obtain ⟨hok, hub, hgb⟩ := id hs
  have hus := hok.2.1
  have hn := hok.2.2.1
  have hk150 := fm_k hok hk
  obtain ⟨c5, c6, c8, c9, c10⟩ := hc.2.2.2.2.2.1 k N hk
  obtain ⟨-, hk0, how, hlen, hes, hch, hdep⟩ := hok.2.2.2.2 k N hk
  refine fr_aload_n (pc := 0) d_MO_dropEntry_0 rfl rfl ?_
  refine fr_aload_n (pc := 1) d_MO_dropEntry_1 rfl rfl ?_
  refine fr_iload_n (pc := 2) d_MO_dropEntry_2 rfl rfl ?_
  refine fr_callv_p (pc := 3) (nc := nc) (ns := ns) (N := m_MO_isNode) (rest := [.ref mo]) (as := [.int (nI k)]) d_MO_dropEntry_3 vc_MO_91 ⟨by decide, by decide, Nat.le_of_ble_eq_true rfl⟩ (Nat.le_of_ble_eq_true rfl) fm_mo (c_MO_isNode_y hA hk150 (fm_th hc hok hk)) rfl ?_
  refine fr_if_eq (pc := 6) (tgt := 27) d_MO_dropEntry_6 (by decide) (fun q => absurd q (by decide)) (fun _ => ?_)
  refine fr_iload_n (pc := 9) d_MO_dropEntry_9 rfl rfl ?_
  refine fr_if_lt (pc := 10) (tgt := 27) d_MO_dropEntry_10 (by decide) (fun q => absurd q (ix_nn (by omega))) (fun _ => ?_)
  refine fr_iload_n (pc := 13) d_MO_dropEntry_13 rfl rfl ?_
  refine fr_aload_n (pc := 14) d_MO_dropEntry_14 rfl rfl ?_
  refine fr_get (pc := 15) (v := .ref (ar 10)) d_MO_dropEntry_15 fg_MO_45 fm_mo rfl ?_
  refine fr_iload_n (pc := 18) d_MO_dropEntry_18 rfl rfl ?_
  refine fr_mild (pc := 19) (j := 10) (k := k) d_MO_dropEntry_19 hA (by decide) rfl (by show k < 150; omega) ?_
  refine fr_st (st2 := [.int (nI N.2.2.2.2.2.length), .int (nI i), .ref mo]) (by rw [c10]) ?_
  refine fr_icmp_geN (pc := 20) (tgt := 27) (a := i) (b := N.2.2.2.2.2.length) d_MO_dropEntry_20 (by decide) (by omega) (by omega) (fun q => absurd q (by omega)) (fun _ => ?_)
  refine fr_iconst (pc := 23) (v := 1) d_MO_dropEntry_23 (by decide) ?_
  refine fr_goto (pc := 24) (tgt := 28) d_MO_dropEntry_24 (by decide) ?_
  refine fr_iconst (pc := 28) (v := 1) d_MO_dropEntry_28 (by decide) ?_
  refine fr_iconst (pc := 29) (v := 1) d_MO_dropEntry_29 (by decide) ?_
  refine fr_callv_p (pc := 30) (nc := nc) (ns := ns) (N := m_MO_goes) (rest := []) (as := [.int 1, .int 1, .int 1]) d_MO_dropEntry_30 vc_MO_69 ⟨by decide, by decide, Nat.le_of_ble_eq_true rfl⟩ (Nat.le_of_ble_eq_true rfl) fm_mo (c_MO_goes0 hA) rfl ?_
  refine fr_if_ne (pc := 33) (tgt := 38) d_MO_dropEntry_33 (by decide) (fun _ => ?_) (fun q => absurd q (by decide))
  refine fr_iload_n (pc := 38) d_MO_dropEntry_38 rfl rfl ?_
  refine fr_istore_n (pc := 39) (L2 := [(0, .ref mo), (1, .int (nI k)), (2, .int (nI i)), (3, .int (nI i))]) d_MO_dropEntry_39 rfl (by decide) rfl ?_
  have e0 : (fm_W g w0 mo ar (0, us, n, so, pl, po) F) = (fm_W g w0 mo ar (0, us, n, so, pl, po) (fm_dr F (12 * k + i) (12 * k + i))) := by rw [fm_dr_0]
  rw [e0]
  refine c_MO_drop_l hA hc.2.2.2.2.2.2.2 hk150 c10 hlen hi (N.2.2.2.2.2.length - 1 - i) i (by omega) (Nat.le_refl _) ?_
  refine fr_aload_n (pc := 76) d_MO_dropEntry_76 rfl rfl ?_
  refine fr_get (pc := 77) (v := .ref (ar 10)) d_MO_dropEntry_77 fg_MO_45 fm_mo rfl ?_
  refine fr_iload_n (pc := 80) d_MO_dropEntry_80 rfl rfl ?_
  refine fr_dup2_11 (pc := 81) d_MO_dropEntry_81 rfl rfl ?_
  refine fr_mild (pc := 82) (j := 10) (k := k) d_MO_dropEntry_82 hA (by decide) rfl (by show k < 150; omega) ?_
  refine fr_st (st2 := [.int (nI N.2.2.2.2.2.length), .int (nI k), .ref (ar 10)]) (by rw [fm_dr_ne (by decide), c10]) ?_
  refine fr_iconst (pc := 83) (v := 1) d_MO_dropEntry_83 (by decide) ?_
  refine fr_isubN (pc := 84) (a := N.2.2.2.2.2.length) (b := 1) d_MO_dropEntry_84 (by omega) ?_
  refine fr_mist (pc := 85) (j := 10) (k := k) (x := (nI (N.2.2.2.2.2.length - 1))) d_MO_dropEntry_85 hA (by decide) rfl (by show k < 150; omega) ?_
  refine fr_aload_n (pc := 86) d_MO_dropEntry_86 rfl rfl ?_
  refine fr_iload_n (pc := 87) d_MO_dropEntry_87 rfl rfl ?_
  refine fr_iconst (pc := 88) (v := 0) d_MO_dropEntry_88 (by decide) ?_
  have hc1 : fm_c us n hu hg (va_up nd k (some (N.1, N.2.1, N.2.2.1, N.2.2.2.1, N.2.2.2.2.1, (fs_del N.2.2.2.2.2 i)))) (fm_e (fm_dr F (12 * k + i) (12 * k + (N.2.2.2.2.2.length - 1))) 10 k (nI (N.2.2.2.2.2.length - 1))) := fm_c_del hc hok hk hi (fun j hj => by rw [fm_e_ne (by omega), fm_dr_ne (by omega)]) fm_e_self (fun m hm => by rw [fm_e_k hm, fm_dr_ne (by decide)]) (fun j hj => by rw [fm_e_ne (by omega)])
  have hok1 : fs_ok us n (va_up nd k (some (N.1, N.2.1, N.2.2.1, N.2.2.2.1, N.2.2.2.2.1, (fs_del N.2.2.2.2.2 i)))) := fs_ok_up hok (N2 := (N.1, N.2.1, N.2.2.1, N.2.2.2.1, N.2.2.2.2.1, (fs_del N.2.2.2.2.2 i))) hk rfl how (by show (fs_del N.2.2.2.2.2 i).length ≤ 12; rw [fs_del_len hi]; omega) (fun E hE => hes E (fs_del_mem hE))
  refine fr_callv_n (pc := 89) (nc := nc) (ns := ns) (N := m_MO_spread) (rest := []) (as := [.int (nI k), .int 0]) d_MO_dropEntry_89 vc_MO_105 ⟨by decide, by decide, Nat.le_of_ble_eq_true rfl⟩ (Nat.le_of_ble_eq_true rfl) fm_mo (c_MO_spread hA (fm_p_c hc1 hok1) hc1.2.2.2.1 (fun j => hc1.2.2.2.2.2.2.2 7 j (by omega)) (fs_ok_ch hok1) (t := k) (b := false) hk150) rfl ?_
  refine fr_aload_n (pc := 92) d_MO_dropEntry_92 rfl rfl ?_
  refine fr_get (pc := 93) (v := .ref (ar 10)) d_MO_dropEntry_93 fg_MO_45 fm_mo rfl ?_
  refine fr_iload_n (pc := 96) d_MO_dropEntry_96 rfl rfl ?_
  refine fr_mild (pc := 97) (j := 10) (k := k) d_MO_dropEntry_97 hA (by decide) rfl (by show k < 150; omega) ?_
  refine fr_st (st2 := [.int (nI (N.2.2.2.2.2.length - 1))]) (by rw [fm_s_ne (by decide), fm_e_self]) ?_
  exact fr_iret rfl d_MO_dropEntry_98 ⟨rfl, _, _, _, _, rfl, fm_c_mk hc1⟩
theorem p_MO_entry_n1 {g : fw_G} {nc ns : Nat} {w0 : fw_W} {mo : Nat} {ar : Nat → Nat} (hA : fm_ad mo ar) {th so pl po : Int32} {us n : Nat} {F : fm_F} {hu hg : Nat → Nat → Bool} {nd : fs_D} (hc : fm_c us n hu hg nd F) (hs : fm_S us n hu hg nd) {al ig : Bool} {x p y z v : Int32} (hx : ∀ k, x = nI k → nd k = none) : fw_R g m_MO_entry (fm_P g w0 mo ar (.int 0) 1 (us, n, hu, hg, nd)) nc ns (fm_W g w0 mo ar (th, us, n, so, pl, po) F) 0 [(0, .ref mo), (1, .int x), (2, .int p), (3, .int (bI al)), (4, .int y), (5, .int (bI ig)), (6, .int z), (7, .int v)] [] := by
  obtain ⟨hok, hub, hgb⟩ := id hs
  have hus := hok.2.1
  have hn := hok.2.2.1
  refine fr_aload_n (pc := 0) d_MO_entry_0 rfl rfl ?_
  refine fr_iload_n (pc := 1) d_MO_entry_1 rfl rfl ?_
  refine fr_callv_p (pc := 2) (nc := nc) (ns := ns) (N := m_MO_isNode) (rest := []) (as := [.int x]) d_MO_entry_2 vc_MO_91 ⟨by decide, by decide, Nat.le_of_ble_eq_true rfl⟩ (Nat.le_of_ble_eq_true rfl) fm_mo (c_MO_isNode_n hA (fun k hk e => fm_nt hc hk (hx k e))) rfl ?_
  refine fr_if_eq (pc := 5) (tgt := 23) d_MO_entry_5 (by decide) (fun _ => ?_) (fun q => absurd q (by decide))
  refine fr_iconst (pc := 23) (v := 0) d_MO_entry_23 (by decide) ?_
  refine fr_istore (pc := 24) (L2 := [(0, .ref mo), (1, .int x), (2, .int p), (3, .int (bI al)), (4, .int y), (5, .int (bI ig)), (6, .int z), (7, .int v), (8, .int 0)]) d_MO_entry_24 (by decide) rfl ?_
  refine fr_iload (pc := 26) d_MO_entry_26 rfl ?_
  refine fr_if_eq (pc := 28) (tgt := 79) d_MO_entry_28 (by decide) (fun _ => ?_) (fun q => absurd q (by decide))
  refine fr_iconst (pc := 79) (v := 0) d_MO_entry_79 (by decide) ?_
  refine fr_istore (pc := 80) (L2 := [(0, .ref mo), (1, .int x), (2, .int p), (3, .int (bI al)), (4, .int y), (5, .int (bI ig)), (6, .int z), (7, .int v), (8, .int 0), (9, .int 0)]) d_MO_entry_80 (by decide) rfl ?_
  refine fr_aload_n (pc := 82) d_MO_entry_82 rfl rfl ?_
  refine fr_iload (pc := 83) d_MO_entry_83 rfl ?_
  refine fr_iload (pc := 85) d_MO_entry_85 rfl ?_
  refine fr_iload (pc := 87) d_MO_entry_87 rfl ?_
  refine fr_if_eq (pc := 89) (tgt := 107) d_MO_entry_89 (by decide) (fun _ => ?_) (fun q => absurd q (by decide))
  refine fr_iconst (pc := 107) (v := 0) d_MO_entry_107 (by decide) ?_
  refine fr_callv_p (pc := 108) (nc := nc) (ns := ns) (N := m_MO_goes) (rest := []) (as := [.int 0, .int 0, .int 0]) d_MO_entry_108 vc_MO_69 ⟨by decide, by decide, Nat.le_of_ble_eq_true rfl⟩ (Nat.le_of_ble_eq_true rfl) fm_mo (c_MO_goes1 hA) rfl ?_
  refine fr_if_ne (pc := 111) (tgt := 116) d_MO_entry_111 (by decide) (fun q => absurd q (by decide)) (fun _ => ?_)
  refine fr_iconst (pc := 114) (v := 0) d_MO_entry_114 (by decide) ?_
  exact fr_iret rfl d_MO_entry_115 ⟨rfl, _, _, _, _, rfl, hc⟩
theorem p_MO_entry_n2 {g : fw_G} {nc ns : Nat} {w0 : fw_W} {mo : Nat} {ar : Nat → Nat} (hA : fm_ad mo ar) {th so pl po : Int32} {us n : Nat} {F : fm_F} {hu hg : Nat → Nat → Bool} {nd : fs_D} (hc : fm_c us n hu hg nd F) (hs : fm_S us n hu hg nd) {k : Nat} {N : fs_N} (hk : nd k = some N) {al ig : Bool} {p y z v : Int32} (hy : fs_no2 y (if ig then n else us)) : fw_R g m_MO_entry (fm_P g w0 mo ar (.int 0) 1 (us, n, hu, hg, nd)) nc ns (fm_W g w0 mo ar (th, us, n, so, pl, po) F) 0 [(0, .ref mo), (1, .int (nI k)), (2, .int p), (3, .int (bI al)), (4, .int y), (5, .int (bI ig)), (6, .int z), (7, .int v)] [] := by
  obtain ⟨hok, hub, hgb⟩ := id hs
  have hus := hok.2.1
  have hn := hok.2.2.1
  have hk150 := fm_k hok hk
  obtain ⟨c5, c6, c8, c9, c10⟩ := hc.2.2.2.2.2.1 k N hk
  obtain ⟨-, hk0, how, hlen, hes, hch, hdep⟩ := hok.2.2.2.2 k N hk
  refine fr_aload_n (pc := 0) d_MO_entry_0 rfl rfl ?_
  refine fr_iload_n (pc := 1) d_MO_entry_1 rfl rfl ?_
  refine fr_callv_p (pc := 2) (nc := nc) (ns := ns) (N := m_MO_isNode) (rest := []) (as := [.int (nI k)]) d_MO_entry_2 vc_MO_91 ⟨by decide, by decide, Nat.le_of_ble_eq_true rfl⟩ (Nat.le_of_ble_eq_true rfl) fm_mo (c_MO_isNode_y hA hk150 (fm_th hc hok hk)) rfl ?_
  refine fr_if_eq (pc := 5) (tgt := 23) d_MO_entry_5 (by decide) (fun q => absurd q (by decide)) (fun _ => ?_)
  refine fr_aload_n (pc := 8) d_MO_entry_8 rfl rfl ?_
  refine fr_iload (pc := 9) d_MO_entry_9 rfl ?_
  refine fr_iload (pc := 11) d_MO_entry_11 rfl ?_
  refine fr_callv_p (pc := 13) (nc := nc) (ns := ns) (N := m_MO_isMember) (rest := []) (as := [.int y, .int (bI ig)]) d_MO_entry_13 vc_MO_80 ⟨by decide, by decide, Nat.le_of_ble_eq_true rfl⟩ (Nat.le_of_ble_eq_true rfl) fm_mo (c_MO_isMember_n hA hy (by omega) (by omega)) rfl ?_
  refine fr_if_eq (pc := 16) (tgt := 23) d_MO_entry_16 (by decide) (fun _ => ?_) (fun q => absurd q (by decide))
  refine fr_iconst (pc := 23) (v := 0) d_MO_entry_23 (by decide) ?_
  refine fr_istore (pc := 24) (L2 := [(0, .ref mo), (1, .int (nI k)), (2, .int p), (3, .int (bI al)), (4, .int y), (5, .int (bI ig)), (6, .int z), (7, .int v), (8, .int 0)]) d_MO_entry_24 (by decide) rfl ?_
  refine fr_iload (pc := 26) d_MO_entry_26 rfl ?_
  refine fr_if_eq (pc := 28) (tgt := 79) d_MO_entry_28 (by decide) (fun _ => ?_) (fun q => absurd q (by decide))
  refine fr_iconst (pc := 79) (v := 0) d_MO_entry_79 (by decide) ?_
  refine fr_istore (pc := 80) (L2 := [(0, .ref mo), (1, .int (nI k)), (2, .int p), (3, .int (bI al)), (4, .int y), (5, .int (bI ig)), (6, .int z), (7, .int v), (8, .int 0), (9, .int 0)]) d_MO_entry_80 (by decide) rfl ?_
  refine fr_aload_n (pc := 82) d_MO_entry_82 rfl rfl ?_
  refine fr_iload (pc := 83) d_MO_entry_83 rfl ?_
  refine fr_iload (pc := 85) d_MO_entry_85 rfl ?_
  refine fr_iload (pc := 87) d_MO_entry_87 rfl ?_
  refine fr_if_eq (pc := 89) (tgt := 107) d_MO_entry_89 (by decide) (fun _ => ?_) (fun q => absurd q (by decide))
  refine fr_iconst (pc := 107) (v := 0) d_MO_entry_107 (by decide) ?_
  refine fr_callv_p (pc := 108) (nc := nc) (ns := ns) (N := m_MO_goes) (rest := []) (as := [.int 0, .int 0, .int 0]) d_MO_entry_108 vc_MO_69 ⟨by decide, by decide, Nat.le_of_ble_eq_true rfl⟩ (Nat.le_of_ble_eq_true rfl) fm_mo (c_MO_goes1 hA) rfl ?_
  refine fr_if_ne (pc := 111) (tgt := 116) d_MO_entry_111 (by decide) (fun q => absurd q (by decide)) (fun _ => ?_)
  refine fr_iconst (pc := 114) (v := 0) d_MO_entry_114 (by decide) ?_
  exact fr_iret rfl d_MO_entry_115 ⟨rfl, _, _, _, _, rfl, hc⟩
theorem p_MO_entry_n3 {g : fw_G} {nc ns : Nat} {w0 : fw_W} {mo : Nat} {ar : Nat → Nat} (hA : fm_ad mo ar) {th so pl po : Int32} {us n : Nat} {F : fm_F} {hu hg : Nat → Nat → Bool} {nd : fs_D} (hc : fm_c us n hu hg nd F) (hs : fm_S us n hu hg nd) {k : Nat} {N : fs_N} (hk : nd k = some N) {al ig : Bool} {j : Nat} (hj : j < (if ig then n else us)) {p z v : Int32} (hbad : ¬ (fs_pk p N.2.2.2.2.2.length ∧ fs_rk z ∧ fs_fk v)) : fw_R g m_MO_entry (fm_P g w0 mo ar (.int 0) 2 (us, n, hu, hg, nd)) nc ns (fm_W g w0 mo ar (th, us, n, so, pl, po) F) 0 [(0, .ref mo), (1, .int (nI k)), (2, .int p), (3, .int (bI al)), (4, .int (nI j)), (5, .int (bI ig)), (6, .int z), (7, .int v)] [] := by
  obtain ⟨hok, hub, hgb⟩ := id hs
  have hus := hok.2.1
  have hn := hok.2.2.1
  have hk150 := fm_k hok hk
  obtain ⟨c5, c6, c8, c9, c10⟩ := hc.2.2.2.2.2.1 k N hk
  obtain ⟨-, hk0, how, hlen, hes, hch, hdep⟩ := hok.2.2.2.2 k N hk
  refine fr_aload_n (pc := 0) d_MO_entry_0 rfl rfl ?_
  refine fr_iload_n (pc := 1) d_MO_entry_1 rfl rfl ?_
  refine fr_callv_p (pc := 2) (nc := nc) (ns := ns) (N := m_MO_isNode) (rest := []) (as := [.int (nI k)]) d_MO_entry_2 vc_MO_91 ⟨by decide, by decide, Nat.le_of_ble_eq_true rfl⟩ (Nat.le_of_ble_eq_true rfl) fm_mo (c_MO_isNode_y hA hk150 (fm_th hc hok hk)) rfl ?_
  refine fr_if_eq (pc := 5) (tgt := 23) d_MO_entry_5 (by decide) (fun q => absurd q (by decide)) (fun _ => ?_)
  refine fr_aload_n (pc := 8) d_MO_entry_8 rfl rfl ?_
  refine fr_iload (pc := 9) d_MO_entry_9 rfl ?_
  refine fr_iload (pc := 11) d_MO_entry_11 rfl ?_
  refine fr_callv_p (pc := 13) (nc := nc) (ns := ns) (N := m_MO_isMember) (rest := []) (as := [.int (nI j), .int (bI ig)]) d_MO_entry_13 vc_MO_80 ⟨by decide, by decide, Nat.le_of_ble_eq_true rfl⟩ (Nat.le_of_ble_eq_true rfl) fm_mo (c_MO_isMember_y hA (b := ig) hj (by omega) (by omega)) rfl ?_
  refine fr_if_eq (pc := 16) (tgt := 23) d_MO_entry_16 (by decide) (fun q => absurd q (by decide)) (fun _ => ?_)
  refine fr_iconst (pc := 19) (v := 1) d_MO_entry_19 (by decide) ?_
  refine fr_goto (pc := 20) (tgt := 24) d_MO_entry_20 (by decide) ?_
  refine fr_istore (pc := 24) (L2 := [(0, .ref mo), (1, .int (nI k)), (2, .int p), (3, .int (bI al)), (4, .int (nI j)), (5, .int (bI ig)), (6, .int z), (7, .int v), (8, .int 1)]) d_MO_entry_24 (by decide) rfl ?_
  refine fr_iload (pc := 26) d_MO_entry_26 rfl ?_
  refine fr_if_eq (pc := 28) (tgt := 79) d_MO_entry_28 (by decide) (fun q => absurd q (by decide)) (fun _ => ?_)
  refine fr_iload_n (pc := 31) d_MO_entry_31 rfl rfl ?_
  refine fr_if_lt (pc := 32) (tgt := 79) d_MO_entry_32 (by decide) (fun b32 => ?_) (fun b32 => ?_)
  · refine fr_iconst (pc := 79) (v := 0) d_MO_entry_79 (by decide) ?_
    refine fr_istore (pc := 80) (L2 := [(0, .ref mo), (1, .int (nI k)), (2, .int p), (3, .int (bI al)), (4, .int (nI j)), (5, .int (bI ig)), (6, .int z), (7, .int v), (8, .int 1), (9, .int 0)]) d_MO_entry_80 (by decide) rfl ?_
    refine fr_aload_n (pc := 82) d_MO_entry_82 rfl rfl ?_
    refine fr_iload (pc := 83) d_MO_entry_83 rfl ?_
    refine fr_iload (pc := 85) d_MO_entry_85 rfl ?_
    refine fr_iload (pc := 87) d_MO_entry_87 rfl ?_
    refine fr_if_eq (pc := 89) (tgt := 107) d_MO_entry_89 (by decide) (fun q => absurd q (by decide)) (fun _ => ?_)
    refine fr_aload_n (pc := 92) d_MO_entry_92 rfl rfl ?_
    refine fr_get (pc := 93) (v := .ref (ar 10)) d_MO_entry_93 fg_MO_45 fm_mo rfl ?_
    refine fr_iload_n (pc := 96) d_MO_entry_96 rfl rfl ?_
    refine fr_mild (pc := 97) (j := 10) (k := k) d_MO_entry_97 hA (by decide) rfl (by show k < 150; omega) ?_
    refine fr_st (st2 := [.int (nI N.2.2.2.2.2.length), .int 0, .int 1, .ref mo]) (by rw [c10]) ?_
    refine fr_bipush (pc := 98) (v := 12) d_MO_entry_98 (by decide) ?_
    refine fr_icmp_ge (pc := 100) (tgt := 107) d_MO_entry_100 (by decide) (fun b100 => ?_) (fun b100 => ?_)
    · refine fr_iconst (pc := 107) (v := 0) d_MO_entry_107 (by decide) ?_
      refine fr_callv_p (pc := 108) (nc := nc) (ns := ns) (N := m_MO_goes) (rest := []) (as := [.int 1, .int 0, .int 0]) d_MO_entry_108 vc_MO_69 ⟨by decide, by decide, Nat.le_of_ble_eq_true rfl⟩ (Nat.le_of_ble_eq_true rfl) fm_mo (c_MO_goes2 hA) rfl ?_
      refine fr_if_ne (pc := 111) (tgt := 116) d_MO_entry_111 (by decide) (fun q => absurd q (by decide)) (fun _ => ?_)
      refine fr_iconst (pc := 114) (v := 0) d_MO_entry_114 (by decide) ?_
      exact fr_iret rfl d_MO_entry_115 ⟨rfl, _, _, _, _, rfl, hc⟩
    · refine fr_iconst (pc := 103) (v := 1) d_MO_entry_103 (by decide) ?_
      refine fr_goto (pc := 104) (tgt := 108) d_MO_entry_104 (by decide) ?_
      refine fr_callv_p (pc := 108) (nc := nc) (ns := ns) (N := m_MO_goes) (rest := []) (as := [.int 1, .int 0, .int 1]) d_MO_entry_108 vc_MO_69 ⟨by decide, by decide, Nat.le_of_ble_eq_true rfl⟩ (Nat.le_of_ble_eq_true rfl) fm_mo (c_MO_goes2 hA) rfl ?_
      refine fr_if_ne (pc := 111) (tgt := 116) d_MO_entry_111 (by decide) (fun q => absurd q (by decide)) (fun _ => ?_)
      refine fr_iconst (pc := 114) (v := 0) d_MO_entry_114 (by decide) ?_
      exact fr_iret rfl d_MO_entry_115 ⟨rfl, _, _, _, _, rfl, hc⟩
  · refine fr_iload_n (pc := 35) d_MO_entry_35 rfl rfl ?_
    refine fr_aload_n (pc := 36) d_MO_entry_36 rfl rfl ?_
    refine fr_get (pc := 37) (v := .ref (ar 10)) d_MO_entry_37 fg_MO_45 fm_mo rfl ?_
    refine fr_iload_n (pc := 40) d_MO_entry_40 rfl rfl ?_
    refine fr_mild (pc := 41) (j := 10) (k := k) d_MO_entry_41 hA (by decide) rfl (by show k < 150; omega) ?_
    refine fr_st (st2 := [.int (nI N.2.2.2.2.2.length), .int p]) (by rw [c10]) ?_
    refine fr_icmp_gt (pc := 42) (tgt := 79) d_MO_entry_42 (by decide) (fun b42 => ?_) (fun b42 => ?_)
    · refine fr_iconst (pc := 79) (v := 0) d_MO_entry_79 (by decide) ?_
      refine fr_istore (pc := 80) (L2 := [(0, .ref mo), (1, .int (nI k)), (2, .int p), (3, .int (bI al)), (4, .int (nI j)), (5, .int (bI ig)), (6, .int z), (7, .int v), (8, .int 1), (9, .int 0)]) d_MO_entry_80 (by decide) rfl ?_
      refine fr_aload_n (pc := 82) d_MO_entry_82 rfl rfl ?_
      refine fr_iload (pc := 83) d_MO_entry_83 rfl ?_
      refine fr_iload (pc := 85) d_MO_entry_85 rfl ?_
      refine fr_iload (pc := 87) d_MO_entry_87 rfl ?_
      refine fr_if_eq (pc := 89) (tgt := 107) d_MO_entry_89 (by decide) (fun q => absurd q (by decide)) (fun _ => ?_)
      refine fr_aload_n (pc := 92) d_MO_entry_92 rfl rfl ?_
      refine fr_get (pc := 93) (v := .ref (ar 10)) d_MO_entry_93 fg_MO_45 fm_mo rfl ?_
      refine fr_iload_n (pc := 96) d_MO_entry_96 rfl rfl ?_
      refine fr_mild (pc := 97) (j := 10) (k := k) d_MO_entry_97 hA (by decide) rfl (by show k < 150; omega) ?_
      refine fr_st (st2 := [.int (nI N.2.2.2.2.2.length), .int 0, .int 1, .ref mo]) (by rw [c10]) ?_
      refine fr_bipush (pc := 98) (v := 12) d_MO_entry_98 (by decide) ?_
      refine fr_icmp_ge (pc := 100) (tgt := 107) d_MO_entry_100 (by decide) (fun b100 => ?_) (fun b100 => ?_)
      · refine fr_iconst (pc := 107) (v := 0) d_MO_entry_107 (by decide) ?_
        refine fr_callv_p (pc := 108) (nc := nc) (ns := ns) (N := m_MO_goes) (rest := []) (as := [.int 1, .int 0, .int 0]) d_MO_entry_108 vc_MO_69 ⟨by decide, by decide, Nat.le_of_ble_eq_true rfl⟩ (Nat.le_of_ble_eq_true rfl) fm_mo (c_MO_goes2 hA) rfl ?_
        refine fr_if_ne (pc := 111) (tgt := 116) d_MO_entry_111 (by decide) (fun q => absurd q (by decide)) (fun _ => ?_)
        refine fr_iconst (pc := 114) (v := 0) d_MO_entry_114 (by decide) ?_
        exact fr_iret rfl d_MO_entry_115 ⟨rfl, _, _, _, _, rfl, hc⟩
      · refine fr_iconst (pc := 103) (v := 1) d_MO_entry_103 (by decide) ?_
        refine fr_goto (pc := 104) (tgt := 108) d_MO_entry_104 (by decide) ?_
        refine fr_callv_p (pc := 108) (nc := nc) (ns := ns) (N := m_MO_goes) (rest := []) (as := [.int 1, .int 0, .int 1]) d_MO_entry_108 vc_MO_69 ⟨by decide, by decide, Nat.le_of_ble_eq_true rfl⟩ (Nat.le_of_ble_eq_true rfl) fm_mo (c_MO_goes2 hA) rfl ?_
        refine fr_if_ne (pc := 111) (tgt := 116) d_MO_entry_111 (by decide) (fun q => absurd q (by decide)) (fun _ => ?_)
        refine fr_iconst (pc := 114) (v := 0) d_MO_entry_114 (by decide) ?_
        exact fr_iret rfl d_MO_entry_115 ⟨rfl, _, _, _, _, rfl, hc⟩
    · refine fr_iload (pc := 45) d_MO_entry_45 rfl ?_
      refine fr_iconst (pc := 47) (v := 1) d_MO_entry_47 (by decide) ?_
      refine fr_sipush (pc := 48) (v := 255) d_MO_entry_48 (by decide) ?_
      refine fr_calls_p (pc := 51) (nc := nc) (ns := ns) (N := m_MO_within) (rest := []) (as := [.int z, .int 1, .int 255]) d_MO_entry_51 k_MO_within lk_MO_112 sc_MO_within np_MO_within ⟨by decide, by decide, Nat.le_of_ble_eq_true rfl⟩ (Nat.le_of_ble_eq_true rfl) c_MO_within rfl ?_
      refine fr_if_eq (pc := 54) (tgt := 79) d_MO_entry_54 (by decide) (fun b54 => ?_) (fun b54 => ?_)
      · refine fr_iconst (pc := 79) (v := 0) d_MO_entry_79 (by decide) ?_
        refine fr_istore (pc := 80) (L2 := [(0, .ref mo), (1, .int (nI k)), (2, .int p), (3, .int (bI al)), (4, .int (nI j)), (5, .int (bI ig)), (6, .int z), (7, .int v), (8, .int 1), (9, .int 0)]) d_MO_entry_80 (by decide) rfl ?_
        refine fr_aload_n (pc := 82) d_MO_entry_82 rfl rfl ?_
        refine fr_iload (pc := 83) d_MO_entry_83 rfl ?_
        refine fr_iload (pc := 85) d_MO_entry_85 rfl ?_
        refine fr_iload (pc := 87) d_MO_entry_87 rfl ?_
        refine fr_if_eq (pc := 89) (tgt := 107) d_MO_entry_89 (by decide) (fun q => absurd q (by decide)) (fun _ => ?_)
        refine fr_aload_n (pc := 92) d_MO_entry_92 rfl rfl ?_
        refine fr_get (pc := 93) (v := .ref (ar 10)) d_MO_entry_93 fg_MO_45 fm_mo rfl ?_
        refine fr_iload_n (pc := 96) d_MO_entry_96 rfl rfl ?_
        refine fr_mild (pc := 97) (j := 10) (k := k) d_MO_entry_97 hA (by decide) rfl (by show k < 150; omega) ?_
        refine fr_st (st2 := [.int (nI N.2.2.2.2.2.length), .int 0, .int 1, .ref mo]) (by rw [c10]) ?_
        refine fr_bipush (pc := 98) (v := 12) d_MO_entry_98 (by decide) ?_
        refine fr_icmp_ge (pc := 100) (tgt := 107) d_MO_entry_100 (by decide) (fun b100 => ?_) (fun b100 => ?_)
        · refine fr_iconst (pc := 107) (v := 0) d_MO_entry_107 (by decide) ?_
          refine fr_callv_p (pc := 108) (nc := nc) (ns := ns) (N := m_MO_goes) (rest := []) (as := [.int 1, .int 0, .int 0]) d_MO_entry_108 vc_MO_69 ⟨by decide, by decide, Nat.le_of_ble_eq_true rfl⟩ (Nat.le_of_ble_eq_true rfl) fm_mo (c_MO_goes2 hA) rfl ?_
          refine fr_if_ne (pc := 111) (tgt := 116) d_MO_entry_111 (by decide) (fun q => absurd q (by decide)) (fun _ => ?_)
          refine fr_iconst (pc := 114) (v := 0) d_MO_entry_114 (by decide) ?_
          exact fr_iret rfl d_MO_entry_115 ⟨rfl, _, _, _, _, rfl, hc⟩
        · refine fr_iconst (pc := 103) (v := 1) d_MO_entry_103 (by decide) ?_
          refine fr_goto (pc := 104) (tgt := 108) d_MO_entry_104 (by decide) ?_
          refine fr_callv_p (pc := 108) (nc := nc) (ns := ns) (N := m_MO_goes) (rest := []) (as := [.int 1, .int 0, .int 1]) d_MO_entry_108 vc_MO_69 ⟨by decide, by decide, Nat.le_of_ble_eq_true rfl⟩ (Nat.le_of_ble_eq_true rfl) fm_mo (c_MO_goes2 hA) rfl ?_
          refine fr_if_ne (pc := 111) (tgt := 116) d_MO_entry_111 (by decide) (fun q => absurd q (by decide)) (fun _ => ?_)
          refine fr_iconst (pc := 114) (v := 0) d_MO_entry_114 (by decide) ?_
          exact fr_iret rfl d_MO_entry_115 ⟨rfl, _, _, _, _, rfl, hc⟩
      · refine fr_iload (pc := 57) d_MO_entry_57 rfl ?_
        refine fr_iconst (pc := 59) (v := 1) d_MO_entry_59 (by decide) ?_
        refine fr_bipush (pc := 60) (v := 15) d_MO_entry_60 (by decide) ?_
        refine fr_calls_p (pc := 62) (nc := nc) (ns := ns) (N := m_MO_within) (rest := []) (as := [.int v, .int 1, .int 15]) d_MO_entry_62 k_MO_within lk_MO_112 sc_MO_within np_MO_within ⟨by decide, by decide, Nat.le_of_ble_eq_true rfl⟩ (Nat.le_of_ble_eq_true rfl) c_MO_within rfl ?_
        refine fr_if_eq (pc := 65) (tgt := 79) d_MO_entry_65 (by decide) (fun b65 => ?_) (fun b65 => ?_)
        · refine fr_iconst (pc := 79) (v := 0) d_MO_entry_79 (by decide) ?_
          refine fr_istore (pc := 80) (L2 := [(0, .ref mo), (1, .int (nI k)), (2, .int p), (3, .int (bI al)), (4, .int (nI j)), (5, .int (bI ig)), (6, .int z), (7, .int v), (8, .int 1), (9, .int 0)]) d_MO_entry_80 (by decide) rfl ?_
          refine fr_aload_n (pc := 82) d_MO_entry_82 rfl rfl ?_
          refine fr_iload (pc := 83) d_MO_entry_83 rfl ?_
          refine fr_iload (pc := 85) d_MO_entry_85 rfl ?_
          refine fr_iload (pc := 87) d_MO_entry_87 rfl ?_
          refine fr_if_eq (pc := 89) (tgt := 107) d_MO_entry_89 (by decide) (fun q => absurd q (by decide)) (fun _ => ?_)
          refine fr_aload_n (pc := 92) d_MO_entry_92 rfl rfl ?_
          refine fr_get (pc := 93) (v := .ref (ar 10)) d_MO_entry_93 fg_MO_45 fm_mo rfl ?_
          refine fr_iload_n (pc := 96) d_MO_entry_96 rfl rfl ?_
          refine fr_mild (pc := 97) (j := 10) (k := k) d_MO_entry_97 hA (by decide) rfl (by show k < 150; omega) ?_
          refine fr_st (st2 := [.int (nI N.2.2.2.2.2.length), .int 0, .int 1, .ref mo]) (by rw [c10]) ?_
          refine fr_bipush (pc := 98) (v := 12) d_MO_entry_98 (by decide) ?_
          refine fr_icmp_ge (pc := 100) (tgt := 107) d_MO_entry_100 (by decide) (fun b100 => ?_) (fun b100 => ?_)
          · refine fr_iconst (pc := 107) (v := 0) d_MO_entry_107 (by decide) ?_
            refine fr_callv_p (pc := 108) (nc := nc) (ns := ns) (N := m_MO_goes) (rest := []) (as := [.int 1, .int 0, .int 0]) d_MO_entry_108 vc_MO_69 ⟨by decide, by decide, Nat.le_of_ble_eq_true rfl⟩ (Nat.le_of_ble_eq_true rfl) fm_mo (c_MO_goes2 hA) rfl ?_
            refine fr_if_ne (pc := 111) (tgt := 116) d_MO_entry_111 (by decide) (fun q => absurd q (by decide)) (fun _ => ?_)
            refine fr_iconst (pc := 114) (v := 0) d_MO_entry_114 (by decide) ?_
            exact fr_iret rfl d_MO_entry_115 ⟨rfl, _, _, _, _, rfl, hc⟩
          · refine fr_iconst (pc := 103) (v := 1) d_MO_entry_103 (by decide) ?_
            refine fr_goto (pc := 104) (tgt := 108) d_MO_entry_104 (by decide) ?_
            refine fr_callv_p (pc := 108) (nc := nc) (ns := ns) (N := m_MO_goes) (rest := []) (as := [.int 1, .int 0, .int 1]) d_MO_entry_108 vc_MO_69 ⟨by decide, by decide, Nat.le_of_ble_eq_true rfl⟩ (Nat.le_of_ble_eq_true rfl) fm_mo (c_MO_goes2 hA) rfl ?_
            refine fr_if_ne (pc := 111) (tgt := 116) d_MO_entry_111 (by decide) (fun q => absurd q (by decide)) (fun _ => ?_)
            refine fr_iconst (pc := 114) (v := 0) d_MO_entry_114 (by decide) ?_
            exact fr_iret rfl d_MO_entry_115 ⟨rfl, _, _, _, _, rfl, hc⟩
        · refine fr_iload (pc := 68) d_MO_entry_68 rfl ?_
          refine fr_bipush (pc := 70) (v := 8) d_MO_entry_70 (by decide) ?_
          refine fr_icmp_eq (pc := 72) (tgt := 79) d_MO_entry_72 (by decide) (fun b72 => ?_) (fun b72 => ?_)
          · refine fr_iconst (pc := 79) (v := 0) d_MO_entry_79 (by decide) ?_
            refine fr_istore (pc := 80) (L2 := [(0, .ref mo), (1, .int (nI k)), (2, .int p), (3, .int (bI al)), (4, .int (nI j)), (5, .int (bI ig)), (6, .int z), (7, .int v), (8, .int 1), (9, .int 0)]) d_MO_entry_80 (by decide) rfl ?_
            refine fr_aload_n (pc := 82) d_MO_entry_82 rfl rfl ?_
            refine fr_iload (pc := 83) d_MO_entry_83 rfl ?_
            refine fr_iload (pc := 85) d_MO_entry_85 rfl ?_
            refine fr_iload (pc := 87) d_MO_entry_87 rfl ?_
            refine fr_if_eq (pc := 89) (tgt := 107) d_MO_entry_89 (by decide) (fun q => absurd q (by decide)) (fun _ => ?_)
            refine fr_aload_n (pc := 92) d_MO_entry_92 rfl rfl ?_
            refine fr_get (pc := 93) (v := .ref (ar 10)) d_MO_entry_93 fg_MO_45 fm_mo rfl ?_
            refine fr_iload_n (pc := 96) d_MO_entry_96 rfl rfl ?_
            refine fr_mild (pc := 97) (j := 10) (k := k) d_MO_entry_97 hA (by decide) rfl (by show k < 150; omega) ?_
            refine fr_st (st2 := [.int (nI N.2.2.2.2.2.length), .int 0, .int 1, .ref mo]) (by rw [c10]) ?_
            refine fr_bipush (pc := 98) (v := 12) d_MO_entry_98 (by decide) ?_
            refine fr_icmp_ge (pc := 100) (tgt := 107) d_MO_entry_100 (by decide) (fun b100 => ?_) (fun b100 => ?_)
            · refine fr_iconst (pc := 107) (v := 0) d_MO_entry_107 (by decide) ?_
              refine fr_callv_p (pc := 108) (nc := nc) (ns := ns) (N := m_MO_goes) (rest := []) (as := [.int 1, .int 0, .int 0]) d_MO_entry_108 vc_MO_69 ⟨by decide, by decide, Nat.le_of_ble_eq_true rfl⟩ (Nat.le_of_ble_eq_true rfl) fm_mo (c_MO_goes2 hA) rfl ?_
              refine fr_if_ne (pc := 111) (tgt := 116) d_MO_entry_111 (by decide) (fun q => absurd q (by decide)) (fun _ => ?_)
              refine fr_iconst (pc := 114) (v := 0) d_MO_entry_114 (by decide) ?_
              exact fr_iret rfl d_MO_entry_115 ⟨rfl, _, _, _, _, rfl, hc⟩
            · refine fr_iconst (pc := 103) (v := 1) d_MO_entry_103 (by decide) ?_
              refine fr_goto (pc := 104) (tgt := 108) d_MO_entry_104 (by decide) ?_
              refine fr_callv_p (pc := 108) (nc := nc) (ns := ns) (N := m_MO_goes) (rest := []) (as := [.int 1, .int 0, .int 1]) d_MO_entry_108 vc_MO_69 ⟨by decide, by decide, Nat.le_of_ble_eq_true rfl⟩ (Nat.le_of_ble_eq_true rfl) fm_mo (c_MO_goes2 hA) rfl ?_
              refine fr_if_ne (pc := 111) (tgt := 116) d_MO_entry_111 (by decide) (fun q => absurd q (by decide)) (fun _ => ?_)
              refine fr_iconst (pc := 114) (v := 0) d_MO_entry_114 (by decide) ?_
              exact fr_iret rfl d_MO_entry_115 ⟨rfl, _, _, _, _, rfl, hc⟩
          · exact absurd ⟨fs_pk_of (by omega) b32 (Int32.not_lt.mp b42), fs_rk_of (Int32.not_lt.mpr (of_decide_eq_true (ts_nf (fun x => b54 (bI_0.mpr x)))).1) (of_decide_eq_true (ts_nf (fun x => b54 (bI_0.mpr x)))).2, fs_fk_of (Int32.not_lt.mpr (of_decide_eq_true (ts_nf (fun x => b65 (bI_0.mpr x)))).1) (Int32.not_lt.mpr (of_decide_eq_true (ts_nf (fun x => b65 (bI_0.mpr x)))).2) b72⟩ hbad
theorem p_MO_entry_n4 {g : fw_G} {nc ns : Nat} {w0 : fw_W} {mo : Nat} {ar : Nat → Nat} (hA : fm_ad mo ar) {th so pl po : Int32} {us n : Nat} {F : fm_F} {hu hg : Nat → Nat → Bool} {nd : fs_D} (hc : fm_c us n hu hg nd F) (hs : fm_S us n hu hg nd) {k : Nat} {N : fs_N} (hk : nd k = some N) {al ig : Bool} {j : Nat} (hj : j < (if ig then n else us)) {i bi fl : Nat} (hi : i ≤ N.2.2.2.2.2.length) (hb1 : 1 ≤ bi) (hb255 : bi < 256) (hf1 : 1 ≤ fl) (hf16 : fl < 16) (h8 : fl ≠ 8) (h12 : ¬ N.2.2.2.2.2.length < 12) : fw_R g m_MO_entry (fm_P g w0 mo ar (.int 0) 3 (us, n, hu, hg, nd)) nc ns (fm_W g w0 mo ar (th, us, n, so, pl, po) F) 0 [(0, .ref mo), (1, .int (nI k)), (2, .int (nI i)), (3, .int (bI al)), (4, .int (nI j)), (5, .int (bI ig)), (6, .int (nI bi)), (7, .int (nI fl))] [] := by
  obtain ⟨hok, hub, hgb⟩ := id hs
  have hus := hok.2.1
  have hn := hok.2.2.1
  have hk150 := fm_k hok hk
  obtain ⟨c5, c6, c8, c9, c10⟩ := hc.2.2.2.2.2.1 k N hk
  obtain ⟨-, hk0, how, hlen, hes, hch, hdep⟩ := hok.2.2.2.2 k N hk
  have hj31 : j < 2 ^ 31 := by split at hj <;> omega
  refine fr_aload_n (pc := 0) d_MO_entry_0 rfl rfl ?_
  refine fr_iload_n (pc := 1) d_MO_entry_1 rfl rfl ?_
  refine fr_callv_p (pc := 2) (nc := nc) (ns := ns) (N := m_MO_isNode) (rest := []) (as := [.int (nI k)]) d_MO_entry_2 vc_MO_91 ⟨by decide, by decide, Nat.le_of_ble_eq_true rfl⟩ (Nat.le_of_ble_eq_true rfl) fm_mo (c_MO_isNode_y hA hk150 (fm_th hc hok hk)) rfl ?_
  refine fr_if_eq (pc := 5) (tgt := 23) d_MO_entry_5 (by decide) (fun q => absurd q (by decide)) (fun _ => ?_)
  refine fr_aload_n (pc := 8) d_MO_entry_8 rfl rfl ?_
  refine fr_iload (pc := 9) d_MO_entry_9 rfl ?_
  refine fr_iload (pc := 11) d_MO_entry_11 rfl ?_
  refine fr_callv_p (pc := 13) (nc := nc) (ns := ns) (N := m_MO_isMember) (rest := []) (as := [.int (nI j), .int (bI ig)]) d_MO_entry_13 vc_MO_80 ⟨by decide, by decide, Nat.le_of_ble_eq_true rfl⟩ (Nat.le_of_ble_eq_true rfl) fm_mo (c_MO_isMember_y hA (b := ig) hj (by omega) (by omega)) rfl ?_
  refine fr_if_eq (pc := 16) (tgt := 23) d_MO_entry_16 (by decide) (fun q => absurd q (by decide)) (fun _ => ?_)
  refine fr_iconst (pc := 19) (v := 1) d_MO_entry_19 (by decide) ?_
  refine fr_goto (pc := 20) (tgt := 24) d_MO_entry_20 (by decide) ?_
  refine fr_istore (pc := 24) (L2 := [(0, .ref mo), (1, .int (nI k)), (2, .int (nI i)), (3, .int (bI al)), (4, .int (nI j)), (5, .int (bI ig)), (6, .int (nI bi)), (7, .int (nI fl)), (8, .int 1)]) d_MO_entry_24 (by decide) rfl ?_
  refine fr_iload (pc := 26) d_MO_entry_26 rfl ?_
  refine fr_if_eq (pc := 28) (tgt := 79) d_MO_entry_28 (by decide) (fun q => absurd q (by decide)) (fun _ => ?_)
  refine fr_iload_n (pc := 31) d_MO_entry_31 rfl rfl ?_
  refine fr_if_lt (pc := 32) (tgt := 79) d_MO_entry_32 (by decide) (fun q => absurd q (ix_nn (by omega))) (fun _ => ?_)
  refine fr_iload_n (pc := 35) d_MO_entry_35 rfl rfl ?_
  refine fr_aload_n (pc := 36) d_MO_entry_36 rfl rfl ?_
  refine fr_get (pc := 37) (v := .ref (ar 10)) d_MO_entry_37 fg_MO_45 fm_mo rfl ?_
  refine fr_iload_n (pc := 40) d_MO_entry_40 rfl rfl ?_
  refine fr_mild (pc := 41) (j := 10) (k := k) d_MO_entry_41 hA (by decide) rfl (by show k < 150; omega) ?_
  refine fr_st (st2 := [.int (nI N.2.2.2.2.2.length), .int (nI i)]) (by rw [c10]) ?_
  refine fr_icmp_gtN (pc := 42) (tgt := 79) (a := i) (b := N.2.2.2.2.2.length) d_MO_entry_42 (by decide) (by omega) (by omega) (fun q => absurd q (by omega)) (fun _ => ?_)
  refine fr_iload (pc := 45) d_MO_entry_45 rfl ?_
  refine fr_iconst (pc := 47) (v := 1) d_MO_entry_47 (by decide) ?_
  refine fr_sipush (pc := 48) (v := 255) d_MO_entry_48 (by decide) ?_
  refine fr_calls_p (pc := 51) (nc := nc) (ns := ns) (N := m_MO_within) (rest := []) (as := [.int (nI bi), .int 1, .int 255]) d_MO_entry_51 k_MO_within lk_MO_112 sc_MO_within np_MO_within ⟨by decide, by decide, Nat.le_of_ble_eq_true rfl⟩ (Nat.le_of_ble_eq_true rfl) (c_MO_within_y ((ni_le (a := 1) (by omega) (by omega)).mpr hb1) ((ni_le (b := 255) (by omega) (by omega)).mpr (by omega))) rfl ?_
  refine fr_if_eq (pc := 54) (tgt := 79) d_MO_entry_54 (by decide) (fun q => absurd q (by decide)) (fun _ => ?_)
  refine fr_iload (pc := 57) d_MO_entry_57 rfl ?_
  refine fr_iconst (pc := 59) (v := 1) d_MO_entry_59 (by decide) ?_
  refine fr_bipush (pc := 60) (v := 15) d_MO_entry_60 (by decide) ?_
  refine fr_calls_p (pc := 62) (nc := nc) (ns := ns) (N := m_MO_within) (rest := []) (as := [.int (nI fl), .int 1, .int 15]) d_MO_entry_62 k_MO_within lk_MO_112 sc_MO_within np_MO_within ⟨by decide, by decide, Nat.le_of_ble_eq_true rfl⟩ (Nat.le_of_ble_eq_true rfl) (c_MO_within_y ((ni_le (a := 1) (by omega) (by omega)).mpr hf1) ((ni_le (b := 15) (by omega) (by omega)).mpr (by omega))) rfl ?_
  refine fr_if_eq (pc := 65) (tgt := 79) d_MO_entry_65 (by decide) (fun q => absurd q (by decide)) (fun _ => ?_)
  refine fr_iload (pc := 68) d_MO_entry_68 rfl ?_
  refine fr_bipush (pc := 70) (v := 8) d_MO_entry_70 (by decide) ?_
  refine fr_icmp_eqN (pc := 72) (tgt := 79) (a := fl) (b := 8) d_MO_entry_72 (by decide) (by omega) (by omega) (fun q => absurd q (by omega)) (fun _ => ?_)
  refine fr_iconst (pc := 75) (v := 1) d_MO_entry_75 (by decide) ?_
  refine fr_goto (pc := 76) (tgt := 80) d_MO_entry_76 (by decide) ?_
  refine fr_istore (pc := 80) (L2 := [(0, .ref mo), (1, .int (nI k)), (2, .int (nI i)), (3, .int (bI al)), (4, .int (nI j)), (5, .int (bI ig)), (6, .int (nI bi)), (7, .int (nI fl)), (8, .int 1), (9, .int 1)]) d_MO_entry_80 (by decide) rfl ?_
  refine fr_aload_n (pc := 82) d_MO_entry_82 rfl rfl ?_
  refine fr_iload (pc := 83) d_MO_entry_83 rfl ?_
  refine fr_iload (pc := 85) d_MO_entry_85 rfl ?_
  refine fr_iload (pc := 87) d_MO_entry_87 rfl ?_
  refine fr_if_eq (pc := 89) (tgt := 107) d_MO_entry_89 (by decide) (fun q => absurd q (by decide)) (fun _ => ?_)
  refine fr_aload_n (pc := 92) d_MO_entry_92 rfl rfl ?_
  refine fr_get (pc := 93) (v := .ref (ar 10)) d_MO_entry_93 fg_MO_45 fm_mo rfl ?_
  refine fr_iload_n (pc := 96) d_MO_entry_96 rfl rfl ?_
  refine fr_mild (pc := 97) (j := 10) (k := k) d_MO_entry_97 hA (by decide) rfl (by show k < 150; omega) ?_
  refine fr_st (st2 := [.int (nI N.2.2.2.2.2.length), .int 1, .int 1, .ref mo]) (by rw [c10]) ?_
  refine fr_bipush (pc := 98) (v := 12) d_MO_entry_98 (by decide) ?_
  refine fr_icmp_geN (pc := 100) (tgt := 107) (a := N.2.2.2.2.2.length) (b := 12) d_MO_entry_100 (by decide) (by omega) (by omega) (fun _ => ?_) (fun q => absurd q (by omega))
  refine fr_iconst (pc := 107) (v := 0) d_MO_entry_107 (by decide) ?_
  refine fr_callv_p (pc := 108) (nc := nc) (ns := ns) (N := m_MO_goes) (rest := []) (as := [.int 1, .int 1, .int 0]) d_MO_entry_108 vc_MO_69 ⟨by decide, by decide, Nat.le_of_ble_eq_true rfl⟩ (Nat.le_of_ble_eq_true rfl) fm_mo (c_MO_goes3 hA) rfl ?_
  refine fr_if_ne (pc := 111) (tgt := 116) d_MO_entry_111 (by decide) (fun q => absurd q (by decide)) (fun _ => ?_)
  refine fr_iconst (pc := 114) (v := 0) d_MO_entry_114 (by decide) ?_
  exact fr_iret rfl d_MO_entry_115 ⟨rfl, _, _, _, _, rfl, hc⟩
theorem c_MO_ent_l {g : fw_G} {nc ns : Nat} {w0 : fw_W} {mo : Nat} {ar : Nat → Nat} (hA : fm_ad mo ar) {th so pl po : Int32} {us n : Nat} {F : fm_F} (hB : ∀ j i, j < 8 ∨ j = 11 ∨ j = 12 → F j i = 0 ∨ F j i = 1) {k i j bi fl len : Nat} {al ig : Bool} (hk150 : k < 150) (hlen : len < 12) {Post : fw_O → fw_W → Prop} : ∀ m c, i + m = c → c ≤ len → fw_R g m_MO_entry Post nc ns (fm_W g w0 mo ar (th, us, n, so, pl, po) (fm_sh F (12 * k + i) (12 * k + len))) 156 [(0, .ref mo), (1, .int (nI k)), (2, .int (nI i)), (3, .int (bI al)), (4, .int (nI j)), (5, .int (bI ig)), (6, .int (nI bi)), (7, .int (nI fl)), (8, .int 1), (9, .int 1), (10, .int (nI i))] [] → fw_R g m_MO_entry Post nc ns (fm_W g w0 mo ar (th, us, n, so, pl, po) (fm_sh F (12 * k + c) (12 * k + len))) 124 [(0, .ref mo), (1, .int (nI k)), (2, .int (nI i)), (3, .int (bI al)), (4, .int (nI j)), (5, .int (bI ig)), (6, .int (nI bi)), (7, .int (nI fl)), (8, .int 1), (9, .int 1), (10, .int (nI c))] [] := by
  intro m
  induction m with
  | zero =>
    intro c hm hic kk
    have hc2 : c = i := by omega
    subst hc2
    refine fr_iload (pc := 124) d_MO_entry_124 rfl ?_
    refine fr_iload_n (pc := 126) d_MO_entry_126 rfl rfl ?_
    refine fr_icmp_leN (pc := 127) (tgt := 156) (a := c) (b := c) d_MO_entry_127 (by decide) (by omega) (by omega) (fun _ => ?_) (fun q => absurd q (by omega))
    exact kk
  | succ m ih =>
    intro c hm hic kk
    refine fr_iload (pc := 124) d_MO_entry_124 rfl ?_
    refine fr_iload_n (pc := 126) d_MO_entry_126 rfl rfl ?_
    refine fr_icmp_leN (pc := 127) (tgt := 156) (a := c) (b := i) d_MO_entry_127 (by decide) (by omega) (by omega) (fun q => absurd q (by omega)) (fun _ => ?_)
    refine fr_aload_n (pc := 130) d_MO_entry_130 rfl rfl ?_
    refine fr_bipush (pc := 131) (v := 12) d_MO_entry_131 (by decide) ?_
    refine fr_iload_n (pc := 133) d_MO_entry_133 rfl rfl ?_
    refine fr_imulN (pc := 134) (a := 12) (b := k) d_MO_entry_134 ?_
    refine fr_iload (pc := 135) d_MO_entry_135 rfl ?_
    refine fr_iaddN (pc := 137) (a := (12 * k)) (b := c) d_MO_entry_137 ?_
    refine fr_iconst (pc := 138) (v := 1) d_MO_entry_138 (by decide) ?_
    refine fr_isubN (pc := 139) (a := ((12 * k) + c)) (b := 1) d_MO_entry_139 (by omega) ?_
    refine fr_bipush (pc := 140) (v := 12) d_MO_entry_140 (by decide) ?_
    refine fr_iload_n (pc := 142) d_MO_entry_142 rfl rfl ?_
    refine fr_imulN (pc := 143) (a := 12) (b := k) d_MO_entry_143 ?_
    refine fr_iload (pc := 144) d_MO_entry_144 rfl ?_
    refine fr_iaddN (pc := 146) (a := (12 * k)) (b := c) d_MO_entry_146 ?_
    refine fr_callv_n (pc := 147) (nc := nc) (ns := ns) (N := m_MO_copyEntry) (rest := []) (as := [.int (nI (((12 * k) + c) - 1)), .int (nI ((12 * k) + c))]) d_MO_entry_147 vc_MO_116 ⟨by decide, by decide, Nat.le_of_ble_eq_true rfl⟩ (Nat.le_of_ble_eq_true rfl) fm_mo (c_MO_copyEntry hA (fm_sh_B hB) (by omega) (by omega)) rfl ?_
    refine fr_iinc (pc := 150) (v := nI (c - 1)) (L2 := [(0, .ref mo), (1, .int (nI k)), (2, .int (nI i)), (3, .int (bI al)), (4, .int (nI j)), (5, .int (bI ig)), (6, .int (nI bi)), (7, .int (nI fl)), (8, .int 1), (9, .int 1), (10, .int (nI (c - 1)))]) d_MO_entry_150 rfl (fi_m1 (by omega)) (by decide) rfl ?_
    refine fr_goto (pc := 153) (tgt := 124) d_MO_entry_153 (by decide) ?_
    rw [fm_sh_s (by omega) (by omega), show 12 * k + c - 1 = 12 * k + (c - 1) from by omega]
    exact ih (c - 1) (by omega) (by omega) kk
theorem p_MO_entry_ok {g : fw_G} {nc ns : Nat} {w0 : fw_W} {mo : Nat} {ar : Nat → Nat} (hA : fm_ad mo ar) {th so pl po : Int32} {us n : Nat} {F : fm_F} {hu hg : Nat → Nat → Bool} {nd : fs_D} (hc : fm_c us n hu hg nd F) (hs : fm_S us n hu hg nd) {k : Nat} {N : fs_N} (hk : nd k = some N) {al ig : Bool} {j : Nat} (hj : j < (if ig then n else us)) {i bi fl : Nat} (hi : i ≤ N.2.2.2.2.2.length) (hb1 : 1 ≤ bi) (hb255 : bi < 256) (hf1 : 1 ≤ fl) (hf16 : fl < 16) (h8 : fl ≠ 8) (h12 : N.2.2.2.2.2.length < 12) : fw_R g m_MO_entry (fm_P g w0 mo ar (.int (nI (N.2.2.2.2.2.length + 1))) 0 (us, n, hu, hg, fs_mk (va_up nd k (some (N.1, N.2.1, N.2.2.1, N.2.2.2.1, N.2.2.2.2.1, fs_ins N.2.2.2.2.2 i (al, j, ig, bi, fl)))) k 150)) nc ns (fm_W g w0 mo ar (th, us, n, so, pl, po) F) 0 [(0, .ref mo), (1, .int (nI k)), (2, .int (nI i)), (3, .int (bI al)), (4, .int (nI j)), (5, .int (bI ig)), (6, .int (nI bi)), (7, .int (nI fl))] [] := by
  obtain ⟨hok, hub, hgb⟩ := id hs
  have hus := hok.2.1
  have hn := hok.2.2.1
  have hk150 := fm_k hok hk
  obtain ⟨c5, c6, c8, c9, c10⟩ := hc.2.2.2.2.2.1 k N hk
  obtain ⟨-, hk0, how, hlen, hes, hch, hdep⟩ := hok.2.2.2.2 k N hk
  have hj31 : j < 2 ^ 31 := by split at hj <;> omega
  refine fr_aload_n (pc := 0) d_MO_entry_0 rfl rfl ?_
  refine fr_iload_n (pc := 1) d_MO_entry_1 rfl rfl ?_
  refine fr_callv_p (pc := 2) (nc := nc) (ns := ns) (N := m_MO_isNode) (rest := []) (as := [.int (nI k)]) d_MO_entry_2 vc_MO_91 ⟨by decide, by decide, Nat.le_of_ble_eq_true rfl⟩ (Nat.le_of_ble_eq_true rfl) fm_mo (c_MO_isNode_y hA hk150 (fm_th hc hok hk)) rfl ?_
  refine fr_if_eq (pc := 5) (tgt := 23) d_MO_entry_5 (by decide) (fun q => absurd q (by decide)) (fun _ => ?_)
  refine fr_aload_n (pc := 8) d_MO_entry_8 rfl rfl ?_
  refine fr_iload (pc := 9) d_MO_entry_9 rfl ?_
  refine fr_iload (pc := 11) d_MO_entry_11 rfl ?_
  refine fr_callv_p (pc := 13) (nc := nc) (ns := ns) (N := m_MO_isMember) (rest := []) (as := [.int (nI j), .int (bI ig)]) d_MO_entry_13 vc_MO_80 ⟨by decide, by decide, Nat.le_of_ble_eq_true rfl⟩ (Nat.le_of_ble_eq_true rfl) fm_mo (c_MO_isMember_y hA (b := ig) hj (by omega) (by omega)) rfl ?_
  refine fr_if_eq (pc := 16) (tgt := 23) d_MO_entry_16 (by decide) (fun q => absurd q (by decide)) (fun _ => ?_)
  refine fr_iconst (pc := 19) (v := 1) d_MO_entry_19 (by decide) ?_
  refine fr_goto (pc := 20) (tgt := 24) d_MO_entry_20 (by decide) ?_
  refine fr_istore (pc := 24) (L2 := [(0, .ref mo), (1, .int (nI k)), (2, .int (nI i)), (3, .int (bI al)), (4, .int (nI j)), (5, .int (bI ig)), (6, .int (nI bi)), (7, .int (nI fl)), (8, .int 1)]) d_MO_entry_24 (by decide) rfl ?_
  refine fr_iload (pc := 26) d_MO_entry_26 rfl ?_
  refine fr_if_eq (pc := 28) (tgt := 79) d_MO_entry_28 (by decide) (fun q => absurd q (by decide)) (fun _ => ?_)
  refine fr_iload_n (pc := 31) d_MO_entry_31 rfl rfl ?_
  refine fr_if_lt (pc := 32) (tgt := 79) d_MO_entry_32 (by decide) (fun q => absurd q (ix_nn (by omega))) (fun _ => ?_)
  refine fr_iload_n (pc := 35) d_MO_entry_35 rfl rfl ?_
  refine fr_aload_n (pc := 36) d_MO_entry_36 rfl rfl ?_
  refine fr_get (pc := 37) (v := .ref (ar 10)) d_MO_entry_37 fg_MO_45 fm_mo rfl ?_
  refine fr_iload_n (pc := 40) d_MO_entry_40 rfl rfl ?_
  refine fr_mild (pc := 41) (j := 10) (k := k) d_MO_entry_41 hA (by decide) rfl (by show k < 150; omega) ?_
  refine fr_st (st2 := [.int (nI N.2.2.2.2.2.length), .int (nI i)]) (by rw [c10]) ?_
  refine fr_icmp_gtN (pc := 42) (tgt := 79) (a := i) (b := N.2.2.2.2.2.length) d_MO_entry_42 (by decide) (by omega) (by omega) (fun q => absurd q (by omega)) (fun _ => ?_)
  refine fr_iload (pc := 45) d_MO_entry_45 rfl ?_
  refine fr_iconst (pc := 47) (v := 1) d_MO_entry_47 (by decide) ?_
  refine fr_sipush (pc := 48) (v := 255) d_MO_entry_48 (by decide) ?_
  refine fr_calls_p (pc := 51) (nc := nc) (ns := ns) (N := m_MO_within) (rest := []) (as := [.int (nI bi), .int 1, .int 255]) d_MO_entry_51 k_MO_within lk_MO_112 sc_MO_within np_MO_within ⟨by decide, by decide, Nat.le_of_ble_eq_true rfl⟩ (Nat.le_of_ble_eq_true rfl) (c_MO_within_y ((ni_le (a := 1) (by omega) (by omega)).mpr hb1) ((ni_le (b := 255) (by omega) (by omega)).mpr (by omega))) rfl ?_
  refine fr_if_eq (pc := 54) (tgt := 79) d_MO_entry_54 (by decide) (fun q => absurd q (by decide)) (fun _ => ?_)
  refine fr_iload (pc := 57) d_MO_entry_57 rfl ?_
  refine fr_iconst (pc := 59) (v := 1) d_MO_entry_59 (by decide) ?_
  refine fr_bipush (pc := 60) (v := 15) d_MO_entry_60 (by decide) ?_
  refine fr_calls_p (pc := 62) (nc := nc) (ns := ns) (N := m_MO_within) (rest := []) (as := [.int (nI fl), .int 1, .int 15]) d_MO_entry_62 k_MO_within lk_MO_112 sc_MO_within np_MO_within ⟨by decide, by decide, Nat.le_of_ble_eq_true rfl⟩ (Nat.le_of_ble_eq_true rfl) (c_MO_within_y ((ni_le (a := 1) (by omega) (by omega)).mpr hf1) ((ni_le (b := 15) (by omega) (by omega)).mpr (by omega))) rfl ?_
  refine fr_if_eq (pc := 65) (tgt := 79) d_MO_entry_65 (by decide) (fun q => absurd q (by decide)) (fun _ => ?_)
  refine fr_iload (pc := 68) d_MO_entry_68 rfl ?_
  refine fr_bipush (pc := 70) (v := 8) d_MO_entry_70 (by decide) ?_
  refine fr_icmp_eqN (pc := 72) (tgt := 79) (a := fl) (b := 8) d_MO_entry_72 (by decide) (by omega) (by omega) (fun q => absurd q (by omega)) (fun _ => ?_)
  refine fr_iconst (pc := 75) (v := 1) d_MO_entry_75 (by decide) ?_
  refine fr_goto (pc := 76) (tgt := 80) d_MO_entry_76 (by decide) ?_
  refine fr_istore (pc := 80) (L2 := [(0, .ref mo), (1, .int (nI k)), (2, .int (nI i)), (3, .int (bI al)), (4, .int (nI j)), (5, .int (bI ig)), (6, .int (nI bi)), (7, .int (nI fl)), (8, .int 1), (9, .int 1)]) d_MO_entry_80 (by decide) rfl ?_
  refine fr_aload_n (pc := 82) d_MO_entry_82 rfl rfl ?_
  refine fr_iload (pc := 83) d_MO_entry_83 rfl ?_
  refine fr_iload (pc := 85) d_MO_entry_85 rfl ?_
  refine fr_iload (pc := 87) d_MO_entry_87 rfl ?_
  refine fr_if_eq (pc := 89) (tgt := 107) d_MO_entry_89 (by decide) (fun q => absurd q (by decide)) (fun _ => ?_)
  refine fr_aload_n (pc := 92) d_MO_entry_92 rfl rfl ?_
  refine fr_get (pc := 93) (v := .ref (ar 10)) d_MO_entry_93 fg_MO_45 fm_mo rfl ?_
  refine fr_iload_n (pc := 96) d_MO_entry_96 rfl rfl ?_
  refine fr_mild (pc := 97) (j := 10) (k := k) d_MO_entry_97 hA (by decide) rfl (by show k < 150; omega) ?_
  refine fr_st (st2 := [.int (nI N.2.2.2.2.2.length), .int 1, .int 1, .ref mo]) (by rw [c10]) ?_
  refine fr_bipush (pc := 98) (v := 12) d_MO_entry_98 (by decide) ?_
  refine fr_icmp_geN (pc := 100) (tgt := 107) (a := N.2.2.2.2.2.length) (b := 12) d_MO_entry_100 (by decide) (by omega) (by omega) (fun q => absurd q (by omega)) (fun _ => ?_)
  refine fr_iconst (pc := 103) (v := 1) d_MO_entry_103 (by decide) ?_
  refine fr_goto (pc := 104) (tgt := 108) d_MO_entry_104 (by decide) ?_
  refine fr_callv_p (pc := 108) (nc := nc) (ns := ns) (N := m_MO_goes) (rest := []) (as := [.int 1, .int 1, .int 1]) d_MO_entry_108 vc_MO_69 ⟨by decide, by decide, Nat.le_of_ble_eq_true rfl⟩ (Nat.le_of_ble_eq_true rfl) fm_mo (c_MO_goes0 hA) rfl ?_
  refine fr_if_ne (pc := 111) (tgt := 116) d_MO_entry_111 (by decide) (fun _ => ?_) (fun q => absurd q (by decide))
  refine fr_aload_n (pc := 116) d_MO_entry_116 rfl rfl ?_
  refine fr_get (pc := 117) (v := .ref (ar 10)) d_MO_entry_117 fg_MO_45 fm_mo rfl ?_
  refine fr_iload_n (pc := 120) d_MO_entry_120 rfl rfl ?_
  refine fr_mild (pc := 121) (j := 10) (k := k) d_MO_entry_121 hA (by decide) rfl (by show k < 150; omega) ?_
  refine fr_st (st2 := [.int (nI N.2.2.2.2.2.length)]) (by rw [c10]) ?_
  refine fr_istore (pc := 122) (L2 := [(0, .ref mo), (1, .int (nI k)), (2, .int (nI i)), (3, .int (bI al)), (4, .int (nI j)), (5, .int (bI ig)), (6, .int (nI bi)), (7, .int (nI fl)), (8, .int 1), (9, .int 1), (10, .int (nI N.2.2.2.2.2.length))]) d_MO_entry_122 (by decide) rfl ?_
  have e0 : (fm_W g w0 mo ar (0, us, n, so, pl, po) F) = (fm_W g w0 mo ar (0, us, n, so, pl, po) (fm_sh F (12 * k + N.2.2.2.2.2.length) (12 * k + N.2.2.2.2.2.length))) := by rw [fm_sh_0]
  rw [e0]
  refine c_MO_ent_l hA hc.2.2.2.2.2.2.2 hk150 h12 (N.2.2.2.2.2.length - i) N.2.2.2.2.2.length (by omega) (Nat.le_refl _) ?_
  refine fr_bipush (pc := 156) (v := 12) d_MO_entry_156 (by decide) ?_
  refine fr_iload_n (pc := 158) d_MO_entry_158 rfl rfl ?_
  refine fr_imulN (pc := 159) (a := 12) (b := k) d_MO_entry_159 ?_
  refine fr_iload_n (pc := 160) d_MO_entry_160 rfl rfl ?_
  refine fr_iaddN (pc := 161) (a := (12 * k)) (b := i) d_MO_entry_161 ?_
  refine fr_istore (pc := 162) (L2 := [(0, .ref mo), (1, .int (nI k)), (2, .int (nI i)), (3, .int (bI al)), (4, .int (nI j)), (5, .int (bI ig)), (6, .int (nI bi)), (7, .int (nI fl)), (8, .int 1), (9, .int 1), (10, .int (nI ((12 * k) + i)))]) d_MO_entry_162 (by decide) rfl ?_
  refine fr_aload_n (pc := 164) d_MO_entry_164 rfl rfl ?_
  refine fr_get (pc := 165) (v := .ref (ar 11)) d_MO_entry_165 fg_MO_48 fm_mo rfl ?_
  refine fr_iload (pc := 168) d_MO_entry_168 rfl ?_
  refine fr_iload_n (pc := 170) d_MO_entry_170 rfl rfl ?_
  refine fr_mzst (pc := 171) (j := 11) (k := ((12 * k) + i)) (x := (bI al)) d_MO_entry_171 hA (by decide) rfl (by show ((12 * k) + i) < 1800; omega) (bI_01 _) ?_
  refine fr_aload_n (pc := 172) d_MO_entry_172 rfl rfl ?_
  refine fr_get (pc := 173) (v := .ref (ar 12)) d_MO_entry_173 fg_MO_51 fm_mo rfl ?_
  refine fr_iload (pc := 176) d_MO_entry_176 rfl ?_
  refine fr_iload (pc := 178) d_MO_entry_178 rfl ?_
  refine fr_mzst (pc := 180) (j := 12) (k := ((12 * k) + i)) (x := (bI ig)) d_MO_entry_180 hA (by decide) rfl (by show ((12 * k) + i) < 1800; omega) (bI_01 _) ?_
  refine fr_aload_n (pc := 181) d_MO_entry_181 rfl rfl ?_
  refine fr_get (pc := 182) (v := .ref (ar 13)) d_MO_entry_182 fg_MO_54 fm_mo rfl ?_
  refine fr_iload (pc := 185) d_MO_entry_185 rfl ?_
  refine fr_iload (pc := 187) d_MO_entry_187 rfl ?_
  refine fr_mist (pc := 189) (j := 13) (k := ((12 * k) + i)) (x := (nI j)) d_MO_entry_189 hA (by decide) rfl (by show ((12 * k) + i) < 1800; omega) ?_
  refine fr_aload_n (pc := 190) d_MO_entry_190 rfl rfl ?_
  refine fr_get (pc := 191) (v := .ref (ar 14)) d_MO_entry_191 fg_MO_57 fm_mo rfl ?_
  refine fr_iload (pc := 194) d_MO_entry_194 rfl ?_
  refine fr_iload (pc := 196) d_MO_entry_196 rfl ?_
  refine fr_mist (pc := 198) (j := 14) (k := ((12 * k) + i)) (x := (nI bi)) d_MO_entry_198 hA (by decide) rfl (by show ((12 * k) + i) < 1800; omega) ?_
  refine fr_aload_n (pc := 199) d_MO_entry_199 rfl rfl ?_
  refine fr_get (pc := 200) (v := .ref (ar 15)) d_MO_entry_200 fg_MO_60 fm_mo rfl ?_
  refine fr_iload (pc := 203) d_MO_entry_203 rfl ?_
  refine fr_iload (pc := 205) d_MO_entry_205 rfl ?_
  refine fr_mist (pc := 207) (j := 15) (k := ((12 * k) + i)) (x := (nI fl)) d_MO_entry_207 hA (by decide) rfl (by show ((12 * k) + i) < 1800; omega) ?_
  refine fr_aload_n (pc := 208) d_MO_entry_208 rfl rfl ?_
  refine fr_get (pc := 209) (v := .ref (ar 10)) d_MO_entry_209 fg_MO_45 fm_mo rfl ?_
  refine fr_iload_n (pc := 212) d_MO_entry_212 rfl rfl ?_
  refine fr_dup2_11 (pc := 213) d_MO_entry_213 rfl rfl ?_
  refine fr_mild (pc := 214) (j := 10) (k := k) d_MO_entry_214 hA (by decide) rfl (by show k < 150; omega) ?_
  refine fr_st (st2 := [.int (nI N.2.2.2.2.2.length), .int (nI k), .ref (ar 10)]) (by rw [fm_e_ne (by decide), fm_e_ne (by decide), fm_e_ne (by decide), fm_e_ne (by decide), fm_e_ne (by decide), fm_sh_ne (by decide), c10]) ?_
  refine fr_iconst (pc := 215) (v := 1) d_MO_entry_215 (by decide) ?_
  refine fr_iaddN (pc := 216) (a := N.2.2.2.2.2.length) (b := 1) d_MO_entry_216 ?_
  refine fr_mist (pc := 217) (j := 10) (k := k) (x := (nI (N.2.2.2.2.2.length + 1))) d_MO_entry_217 hA (by decide) rfl (by show k < 150; omega) ?_
  refine fr_aload_n (pc := 218) d_MO_entry_218 rfl rfl ?_
  refine fr_iload_n (pc := 219) d_MO_entry_219 rfl rfl ?_
  refine fr_iconst (pc := 220) (v := 0) d_MO_entry_220 (by decide) ?_
  have hc1 : fm_c us n hu hg (va_up nd k (some (N.1, N.2.1, N.2.2.1, N.2.2.2.1, N.2.2.2.2.1, fs_ins N.2.2.2.2.2 i (al, j, ig, bi, fl)))) (fm_e (fm_e (fm_e (fm_e (fm_e (fm_e (fm_sh F (12 * k + i) (12 * k + N.2.2.2.2.2.length)) 11 ((12 * k) + i) (bI al)) 12 ((12 * k) + i) (bI ig)) 13 ((12 * k) + i) (nI j)) 14 ((12 * k) + i) (nI bi)) 15 ((12 * k) + i) (nI fl)) 10 k (nI (N.2.2.2.2.2.length + 1))) := fm_c_ins hc hok hk hi h12 (fun q hq => by rw [fm_e_ne (by omega), fm_e_ne (by omega), fm_e_ne (by omega), fm_e_ne (by omega), fm_e_ne (by omega), fm_e_ne (by omega), fm_sh_ne (by omega)]) fm_e_self (fun m hm => by rw [fm_e_k hm, fm_e_ne (by decide), fm_e_ne (by decide), fm_e_ne (by decide), fm_e_ne (by decide), fm_e_ne (by decide), fm_sh_ne (by decide)]) (fun x => by rw [fm_e_ne (by decide)]; rw [fm_e_ne (by decide)]; rw [fm_e_ne (by decide)]; rw [fm_e_ne (by decide)]; rw [fm_e_ne (by decide)]; rw [fm_e_at]) (fun x => by rw [fm_e_ne (by decide)]; rw [fm_e_ne (by decide)]; rw [fm_e_ne (by decide)]; rw [fm_e_ne (by decide)]; rw [fm_e_at]; rw [fm_e_ne (by decide)]) (fun x => by rw [fm_e_ne (by decide)]; rw [fm_e_ne (by decide)]; rw [fm_e_ne (by decide)]; rw [fm_e_at]; rw [fm_e_ne (by decide), fm_e_ne (by decide)]) (fun x => by rw [fm_e_ne (by decide)]; rw [fm_e_ne (by decide)]; rw [fm_e_at]; rw [fm_e_ne (by decide), fm_e_ne (by decide), fm_e_ne (by decide)]) (fun x => by rw [fm_e_ne (by decide)]; rw [fm_e_at]; rw [fm_e_ne (by decide), fm_e_ne (by decide), fm_e_ne (by decide), fm_e_ne (by decide)])
  have hok1 : fs_ok us n (va_up nd k (some (N.1, N.2.1, N.2.2.1, N.2.2.2.1, N.2.2.2.2.1, fs_ins N.2.2.2.2.2 i (al, j, ig, bi, fl)))) := fs_ok_up hok (N2 := (N.1, N.2.1, N.2.2.1, N.2.2.2.1, N.2.2.2.2.1, fs_ins N.2.2.2.2.2 i (al, j, ig, bi, fl))) hk rfl how (by show (fs_ins N.2.2.2.2.2 i (al, j, ig, bi, fl)).length ≤ 12; rw [fs_ins_len hi]; omega) (fun E hE => by
    rcases fs_ins_mem hE with rfl | h
    · exact ⟨hj, hb255, hf16⟩
    · exact hes E h)
  refine fr_callv_n (pc := 221) (nc := nc) (ns := ns) (N := m_MO_spread) (rest := []) (as := [.int (nI k), .int 0]) d_MO_entry_221 vc_MO_105 ⟨by decide, by decide, Nat.le_of_ble_eq_true rfl⟩ (Nat.le_of_ble_eq_true rfl) fm_mo (c_MO_spread hA (fm_p_c hc1 hok1) hc1.2.2.2.1 (fun j => hc1.2.2.2.2.2.2.2 7 j (by omega)) (fs_ok_ch hok1) (t := k) (b := false) hk150) rfl ?_
  refine fr_aload_n (pc := 224) d_MO_entry_224 rfl rfl ?_
  refine fr_get (pc := 225) (v := .ref (ar 10)) d_MO_entry_225 fg_MO_45 fm_mo rfl ?_
  refine fr_iload_n (pc := 228) d_MO_entry_228 rfl rfl ?_
  refine fr_mild (pc := 229) (j := 10) (k := k) d_MO_entry_229 hA (by decide) rfl (by show k < 150; omega) ?_
  refine fr_st (st2 := [.int (nI (N.2.2.2.2.2.length + 1))]) (by rw [fm_s_ne (by decide), fm_e_self]) ?_
  exact fr_iret rfl d_MO_entry_230 ⟨rfl, _, _, _, _, rfl, fm_c_mk hc1⟩

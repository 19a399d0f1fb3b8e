def fs_pk (x : Int32) (n : Nat) : Prop := ∃ i, i ≤ n ∧ x = nI i
def fs_rk (z : Int32) : Prop := ∃ b, 1 ≤ b ∧ b < 256 ∧ z = nI b
def fs_fk (v : Int32) : Prop := ∃ f, 1 ≤ f ∧ f < 16 ∧ f ≠ 8 ∧ v = nI f
theorem fs_pk_of {x : Int32} {n : Nat} (hn : n < 2 ^ 31) (h1 : ¬ x < 0) (h2 : x ≤ nI n) : fs_pk x n := by
  obtain ⟨h3, h4⟩ := ix_of h1
  rw [h4] at h2
  exact ⟨_, (ni_le h3 hn).mp h2, h4⟩
theorem fs_1_of {z : Int32} (h1 : ¬ z < 1) : ∃ b, 1 ≤ b ∧ b < 2 ^ 31 ∧ z = nI b := by
  have h0 : ¬ z < 0 := fun h => h1 (Int32.lt_trans h (by decide))
  obtain ⟨h3, h4⟩ := ix_of h0
  refine ⟨_, ?_, h3, h4⟩
  rw [h4] at h1
  have := mt (ni_lt (b := 1) h3 (by omega)).mpr h1
  omega
theorem fs_rk_of {z : Int32} (h1 : ¬ z < 1) (h2 : z ≤ 255) : fs_rk z := by
  obtain ⟨b, e1, e2, rfl⟩ := fs_1_of h1
  exact ⟨b, e1, by have := (ni_le (b := 255) e2 (by omega)).mp h2; omega, rfl⟩
theorem fs_fk_of {v : Int32} (h1 : ¬ v < 1) (h2 : ¬ 15 < v) (h3 : ¬ v = 8) : fs_fk v := by
  obtain ⟨b, e1, e2, rfl⟩ := fs_1_of h1
  refine ⟨b, e1, ?_, fun z => h3 (by rw [z]; rfl), rfl⟩
  have := mt (ni_lt (a := 15) (by omega) e2).mpr h2
  omega
theorem nw_EN_FR : fw_nw "FolderRights" 135 3 5 [.int 0, .int 0, .int 0, .int 0, .int 0] := ⟨"FolderRights$Entry", fw_T3, rfl, fw_i3, (fw_t 386 (by decide +kernel)), (fw_t 387 (by decide +kernel)), (fw_t 15 (by decide +kernel)), fw_y3, fw_k3, by decide⟩
theorem p_FR_entry_n1 {g : fw_G} {w : fw_W} {o gr a1 a2 a3 a4 na us n : Nat} {hu hg : Nat → Nat → Bool} {nd : fs_D} (hX : fs_X g (o, gr, a1, a2, a3, a4, na) (us, n, hu, hg, nd) w) {al ig : Bool} {x p y z v : Int32} (hx : ∀ k, x = nI k → nd k = none) : fw_R g m_FR_entry (fs_P g (o, gr, a1, a2, a3, a4, na) w (.inr "java/util/NoSuchElementException") (us, n, hu, hg, nd)) 10 72 w 0 [(0, .ref o), (1, .int x), (2, .int p), (3, .int (bI al)), (4, .int y), (5, .int (bI ig)), (6, .int z), (7, .int v)] [] := by
  obtain ⟨f1, f2, f3, f4, ad, lq, ld, lc, lt, hok, h0, hG, hR, hN, hr⟩ := fs_X_el hX
  refine fr_aload_n (pc := 0) d_FR_entry_0 rfl rfl ?_
  refine fr_iload_n (pc := 1) d_FR_entry_1 rfl rfl ?_
  refine fr_callv_x (pc := 2) (nc := 9) (ns := 66) (N := m_FR_nodeAt) (rest := []) (as := [.int x]) d_FR_entry_2 vc_FR_63 ⟨by decide, by decide, Nat.le_of_ble_eq_true rfl⟩ (Nat.le_of_ble_eq_true rfl) h0 (x_FR_nodeAt h0 hN (fun k _ e => hr.1 k (hx k e))) rfl ?_
  exact fx_out (by decide) ⟨rfl, hX, fs_Fr_id⟩
theorem p_FR_entry_n2 {g : fw_G} {w : fw_W} {o gr a1 a2 a3 a4 na us n : Nat} {hu hg : Nat → Nat → Bool} {nd : fs_D} (hX : fs_X g (o, gr, a1, a2, a3, a4, na) (us, n, hu, hg, nd) w) {k : Nat} {N : fs_N} (hk : nd k = some N) {al ig : Bool} {p y z v : Int32} (hy : fs_no2 y (if ig then n else us)) : fw_R g m_FR_entry (fs_P g (o, gr, a1, a2, a3, a4, na) w (.inr "java/util/NoSuchElementException") (us, n, hu, hg, nd)) 10 72 w 0 [(0, .ref o), (1, .int (nI k)), (2, .int p), (3, .int (bI al)), (4, .int y), (5, .int (bI ig)), (6, .int z), (7, .int v)] [] := by
  obtain ⟨f1, f2, f3, f4, ad, lq, ld, lc, lt, hok, h0, hG, hR, hN, hr⟩ := fs_X_el hX
  have hb : n < 2 ^ 31 := by have := hok.2.2.1; omega
  have hb2 : us < 2 ^ 31 := by have := hok.2.1; omega
  obtain ⟨hk150, a, ha, hc, hl, hE⟩ := hr.2.1 k N hk
  obtain ⟨-, hk0, how, hlen, hes, hch, hdep⟩ := hok.2.2.2.2 k N hk
  refine fr_aload_n (pc := 0) d_FR_entry_0 rfl rfl ?_
  refine fr_iload_n (pc := 1) d_FR_entry_1 rfl rfl ?_
  refine fr_callv_p (pc := 2) (nc := 9) (ns := 66) (N := m_FR_nodeAt) (rest := []) (as := [.int (nI k)]) d_FR_entry_2 vc_FR_63 ⟨by decide, by decide, Nat.le_of_ble_eq_true rfl⟩ (Nat.le_of_ble_eq_true rfl) h0 (c_FR_nodeAt h0 hN hk150 ha) rfl ?_
  refine fr_astore (pc := 5) (L2 := [(0, .ref o), (1, .int (nI k)), (2, .int p), (3, .int (bI al)), (4, .int y), (5, .int (bI ig)), (6, .int z), (7, .int v), (8, .ref a)]) d_FR_entry_5 (by decide) rfl ?_
  refine fr_aload_n (pc := 7) d_FR_entry_7 rfl rfl ?_
  refine fr_iload (pc := 8) d_FR_entry_8 rfl ?_
  refine fr_iload (pc := 10) d_FR_entry_10 rfl ?_
  refine fr_callv_x (pc := 12) (nc := 7) (ns := 54) (N := m_FR_requireUserOrGroup) (rest := []) (as := [.int y, .int (bI ig)]) d_FR_entry_12 vc_FR_45 ⟨by decide, by decide, Nat.le_of_ble_eq_true rfl⟩ (Nat.le_of_ble_eq_true rfl) h0 (x_FR_requireUserOrGroup h0 hG.1 hy hb hb2) rfl ?_
  exact fx_out (by decide) ⟨rfl, hX, fs_Fr_id⟩
theorem p_FR_entry_n3 {g : fw_G} {w : fw_W} {o gr a1 a2 a3 a4 na us n : Nat} {hu hg : Nat → Nat → Bool} {nd : fs_D} (hX : fs_X g (o, gr, a1, a2, a3, a4, na) (us, n, hu, hg, nd) w) {k : Nat} {N : fs_N} (hk : nd k = some N) {al ig : Bool} {j : Nat} (hj : j < (if ig then n else us)) {p z v : Int32} (hbad : ¬ (fs_pk p N.2.2.2.2.2.length ∧ fs_rk z ∧ fs_fk v)) : fw_R g m_FR_entry (fs_P g (o, gr, a1, a2, a3, a4, na) w (.inr "java/lang/IllegalArgumentException") (us, n, hu, hg, nd)) 10 72 w 0 [(0, .ref o), (1, .int (nI k)), (2, .int p), (3, .int (bI al)), (4, .int (nI j)), (5, .int (bI ig)), (6, .int z), (7, .int v)] [] := by
  obtain ⟨f1, f2, f3, f4, ad, lq, ld, lc, lt, hok, h0, hG, hR, hN, hr⟩ := fs_X_el hX
  have hb : n < 2 ^ 31 := by have := hok.2.2.1; omega
  have hb2 : us < 2 ^ 31 := by have := hok.2.1; omega
  obtain ⟨hk150, a, ha, hc, hl, hE⟩ := hr.2.1 k N hk
  obtain ⟨-, hk0, how, hlen, hes, hch, hdep⟩ := hok.2.2.2.2 k N hk
  obtain ⟨mc, hl1, -⟩ := id hl
  have eL := hE.1
  refine fr_aload_n (pc := 0) d_FR_entry_0 rfl rfl ?_
  refine fr_iload_n (pc := 1) d_FR_entry_1 rfl rfl ?_
  refine fr_callv_p (pc := 2) (nc := 9) (ns := 66) (N := m_FR_nodeAt) (rest := []) (as := [.int (nI k)]) d_FR_entry_2 vc_FR_63 ⟨by decide, by decide, Nat.le_of_ble_eq_true rfl⟩ (Nat.le_of_ble_eq_true rfl) h0 (c_FR_nodeAt h0 hN hk150 ha) rfl ?_
  refine fr_astore (pc := 5) (L2 := [(0, .ref o), (1, .int (nI k)), (2, .int p), (3, .int (bI al)), (4, .int (nI j)), (5, .int (bI ig)), (6, .int z), (7, .int v), (8, .ref a)]) d_FR_entry_5 (by decide) rfl ?_
  refine fr_aload_n (pc := 7) d_FR_entry_7 rfl rfl ?_
  refine fr_iload (pc := 8) d_FR_entry_8 rfl ?_
  refine fr_iload (pc := 10) d_FR_entry_10 rfl ?_
  refine fr_callv_n (pc := 12) (nc := 7) (ns := 54) (N := m_FR_requireUserOrGroup) (rest := []) (as := [.int (nI j), .int (bI ig)]) d_FR_entry_12 vc_FR_45 ⟨by decide, by decide, Nat.le_of_ble_eq_true rfl⟩ (Nat.le_of_ble_eq_true rfl) h0 (c_FR_requireUserOrGroup h0 hG.1 hj hb hb2) rfl ?_
  refine fr_iload_n (pc := 15) d_FR_entry_15 rfl rfl ?_
  refine fr_if_lt (pc := 16) (tgt := 31) d_FR_entry_16 (by decide) (fun q1 => ?_) (fun q1 => ?_)
  · exact fr_throw (pc := 31) (nc := 6) (ns := 48) th_FR_127 d_FR_entry_31 d_FR_entry_34 d_FR_entry_35 d_FR_entry_37 d_FR_entry_40 (by decide) (by decide) (by decide) ⟨rfl, hX, fs_Fr_id⟩
  · refine fr_iload_n (pc := 19) d_FR_entry_19 rfl rfl ?_
    refine fr_aload (pc := 20) d_FR_entry_20 rfl ?_
    refine fr_get (pc := 22) (v := .ref (lq k)) d_FR_entry_22 fg_FR_119 hc rfl ?_
    refine fr_callv_p (pc := 25) (nc := 7) (ns := 54) (N := m_AL_size) (rest := [.int p]) (as := []) d_FR_entry_25 vc_FR_123 ⟨by decide, by decide, Nat.le_of_ble_eq_true rfl⟩ (Nat.le_of_ble_eq_true rfl) hl1 (c_AL_size hl) rfl ?_
    refine fr_icmp_le (pc := 28) (tgt := 41) d_FR_entry_28 (by decide) (fun q2 => ?_) (fun q2 => ?_)
    · refine fr_iload (pc := 41) d_FR_entry_41 rfl ?_
      refine fr_iconst (pc := 43) (v := 1) d_FR_entry_43 (by decide) ?_
      refine fr_icmp_lt (pc := 44) (tgt := 55) d_FR_entry_44 (by decide) (fun q3 => ?_) (fun q3 => ?_)
      · exact fr_throw (pc := 55) (nc := 6) (ns := 48) th_FR_129 d_FR_entry_55 d_FR_entry_58 d_FR_entry_59 d_FR_entry_61 d_FR_entry_64 (by decide) (by decide) (by decide) ⟨rfl, hX, fs_Fr_id⟩
      · refine fr_iload (pc := 47) d_FR_entry_47 rfl ?_
        refine fr_sipush (pc := 49) (v := 255) d_FR_entry_49 (by decide) ?_
        refine fr_icmp_le (pc := 52) (tgt := 65) d_FR_entry_52 (by decide) (fun q4 => ?_) (fun q4 => ?_)
        · refine fr_iload (pc := 65) d_FR_entry_65 rfl ?_
          refine fr_iconst (pc := 67) (v := 1) d_FR_entry_67 (by decide) ?_
          refine fr_icmp_lt (pc := 68) (tgt := 85) d_FR_entry_68 (by decide) (fun q5 => ?_) (fun q5 => ?_)
          · exact fr_throw (pc := 85) (nc := 6) (ns := 48) th_FR_131 d_FR_entry_85 d_FR_entry_88 d_FR_entry_89 d_FR_entry_91 d_FR_entry_94 (by decide) (by decide) (by decide) ⟨rfl, hX, fs_Fr_id⟩
          · refine fr_iload (pc := 71) d_FR_entry_71 rfl ?_
            refine fr_bipush (pc := 73) (v := 15) d_FR_entry_73 (by decide) ?_
            refine fr_icmp_gt (pc := 75) (tgt := 85) d_FR_entry_75 (by decide) (fun q6 => ?_) (fun q6 => ?_)
            · exact fr_throw (pc := 85) (nc := 6) (ns := 48) th_FR_131 d_FR_entry_85 d_FR_entry_88 d_FR_entry_89 d_FR_entry_91 d_FR_entry_94 (by decide) (by decide) (by decide) ⟨rfl, hX, fs_Fr_id⟩
            · refine fr_iload (pc := 78) d_FR_entry_78 rfl ?_
              refine fr_bipush (pc := 80) (v := 8) d_FR_entry_80 (by decide) ?_
              refine fr_icmp_ne (pc := 82) (tgt := 95) d_FR_entry_82 (by decide) (fun q7 => ?_) (fun q7 => ?_)
              · exact absurd ⟨by rw [← eL]; exact fs_pk_of (by omega) q1 q2, fs_rk_of q3 q4, fs_fk_of q5 q6 q7⟩ hbad
              · exact fr_throw (pc := 85) (nc := 6) (ns := 48) th_FR_131 d_FR_entry_85 d_FR_entry_88 d_FR_entry_89 d_FR_entry_91 d_FR_entry_94 (by decide) (by decide) (by decide) ⟨rfl, hX, fs_Fr_id⟩
        · exact fr_throw (pc := 55) (nc := 6) (ns := 48) th_FR_129 d_FR_entry_55 d_FR_entry_58 d_FR_entry_59 d_FR_entry_61 d_FR_entry_64 (by decide) (by decide) (by decide) ⟨rfl, hX, fs_Fr_id⟩
    · exact fr_throw (pc := 31) (nc := 6) (ns := 48) th_FR_127 d_FR_entry_31 d_FR_entry_34 d_FR_entry_35 d_FR_entry_37 d_FR_entry_40 (by decide) (by decide) (by decide) ⟨rfl, hX, fs_Fr_id⟩
theorem p_FR_entry_n4 {g : fw_G} {w : fw_W} {o gr a1 a2 a3 a4 na us n : Nat} {hu hg : Nat → Nat → Bool} {nd : fs_D} (hX : fs_X g (o, gr, a1, a2, a3, a4, na) (us, n, hu, hg, nd) w) {k : Nat} {N : fs_N} (hk : nd k = some N) {al ig : Bool} {j : Nat} (hj : j < (if ig then n else us)) {i bi fl : Nat} (hi : i ≤ N.2.2.2.2.2.length) (hb1 : 1 ≤ bi) (hb255 : bi < 256) (hf1 : 1 ≤ fl) (hf16 : fl < 16) (h8 : fl ≠ 8) (h12 : ¬ N.2.2.2.2.2.length < 12) : fw_R g m_FR_entry (fs_P g (o, gr, a1, a2, a3, a4, na) w (.inr "java/lang/IllegalStateException") (us, n, hu, hg, nd)) 10 72 w 0 [(0, .ref o), (1, .int (nI k)), (2, .int (nI i)), (3, .int (bI al)), (4, .int (nI j)), (5, .int (bI ig)), (6, .int (nI bi)), (7, .int (nI fl))] [] := by
  obtain ⟨f1, f2, f3, f4, ad, lq, ld, lc, lt, hok, h0, hG, hR, hN, hr⟩ := fs_X_el hX
  have hb : n < 2 ^ 31 := by have := hok.2.2.1; omega
  have hb2 : us < 2 ^ 31 := by have := hok.2.1; omega
  obtain ⟨hk150, a, ha, hc, hl, hE⟩ := hr.2.1 k N hk
  obtain ⟨-, hk0, how, hlen, hes, hch, hdep⟩ := hok.2.2.2.2 k N hk
  obtain ⟨mc, hl1, -⟩ := id hl
  have eL := hE.1
  refine fr_aload_n (pc := 0) d_FR_entry_0 rfl rfl ?_
  refine fr_iload_n (pc := 1) d_FR_entry_1 rfl rfl ?_
  refine fr_callv_p (pc := 2) (nc := 9) (ns := 66) (N := m_FR_nodeAt) (rest := []) (as := [.int (nI k)]) d_FR_entry_2 vc_FR_63 ⟨by decide, by decide, Nat.le_of_ble_eq_true rfl⟩ (Nat.le_of_ble_eq_true rfl) h0 (c_FR_nodeAt h0 hN hk150 ha) rfl ?_
  refine fr_astore (pc := 5) (L2 := [(0, .ref o), (1, .int (nI k)), (2, .int (nI i)), (3, .int (bI al)), (4, .int (nI j)), (5, .int (bI ig)), (6, .int (nI bi)), (7, .int (nI fl)), (8, .ref a)]) d_FR_entry_5 (by decide) rfl ?_
  refine fr_aload_n (pc := 7) d_FR_entry_7 rfl rfl ?_
  refine fr_iload (pc := 8) d_FR_entry_8 rfl ?_
  refine fr_iload (pc := 10) d_FR_entry_10 rfl ?_
  refine fr_callv_n (pc := 12) (nc := 7) (ns := 54) (N := m_FR_requireUserOrGroup) (rest := []) (as := [.int (nI j), .int (bI ig)]) d_FR_entry_12 vc_FR_45 ⟨by decide, by decide, Nat.le_of_ble_eq_true rfl⟩ (Nat.le_of_ble_eq_true rfl) h0 (c_FR_requireUserOrGroup h0 hG.1 hj hb hb2) rfl ?_
  refine fr_iload_n (pc := 15) d_FR_entry_15 rfl rfl ?_
  refine fr_if_lt (pc := 16) (tgt := 31) d_FR_entry_16 (by decide) (fun q1 => ?_) (fun q1 => ?_)
  · exact absurd q1 (ix_nn (by omega))
  · refine fr_iload_n (pc := 19) d_FR_entry_19 rfl rfl ?_
    refine fr_aload (pc := 20) d_FR_entry_20 rfl ?_
    refine fr_get (pc := 22) (v := .ref (lq k)) d_FR_entry_22 fg_FR_119 hc rfl ?_
    refine fr_callv_p (pc := 25) (nc := 7) (ns := 54) (N := m_AL_size) (rest := [.int (nI i)]) (as := []) d_FR_entry_25 vc_FR_123 ⟨by decide, by decide, Nat.le_of_ble_eq_true rfl⟩ (Nat.le_of_ble_eq_true rfl) hl1 (c_AL_size hl) rfl ?_
    refine fr_icmp_le (pc := 28) (tgt := 41) d_FR_entry_28 (by decide) (fun q2 => ?_) (fun q2 => ?_)
    · refine fr_iload (pc := 41) d_FR_entry_41 rfl ?_
      refine fr_iconst (pc := 43) (v := 1) d_FR_entry_43 (by decide) ?_
      refine fr_icmp_lt (pc := 44) (tgt := 55) d_FR_entry_44 (by decide) (fun q3 => ?_) (fun q3 => ?_)
      · exact absurd ((ni_lt (b := 1) (by omega) (by omega)).mp q3) (by omega)
      · refine fr_iload (pc := 47) d_FR_entry_47 rfl ?_
        refine fr_sipush (pc := 49) (v := 255) d_FR_entry_49 (by decide) ?_
        refine fr_icmp_le (pc := 52) (tgt := 65) d_FR_entry_52 (by decide) (fun q4 => ?_) (fun q4 => ?_)
        · refine fr_iload (pc := 65) d_FR_entry_65 rfl ?_
          refine fr_iconst (pc := 67) (v := 1) d_FR_entry_67 (by decide) ?_
          refine fr_icmp_lt (pc := 68) (tgt := 85) d_FR_entry_68 (by decide) (fun q5 => ?_) (fun q5 => ?_)
          · exact absurd ((ni_lt (b := 1) (by omega) (by omega)).mp q5) (by omega)
          · refine fr_iload (pc := 71) d_FR_entry_71 rfl ?_
            refine fr_bipush (pc := 73) (v := 15) d_FR_entry_73 (by decide) ?_
            refine fr_icmp_gt (pc := 75) (tgt := 85) d_FR_entry_75 (by decide) (fun q6 => ?_) (fun q6 => ?_)
            · exact absurd ((ni_lt (a := 15) (by omega) (by omega)).mp q6) (by omega)
            · refine fr_iload (pc := 78) d_FR_entry_78 rfl ?_
              refine fr_bipush (pc := 80) (v := 8) d_FR_entry_80 (by decide) ?_
              refine fr_icmp_ne (pc := 82) (tgt := 95) d_FR_entry_82 (by decide) (fun q7 => ?_) (fun q7 => ?_)
              · refine fr_aload (pc := 95) d_FR_entry_95 rfl ?_
                refine fr_get (pc := 97) (v := .ref (lq k)) d_FR_entry_97 fg_FR_119 hc rfl ?_
                refine fr_callv_p (pc := 100) (nc := 7) (ns := 54) (N := m_AL_size) (rest := []) (as := []) d_FR_entry_100 vc_FR_123 ⟨by decide, by decide, Nat.le_of_ble_eq_true rfl⟩ (Nat.le_of_ble_eq_true rfl) hl1 (c_AL_size hl) rfl ?_
                refine fr_bipush (pc := 103) (v := 12) d_FR_entry_103 (by decide) ?_
                refine fr_icmp_lt (pc := 105) (tgt := 118) d_FR_entry_105 (by decide) (fun q8 => ?_) (fun q8 => ?_)
                · exact absurd ((ni_lt (b := 12) (by omega) (by omega)).mp q8) (by omega)
                · exact fr_throw (pc := 108) (nc := 6) (ns := 48) th_FR_133 d_FR_entry_108 d_FR_entry_111 d_FR_entry_112 d_FR_entry_114 d_FR_entry_117 (by decide) (by decide) (by decide) ⟨rfl, hX, fs_Fr_id⟩
              · exact absurd ((ni_eq (b := 8) (by omega) (by omega)).mp q7) h8
        · exact absurd ((ni_le (b := 255) (by omega) (by omega)).mpr (by omega)) q4
    · exact absurd ((ni_le (by omega) (by omega)).mpr (by omega)) q2
theorem p_FR_entry_ok {g : fw_G} {w : fw_W} {o gr a1 a2 a3 a4 na us n : Nat} {hu hg : Nat → Nat → Bool} {nd : fs_D} (hX : fs_X g (o, gr, a1, a2, a3, a4, na) (us, n, hu, hg, nd) w) {k : Nat} {N : fs_N} (hk : nd k = some N) {al ig : Bool} {j : Nat} (hj : j < (if ig then n else us)) {i bi fl : Nat} (hi : i ≤ N.2.2.2.2.2.length) (hb1 : 1 ≤ bi) (hb255 : bi < 256) (hf1 : 1 ≤ fl) (hf16 : fl < 16) (h8 : fl ≠ 8) (h12 : N.2.2.2.2.2.length < 12) : fw_R g m_FR_entry (fs_P g (o, gr, a1, a2, a3, a4, na) w (.inl (some (.int (nI (N.2.2.2.2.2.length + 1))))) (us, n, hu, hg, fs_mk (va_up nd k (some (N.1, N.2.1, N.2.2.1, N.2.2.2.1, N.2.2.2.2.1, fs_ins N.2.2.2.2.2 i (al, j, ig, bi, fl)))) k 150)) 10 72 w 0 [(0, .ref o), (1, .int (nI k)), (2, .int (nI i)), (3, .int (bI al)), (4, .int (nI j)), (5, .int (bI ig)), (6, .int (nI bi)), (7, .int (nI fl))] [] := by
  obtain ⟨f1, f2, f3, f4, ad, lq, ld, lc, lt, hok, h0, hG, hR, hN, hr⟩ := fs_X_el hX
  have hb : n < 2 ^ 31 := by have := hok.2.2.1; omega
  have hb2 : us < 2 ^ 31 := by have := hok.2.1; omega
  obtain ⟨hk150, a, ha, hc, hl, hE⟩ := hr.2.1 k N hk
  obtain ⟨-, hk0, how, hlen, hes, hch, hdep⟩ := hok.2.2.2.2 k N hk
  obtain ⟨mc, hl1, -⟩ := id hl
  have eL := hE.1
  refine fr_aload_n (pc := 0) d_FR_entry_0 rfl rfl ?_
  refine fr_iload_n (pc := 1) d_FR_entry_1 rfl rfl ?_
  refine fr_callv_p (pc := 2) (nc := 9) (ns := 66) (N := m_FR_nodeAt) (rest := []) (as := [.int (nI k)]) d_FR_entry_2 vc_FR_63 ⟨by decide, by decide, Nat.le_of_ble_eq_true rfl⟩ (Nat.le_of_ble_eq_true rfl) h0 (c_FR_nodeAt h0 hN hk150 ha) rfl ?_
  refine fr_astore (pc := 5) (L2 := [(0, .ref o), (1, .int (nI k)), (2, .int (nI i)), (3, .int (bI al)), (4, .int (nI j)), (5, .int (bI ig)), (6, .int (nI bi)), (7, .int (nI fl)), (8, .ref a)]) d_FR_entry_5 (by decide) rfl ?_
  refine fr_aload_n (pc := 7) d_FR_entry_7 rfl rfl ?_
  refine fr_iload (pc := 8) d_FR_entry_8 rfl ?_
  refine fr_iload (pc := 10) d_FR_entry_10 rfl ?_
  refine fr_callv_n (pc := 12) (nc := 7) (ns := 54) (N := m_FR_requireUserOrGroup) (rest := []) (as := [.int (nI j), .int (bI ig)]) d_FR_entry_12 vc_FR_45 ⟨by decide, by decide, Nat.le_of_ble_eq_true rfl⟩ (Nat.le_of_ble_eq_true rfl) h0 (c_FR_requireUserOrGroup h0 hG.1 hj hb hb2) rfl ?_
  refine fr_iload_n (pc := 15) d_FR_entry_15 rfl rfl ?_
  refine fr_if_lt (pc := 16) (tgt := 31) d_FR_entry_16 (by decide) (fun q1 => ?_) (fun q1 => ?_)
  · exact absurd q1 (ix_nn (by omega))
  · refine fr_iload_n (pc := 19) d_FR_entry_19 rfl rfl ?_
    refine fr_aload (pc := 20) d_FR_entry_20 rfl ?_
    refine fr_get (pc := 22) (v := .ref (lq k)) d_FR_entry_22 fg_FR_119 hc rfl ?_
    refine fr_callv_p (pc := 25) (nc := 7) (ns := 54) (N := m_AL_size) (rest := [.int (nI i)]) (as := []) d_FR_entry_25 vc_FR_123 ⟨by decide, by decide, Nat.le_of_ble_eq_true rfl⟩ (Nat.le_of_ble_eq_true rfl) hl1 (c_AL_size hl) rfl ?_
    refine fr_icmp_le (pc := 28) (tgt := 41) d_FR_entry_28 (by decide) (fun q2 => ?_) (fun q2 => ?_)
    · refine fr_iload (pc := 41) d_FR_entry_41 rfl ?_
      refine fr_iconst (pc := 43) (v := 1) d_FR_entry_43 (by decide) ?_
      refine fr_icmp_lt (pc := 44) (tgt := 55) d_FR_entry_44 (by decide) (fun q3 => ?_) (fun q3 => ?_)
      · exact absurd ((ni_lt (b := 1) (by omega) (by omega)).mp q3) (by omega)
      · refine fr_iload (pc := 47) d_FR_entry_47 rfl ?_
        refine fr_sipush (pc := 49) (v := 255) d_FR_entry_49 (by decide) ?_
        refine fr_icmp_le (pc := 52) (tgt := 65) d_FR_entry_52 (by decide) (fun q4 => ?_) (fun q4 => ?_)
        · refine fr_iload (pc := 65) d_FR_entry_65 rfl ?_
          refine fr_iconst (pc := 67) (v := 1) d_FR_entry_67 (by decide) ?_
          refine fr_icmp_lt (pc := 68) (tgt := 85) d_FR_entry_68 (by decide) (fun q5 => ?_) (fun q5 => ?_)
          · exact absurd ((ni_lt (b := 1) (by omega) (by omega)).mp q5) (by omega)
          · refine fr_iload (pc := 71) d_FR_entry_71 rfl ?_
            refine fr_bipush (pc := 73) (v := 15) d_FR_entry_73 (by decide) ?_
            refine fr_icmp_gt (pc := 75) (tgt := 85) d_FR_entry_75 (by decide) (fun q6 => ?_) (fun q6 => ?_)
            · exact absurd ((ni_lt (a := 15) (by omega) (by omega)).mp q6) (by omega)
            · refine fr_iload (pc := 78) d_FR_entry_78 rfl ?_
              refine fr_bipush (pc := 80) (v := 8) d_FR_entry_80 (by decide) ?_
              refine fr_icmp_ne (pc := 82) (tgt := 95) d_FR_entry_82 (by decide) (fun q7 => ?_) (fun q7 => ?_)
              · refine fr_aload (pc := 95) d_FR_entry_95 rfl ?_
                refine fr_get (pc := 97) (v := .ref (lq k)) d_FR_entry_97 fg_FR_119 hc rfl ?_
                refine fr_callv_p (pc := 100) (nc := 7) (ns := 54) (N := m_AL_size) (rest := []) (as := []) d_FR_entry_100 vc_FR_123 ⟨by decide, by decide, Nat.le_of_ble_eq_true rfl⟩ (Nat.le_of_ble_eq_true rfl) hl1 (c_AL_size hl) rfl ?_
                refine fr_bipush (pc := 103) (v := 12) d_FR_entry_103 (by decide) ?_
                refine fr_icmp_lt (pc := 105) (tgt := 118) d_FR_entry_105 (by decide) (fun q8 => ?_) (fun q8 => ?_)
                · refine fr_aload (pc := 118) d_FR_entry_118 rfl ?_
                  refine fr_get (pc := 120) (v := .ref (lq k)) d_FR_entry_120 fg_FR_119 hc rfl ?_
                  refine fr_iload_n (pc := 123) d_FR_entry_123 rfl rfl ?_
                  refine fr_new (pc := 124) (nc := 6) (ns := 49) (ci := 3) (N := 5) (fs := [.int 0, .int 0, .int 0, .int 0, .int 0]) d_FR_entry_124 nw_EN_FR (fun e he => ?_)
                  refine fr_dup (pc := 127) d_FR_entry_127 rfl ?_
                  refine fr_iload_n (pc := 128) d_FR_entry_128 rfl rfl ?_
                  refine fr_iload (pc := 129) d_FR_entry_129 rfl ?_
                  refine fr_iload (pc := 131) d_FR_entry_131 rfl ?_
                  refine fr_iload (pc := 133) d_FR_entry_133 rfl ?_
                  refine fr_iload (pc := 135) d_FR_entry_135 rfl ?_
                  refine fr_calli_n (pc := 137) (nc := 6) (ns := 49) (N := m_EN_init) (rest := [.ref e, .int (nI i), .ref (lq k)]) (as := [.int (bI al), .int (nI j), .int (bI ig), .int (nI bi), .int (nI fl)]) d_FR_entry_137 k_EN_init rfl rfl rfl (fw_t 390 (by decide +kernel)) lk_FR_137 im_EN_init np_EN_init ⟨by decide, by decide, Nat.le_of_ble_eq_true rfl⟩ (Nat.le_of_ble_eq_true rfl) (c_EN_init fw_up_self) rfl ?_
                  rw [fw_uu]
                  show fw_R g m_FR_entry _ _ _ (fw_up w e (.inr (3, fs_ec (al, j, ig, bi, fl)))) _ _ _
                  refine fr_dn (fun hdf => ?_)
                  have hup : ∀ b x, w b = some x → (fw_up w e (.inr (3, fs_ec (al, j, ig, bi, fl)))) b = some x := fun b x hb => fw_up_at hb (fun z => by rw [z, he] at hb; cases hb)
                  have hr0 : fs_rN g (fw_up w e (.inr (3, fs_ec (al, j, ig, bi, fl)))) nd ad lq ld lc lt := fs_rN_fr hr (fun b x hb _ => hup b x hb)
                  have h00 := hup _ _ h0
                  have hN0 := hup _ _ hN
                  have hG0 := fs_gr_fr hG (fun b x hb _ _ => hup b x hb)
                  obtain ⟨-, a8, ha8, hc0, hl0, hE0⟩ := hr0.2.1 k N hk
                  rw [ha] at ha8; cases ha8
                  obtain ⟨mc0, hl10, -⟩ := id hl0
                  refine fr_callV (pc := 140) (nc := 4) (ns := 24) (N := m_AL_add) (rest := []) (as := [.int (nI i), .ref e]) d_FR_entry_140 vc_FR_140 ⟨by decide, by decide, Nat.le_of_ble_eq_true rfl⟩ (Nat.le_of_ble_eq_true rfl) hl10 (c_AL_add hl0 (by omega) (by omega) fw_up_self hdf) rfl (fun v8 u h8 => ?_) (fun C u h8 => by obtain ⟨h1, -⟩ := h8; cases h1)
                  obtain ⟨h1, d2, cap2, hli, hfr, hd2⟩ := h8
                  cases h1
                  have hd3 : (d2 = ld k ∧ (fw_up w e (.inr (3, fs_ec (al, j, ig, bi, fl)))) (ld k) ≠ none) ∨ (fw_up w e (.inr (3, fs_ec (al, j, ig, bi, fl)))) d2 = none := by
                    rcases hd2 with ⟨z1, z2⟩ | z
                    · exact Or.inl ⟨z1, z2⟩
                    · exact Or.inr z
                  have hke := fs_lk hr0 hk hdf hfr hd3
                  have h0u := hke _ _ h00 (fs_ne h00 hl10 (fun z => by cases z)) (fun c n f z => by cases z)
                  have hnq : na ≠ lq k := fs_ne hN0 hl10 (fun z => by cases z)
                  have hnd : na ≠ d2 := fun z => by
                    rcases hd3 with ⟨z1, z2⟩ | z1
                    · obtain ⟨mc2, -, -, -, hl4⟩ := id hl0
                      rcases hl4 with ⟨e9, -⟩ | ⟨e9, e10, e11⟩
                      · rw [e9] at z2; exact z2 hdf
                      · rw [← z1, ← z, hN0] at e9; have := congrArg (fun q => q.2.1) (Sum.inl.inj (Option.some.inj e9)); simp only at this; omega
                    · rw [← z, hN0] at z1; cases z1
                  have hNu : u na = some (fs_no g ad) := (hfr na hnq hnd).trans hN0
                  have hGu := fs_gr_fr hG0 (fun b e hb h1 h2 => hke b e hb (fs_ne hb hl10 (fun z => by have := h1 4 _ z; omega)) h2)
                  have heu : u e = some (.inr (3, fs_ec (al, j, ig, bi, fl))) := hke e _ fw_up_self (fs_ne (w := (fw_up w e (.inr (3, fs_ec (al, j, ig, bi, fl))))) fw_up_self hl10 (fun z => by cases z)) (fun c n f z => by cases z)
                  have hr1 := fs_rN_list hr0 hk hdf hfr hd3 hli (fs_en_ins (fs_en_of hE0 (fun b fs hb => hke b _ hb (fs_ne hb hl10 (fun z => by cases z)) (fun c n f z => by cases z))) (i := i) (by omega) heu)
                  have hok1 : fs_ok us n (va_up nd k (some (N.1, N.2.1, N.2.2.1, N.2.2.2.1, N.2.2.2.2.1, fs_ins N.2.2.2.2.2 i (al, j, ig, bi, fl)))) := fs_ok_up hok (N2 := (N.1, N.2.1, N.2.2.1, N.2.2.2.1, N.2.2.2.2.1, fs_ins N.2.2.2.2.2 i (al, j, ig, bi, fl))) hk rfl how (by show (fs_ins N.2.2.2.2.2 i (al, j, ig, bi, fl)).length ≤ 12; rw [fs_ins_len hi]; omega) (fun E hE2 => by
                    rcases fs_ins_mem hE2 with rfl | hE3
                    · exact ⟨hj, hb255, hf16⟩
                    · exact hes E hE3)
                  refine fr_aload_n (pc := 143) d_FR_entry_143 rfl rfl ?_
                  refine fr_aload (pc := 144) d_FR_entry_144 rfl ?_
                  refine fr_callV (pc := 146) (nc := 4) (ns := 24) (N := m_FR_markStaleBelow) (rest := []) (as := [.ref a]) d_FR_entry_146 vc_FR_107 ⟨by decide, by decide, Nat.le_of_ble_eq_true rfl⟩ (Nat.le_of_ble_eq_true rfl) h0u (c_FR_mark h0u hNu (fs_ok_ch hok1) vu_self ha hr1) rfl (fun v9 u9 h9 => ?_) (fun C u9 h9 => by obtain ⟨h1, -⟩ := h9; cases h1)
                  obtain ⟨h1, hr2, hF2⟩ := h9
                  cases h1
                  have hm : fs_mk (va_up nd k (some (N.1, N.2.1, N.2.2.1, N.2.2.2.1, N.2.2.2.2.1, fs_ins N.2.2.2.2.2 i (al, j, ig, bi, fl)))) k 150 k = some (N.1, N.2.1, N.2.2.1, N.2.2.2.1, N.2.2.2.2.1, fs_ins N.2.2.2.2.2 i (al, j, ig, bi, fl)) := by simp [fs_mk, vu_self]
                  obtain ⟨-, a9, ha9, hc9, hl9, hE9⟩ := hr2.2.1 k _ hm
                  rw [ha] at ha9; cases ha9
                  obtain ⟨mc9, hl91, -⟩ := id hl9
                  refine fr_aload (pc := 149) d_FR_entry_149 rfl ?_
                  refine fr_get (pc := 151) (v := .ref (lq k)) d_FR_entry_151 fg_FR_119 hc9 rfl ?_
                  refine fr_callv_p (pc := 154) (nc := 4) (ns := 24) (N := m_AL_size) (rest := []) (as := []) d_FR_entry_154 vc_FR_123 ⟨by decide, by decide, Nat.le_of_ble_eq_true rfl⟩ (Nat.le_of_ble_eq_true rfl) hl91 (c_AL_size hl9) rfl ?_
                  refine fr_st (st2 := [.int (nI (N.2.2.2.2.2.length + 1))]) (by rw [hE9.1]; show [Value.int (nI (fs_ins N.2.2.2.2.2 i (al, j, ig, bi, fl)).length)] = _; rw [fs_ins_len hi]) ?_
                  exact fr_iret rfl d_FR_entry_157 ⟨rfl, fs_X_F2 (fs_ok_mk hok1) h0u hGu hR hNu hF2 hr2, fun b x hb => fs_Fr_list hl10 hke hF2 b x (hup b x hb)⟩
                · exact absurd ((ni_lt (b := 12) (by omega) (by omega)).mpr (by omega)) q8
              · exact absurd ((ni_eq (b := 8) (by omega) (by omega)).mp q7) h8
        · exact absurd ((ni_le (b := 255) (by omega) (by omega)).mpr (by omega)) q4
    · exact absurd ((ni_le (by omega) (by omega)).mpr (by omega)) q2

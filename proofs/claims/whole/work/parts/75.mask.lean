theorem sh_tb : ∀ b, b < 256 → ∀ r, r < 8 → ((nI b >>> (nI r &&& 31)) &&& 1) = bI (b.testBit r) := by decide +kernel
theorem fm_ov_eq {pr : Option Nat} {v : Nat} (h : ∀ p, pr = some p → p < 150) (hv : v < 150) : fs_ov pr = nI v ↔ pr = some v := by
  cases pr with
  | none => exact ⟨fun z => absurd z.symm (ni_m1 (by omega)), fun z => by cases z⟩
  | some p => exact ⟨fun z => by rw [(ni_eq (by have := h p rfl; omega) (by omega)).mp z], fun z => by cases z; rfl⟩
theorem c_MO_isIn {g : fw_G} {nc ns : Nat} {w0 : fw_W} {mo : Nat} {ar : Nat → Nat} (hA : fm_ad mo ar) {th so pl po : Int32} {us n : Nat} {F : fm_F} {hu hg : Nat → Nat → Bool} (h3 : ∀ i u, i < 24 → u < 60 → F 3 (60 * i + u) = bI (fs_in hu hg i u)) {i u : Nat} (hi : i < 24) (hu2 : u < 60) : fw_R g m_MO_isIn (fw_pv (.int (bI (fs_in hu hg i u))) (fm_W g w0 mo ar (th, us, n, so, pl, po) F)) nc ns (fm_W g w0 mo ar (th, us, n, so, pl, po) F) 0 [(0, .ref mo), (1, .int (nI i)), (2, .int (nI u))] [] := by
  refine fr_aload_n (pc := 0) d_MO_isIn_0 rfl rfl ?_
  refine fr_get (pc := 1) (v := .ref (ar 3)) d_MO_isIn_1 fg_MO_23 fm_mo rfl ?_
  refine fr_bipush (pc := 4) (v := 60) d_MO_isIn_4 (by decide) ?_
  refine fr_iload_n (pc := 6) d_MO_isIn_6 rfl rfl ?_
  refine fr_imulN (pc := 7) (a := 60) (b := i) d_MO_isIn_7 ?_
  refine fr_iload_n (pc := 8) d_MO_isIn_8 rfl rfl ?_
  refine fr_iaddN (pc := 9) (a := (60 * i)) (b := u) d_MO_isIn_9 ?_
  refine fr_mzld (pc := 10) (j := 3) (k := ((60 * i) + u)) d_MO_isIn_10 hA (by decide) rfl (by show ((60 * i) + u) < 1440; omega) ?_
  refine fr_st (st2 := [.int (bI (fs_in hu hg i u))]) (by rw [h3 i u hi hu2]) ?_
  exact fr_zret rfl (by first | exact bI_01 _ | exact Or.inl rfl | exact Or.inr rfl) d_MO_isIn_11 ⟨rfl, rfl⟩
theorem c_MO_reaches {g : fw_G} {nc ns : Nat} {w0 : fw_W} {mo : Nat} {ar : Nat → Nat} (hA : fm_ad mo ar) {th so pl po : Int32} {us n : Nat} {F : fm_F} {e v k fl : Nat} {fo : Bool} {pr : Option Nat} (he : e < 1800) (hv : v < 150) (hk : k < 150) (h15 : F 15 e = nI fl) (hfl : fl < 16) (h5 : F 5 k = bI fo) (h8 : F 8 k = fs_ov pr) (hpr : ∀ p, pr = some p → p < 150) : fw_R g m_MO_reaches (fw_pv (.int (bI (er fl (decide (k = v)) fo (decide (pr = some v))))) (fm_W g w0 mo ar (th, us, n, so, pl, po) F)) nc ns (fm_W g w0 mo ar (th, us, n, so, pl, po) F) 0 [(0, .ref mo), (1, .int (nI e)), (2, .int (nI v)), (3, .int (nI k))] [] := by
  obtain ⟨q0, q1, q2, q3⟩ := fl_and fl hfl
  refine fr_iload_n (pc := 0) d_MO_reaches_0 rfl rfl ?_
  refine fr_iload_n (pc := 1) d_MO_reaches_1 rfl rfl ?_
  refine fr_icmp_neN (pc := 2) (tgt := 22) (a := v) (b := k) d_MO_reaches_2 (by decide) (by omega) (by omega) (fun e1 => ?_) (fun e1 => ?_)
  · have e2 : ¬ k = v := fun z => e1 z.symm
    refine fr_aload_n (pc := 22) d_MO_reaches_22 rfl rfl ?_
    refine fr_get (pc := 23) (v := .ref (ar 15)) d_MO_reaches_23 fg_MO_60 fm_mo rfl ?_
    refine fr_iload_n (pc := 26) d_MO_reaches_26 rfl rfl ?_
    refine fr_mild (pc := 27) (j := 15) (k := e) d_MO_reaches_27 hA (by decide) rfl (by show e < 1800; omega) ?_
    refine fr_st (st2 := [.int (nI fl)]) (by rw [h15]) ?_
    refine fr_aload_n (pc := 28) d_MO_reaches_28 rfl rfl ?_
    refine fr_get (pc := 29) (v := .ref (ar 5)) d_MO_reaches_29 fg_MO_29 fm_mo rfl ?_
    refine fr_iload_n (pc := 32) d_MO_reaches_32 rfl rfl ?_
    refine fr_mzld (pc := 33) (j := 5) (k := k) d_MO_reaches_33 hA (by decide) rfl (by show k < 150; omega) ?_
    refine fr_st (st2 := [.int (bI fo), .int (nI fl)]) (by rw [h5]) ?_
    have e3 := fm_ov_eq hpr hv
    refine fr_if_eq (pc := 34) (tgt := 41) d_MO_reaches_34 (by decide) (fun y => ?_) (fun y => ?_)
    · have y2 := bI_0.mp y
      refine fr_iconst (pc := 41) (v := 4) d_MO_reaches_41 (by decide) ?_
      refine fr_iand (pc := 42) d_MO_reaches_42 ?_
      refine fr_if_eq (pc := 43) (tgt := 72) d_MO_reaches_43 (by decide) (fun z => ?_) (fun z => ?_)
      · refine fr_iconst (pc := 72) (v := 0) d_MO_reaches_72 (by decide) ?_
        refine fr_st (st2 := [.int (bI (er fl (decide (k = v)) fo (decide (pr = some v))))]) (by simp [er, e2, y2, q2.mp z, bI]) ?_
        exact fr_zret rfl (by first | exact bI_01 _ | exact Or.inl rfl | exact Or.inr rfl) d_MO_reaches_73 ⟨rfl, rfl⟩
      · have z2 := ts_nf (fun x => z (q2.mpr x))
        refine fr_aload_n (pc := 46) d_MO_reaches_46 rfl rfl ?_
        refine fr_get (pc := 47) (v := .ref (ar 15)) d_MO_reaches_47 fg_MO_60 fm_mo rfl ?_
        refine fr_iload_n (pc := 50) d_MO_reaches_50 rfl rfl ?_
        refine fr_mild (pc := 51) (j := 15) (k := e) d_MO_reaches_51 hA (by decide) rfl (by show e < 1800; omega) ?_
        refine fr_st (st2 := [.int (nI fl)]) (by rw [h15]) ?_
        refine fr_bipush (pc := 52) (v := 8) d_MO_reaches_52 (by decide) ?_
        refine fr_iand (pc := 54) d_MO_reaches_54 ?_
        refine fr_if_eq (pc := 55) (tgt := 68) d_MO_reaches_55 (by decide) (fun x => ?_) (fun x => ?_)
        · refine fr_iconst (pc := 68) (v := 1) d_MO_reaches_68 (by decide) ?_
          refine fr_goto (pc := 69) (tgt := 73) d_MO_reaches_69 (by decide) ?_
          refine fr_st (st2 := [.int (bI (er fl (decide (k = v)) fo (decide (pr = some v))))]) (by simp [er, e2, y2, z2, q3.mp x, bI]) ?_
          exact fr_zret rfl (by first | exact bI_01 _ | exact Or.inl rfl | exact Or.inr rfl) d_MO_reaches_73 ⟨rfl, rfl⟩
        · have x2 := ts_nf (fun u => x (q3.mpr u))
          refine fr_aload_n (pc := 58) d_MO_reaches_58 rfl rfl ?_
          refine fr_get (pc := 59) (v := .ref (ar 8)) d_MO_reaches_59 fg_MO_38 fm_mo rfl ?_
          refine fr_iload_n (pc := 62) d_MO_reaches_62 rfl rfl ?_
          refine fr_mild (pc := 63) (j := 8) (k := k) d_MO_reaches_63 hA (by decide) rfl (by show k < 150; omega) ?_
          refine fr_st (st2 := [.int (fs_ov pr)]) (by rw [h8]) ?_
          refine fr_iload_n (pc := 64) d_MO_reaches_64 rfl rfl ?_
          refine fr_icmp_ne (pc := 65) (tgt := 72) d_MO_reaches_65 (by decide) (fun w => ?_) (fun w => ?_)
          · have w2 : ¬ pr = some v := fun k => w (e3.mpr k)
            refine fr_iconst (pc := 72) (v := 0) d_MO_reaches_72 (by decide) ?_
            refine fr_st (st2 := [.int (bI (er fl (decide (k = v)) fo (decide (pr = some v))))]) (by simp [er, e2, y2, z2, x2, w2, bI]) ?_
            exact fr_zret rfl (by first | exact bI_01 _ | exact Or.inl rfl | exact Or.inr rfl) d_MO_reaches_73 ⟨rfl, rfl⟩
          · have w2 := e3.mp w
            refine fr_iconst (pc := 68) (v := 1) d_MO_reaches_68 (by decide) ?_
            refine fr_goto (pc := 69) (tgt := 73) d_MO_reaches_69 (by decide) ?_
            refine fr_st (st2 := [.int (bI (er fl (decide (k = v)) fo (decide (pr = some v))))]) (by simp [er, e2, y2, z2, x2, w2, bI]) ?_
            exact fr_zret rfl (by first | exact bI_01 _ | exact Or.inl rfl | exact Or.inr rfl) d_MO_reaches_73 ⟨rfl, rfl⟩
    · have y2 := ts_nf (fun x => y (bI_0.mpr x))
      refine fr_iconst (pc := 37) (v := 2) d_MO_reaches_37 (by decide) ?_
      refine fr_goto (pc := 38) (tgt := 42) d_MO_reaches_38 (by decide) ?_
      refine fr_iand (pc := 42) d_MO_reaches_42 ?_
      refine fr_if_eq (pc := 43) (tgt := 72) d_MO_reaches_43 (by decide) (fun z => ?_) (fun z => ?_)
      · refine fr_iconst (pc := 72) (v := 0) d_MO_reaches_72 (by decide) ?_
        refine fr_st (st2 := [.int (bI (er fl (decide (k = v)) fo (decide (pr = some v))))]) (by simp [er, e2, y2, q1.mp z, bI]) ?_
        exact fr_zret rfl (by first | exact bI_01 _ | exact Or.inl rfl | exact Or.inr rfl) d_MO_reaches_73 ⟨rfl, rfl⟩
      · have z2 := ts_nf (fun x => z (q1.mpr x))
        refine fr_aload_n (pc := 46) d_MO_reaches_46 rfl rfl ?_
        refine fr_get (pc := 47) (v := .ref (ar 15)) d_MO_reaches_47 fg_MO_60 fm_mo rfl ?_
        refine fr_iload_n (pc := 50) d_MO_reaches_50 rfl rfl ?_
        refine fr_mild (pc := 51) (j := 15) (k := e) d_MO_reaches_51 hA (by decide) rfl (by show e < 1800; omega) ?_
        refine fr_st (st2 := [.int (nI fl)]) (by rw [h15]) ?_
        refine fr_bipush (pc := 52) (v := 8) d_MO_reaches_52 (by decide) ?_
        refine fr_iand (pc := 54) d_MO_reaches_54 ?_
        refine fr_if_eq (pc := 55) (tgt := 68) d_MO_reaches_55 (by decide) (fun x => ?_) (fun x => ?_)
        · refine fr_iconst (pc := 68) (v := 1) d_MO_reaches_68 (by decide) ?_
          refine fr_goto (pc := 69) (tgt := 73) d_MO_reaches_69 (by decide) ?_
          refine fr_st (st2 := [.int (bI (er fl (decide (k = v)) fo (decide (pr = some v))))]) (by simp [er, e2, y2, z2, q3.mp x, bI]) ?_
          exact fr_zret rfl (by first | exact bI_01 _ | exact Or.inl rfl | exact Or.inr rfl) d_MO_reaches_73 ⟨rfl, rfl⟩
        · have x2 := ts_nf (fun u => x (q3.mpr u))
          refine fr_aload_n (pc := 58) d_MO_reaches_58 rfl rfl ?_
          refine fr_get (pc := 59) (v := .ref (ar 8)) d_MO_reaches_59 fg_MO_38 fm_mo rfl ?_
          refine fr_iload_n (pc := 62) d_MO_reaches_62 rfl rfl ?_
          refine fr_mild (pc := 63) (j := 8) (k := k) d_MO_reaches_63 hA (by decide) rfl (by show k < 150; omega) ?_
          refine fr_st (st2 := [.int (fs_ov pr)]) (by rw [h8]) ?_
          refine fr_iload_n (pc := 64) d_MO_reaches_64 rfl rfl ?_
          refine fr_icmp_ne (pc := 65) (tgt := 72) d_MO_reaches_65 (by decide) (fun w => ?_) (fun w => ?_)
          · have w2 : ¬ pr = some v := fun k => w (e3.mpr k)
            refine fr_iconst (pc := 72) (v := 0) d_MO_reaches_72 (by decide) ?_
            refine fr_st (st2 := [.int (bI (er fl (decide (k = v)) fo (decide (pr = some v))))]) (by simp [er, e2, y2, z2, x2, w2, bI]) ?_
            exact fr_zret rfl (by first | exact bI_01 _ | exact Or.inl rfl | exact Or.inr rfl) d_MO_reaches_73 ⟨rfl, rfl⟩
          · have w2 := e3.mp w
            refine fr_iconst (pc := 68) (v := 1) d_MO_reaches_68 (by decide) ?_
            refine fr_goto (pc := 69) (tgt := 73) d_MO_reaches_69 (by decide) ?_
            refine fr_st (st2 := [.int (bI (er fl (decide (k = v)) fo (decide (pr = some v))))]) (by simp [er, e2, y2, z2, x2, w2, bI]) ?_
            exact fr_zret rfl (by first | exact bI_01 _ | exact Or.inl rfl | exact Or.inr rfl) d_MO_reaches_73 ⟨rfl, rfl⟩
  · have e2 := e1.symm
    refine fr_aload_n (pc := 5) d_MO_reaches_5 rfl rfl ?_
    refine fr_get (pc := 6) (v := .ref (ar 15)) d_MO_reaches_6 fg_MO_60 fm_mo rfl ?_
    refine fr_iload_n (pc := 9) d_MO_reaches_9 rfl rfl ?_
    refine fr_mild (pc := 10) (j := 15) (k := e) d_MO_reaches_10 hA (by decide) rfl (by show e < 1800; omega) ?_
    refine fr_st (st2 := [.int (nI fl)]) (by rw [h15]) ?_
    refine fr_iconst (pc := 11) (v := 1) d_MO_reaches_11 (by decide) ?_
    refine fr_iand (pc := 12) d_MO_reaches_12 ?_
    refine fr_if_eq (pc := 13) (tgt := 20) d_MO_reaches_13 (by decide) (fun z => ?_) (fun z => ?_)
    · refine fr_iconst (pc := 20) (v := 0) d_MO_reaches_20 (by decide) ?_
      refine fr_st (st2 := [.int (bI (er fl (decide (k = v)) fo (decide (pr = some v))))]) (by simp [er, e2, q0.mp z, bI]) ?_
      exact fr_zret rfl (by first | exact bI_01 _ | exact Or.inl rfl | exact Or.inr rfl) d_MO_reaches_21 ⟨rfl, rfl⟩
    · have z2 := ts_nf (fun x => z (q0.mpr x))
      refine fr_iconst (pc := 16) (v := 1) d_MO_reaches_16 (by decide) ?_
      refine fr_goto (pc := 17) (tgt := 21) d_MO_reaches_17 (by decide) ?_
      refine fr_st (st2 := [.int (bI (er fl (decide (k = v)) fo (decide (pr = some v))))]) (by simp [er, e2, z2, bI]) ?_
      exact fr_zret rfl (by first | exact bI_01 _ | exact Or.inl rfl | exact Or.inr rfl) d_MO_reaches_21 ⟨rfl, rfl⟩
theorem c_MO_matches {g : fw_G} {nc ns : Nat} {w0 : fw_W} {mo : Nat} {ar : Nat → Nat} (hA : fm_ad mo ar) {th so pl po : Int32} {us n : Nat} {F : fm_F} {hu hg : Nat → Nat → Bool} (h3 : ∀ i u, i < 24 → u < 60 → F 3 (60 * i + u) = bI (fs_in hu hg i u)) {e u r bi wh : Nat} {ig : Bool} (he : e < 1800) (hu2 : u < 60) (hr : r < 8) (h14 : F 14 e = nI bi) (hbi : bi < 256) (h12 : F 12 e = bI ig) (h13 : F 13 e = nI wh) (hw : wh < 60) (hw2 : ig = true → wh < 24) : fw_R g m_MO_matches (fw_pv (.int (bI (bi.testBit r && (if ig then fs_in hu hg wh u else decide (wh = u))))) (fm_W g w0 mo ar (th, us, n, so, pl, po) F)) nc ns (fm_W g w0 mo ar (th, us, n, so, pl, po) F) 0 [(0, .ref mo), (1, .int (nI e)), (2, .int (nI u)), (3, .int (nI r))] [] := by
  refine fr_aload_n (pc := 0) d_MO_matches_0 rfl rfl ?_
  refine fr_get (pc := 1) (v := .ref (ar 14)) d_MO_matches_1 fg_MO_57 fm_mo rfl ?_
  refine fr_iload_n (pc := 4) d_MO_matches_4 rfl rfl ?_
  refine fr_mild (pc := 5) (j := 14) (k := e) d_MO_matches_5 hA (by decide) rfl (by show e < 1800; omega) ?_
  refine fr_st (st2 := [.int (nI bi)]) (by rw [h14]) ?_
  refine fr_iload_n (pc := 6) d_MO_matches_6 rfl rfl ?_
  refine fr_ishr (pc := 7) d_MO_matches_7 ?_
  refine fr_iconst (pc := 8) (v := 1) d_MO_matches_8 (by decide) ?_
  refine fr_iand (pc := 9) d_MO_matches_9 ?_
  refine fr_st (st2 := [.int (bI (bi.testBit r))]) (by rw [sh_tb bi hbi r hr]) ?_
  refine fr_iconst (pc := 10) (v := 1) d_MO_matches_10 (by decide) ?_
  refine fr_icmp_ne (pc := 11) (tgt := 54) d_MO_matches_11 (by decide) (fun z => ?_) (fun z => ?_)
  · have z2 : bi.testBit r = false := by cases hh : bi.testBit r with
      | false => rfl
      | true => exact absurd (bI_1.mpr hh) z
    refine fr_iconst (pc := 54) (v := 0) d_MO_matches_54 (by decide) ?_
    refine fr_st (st2 := [.int (bI (bi.testBit r && (if ig then fs_in hu hg wh u else decide (wh = u))))]) (by simp [z2, bI]) ?_
    exact fr_zret rfl (by first | exact bI_01 _ | exact Or.inl rfl | exact Or.inr rfl) d_MO_matches_55 ⟨rfl, rfl⟩
  · have z2 := bI_1.mp z
    refine fr_aload_n (pc := 14) d_MO_matches_14 rfl rfl ?_
    refine fr_get (pc := 15) (v := .ref (ar 12)) d_MO_matches_15 fg_MO_51 fm_mo rfl ?_
    refine fr_iload_n (pc := 18) d_MO_matches_18 rfl rfl ?_
    refine fr_mzld (pc := 19) (j := 12) (k := e) d_MO_matches_19 hA (by decide) rfl (by show e < 1800; omega) ?_
    refine fr_st (st2 := [.int (bI ig)]) (by rw [h12]) ?_
    refine fr_if_eq (pc := 20) (tgt := 40) d_MO_matches_20 (by decide) (fun y => ?_) (fun y => ?_)
    · have y2 := bI_0.mp y
      refine fr_aload_n (pc := 40) d_MO_matches_40 rfl rfl ?_
      refine fr_get (pc := 41) (v := .ref (ar 13)) d_MO_matches_41 fg_MO_54 fm_mo rfl ?_
      refine fr_iload_n (pc := 44) d_MO_matches_44 rfl rfl ?_
      refine fr_mild (pc := 45) (j := 13) (k := e) d_MO_matches_45 hA (by decide) rfl (by show e < 1800; omega) ?_
      refine fr_st (st2 := [.int (nI wh)]) (by rw [h13]) ?_
      refine fr_iload_n (pc := 46) d_MO_matches_46 rfl rfl ?_
      refine fr_icmp_neN (pc := 47) (tgt := 54) (a := wh) (b := u) d_MO_matches_47 (by decide) (by omega) (by omega) (fun x => ?_) (fun x => ?_)
      · refine fr_iconst (pc := 54) (v := 0) d_MO_matches_54 (by decide) ?_
        refine fr_st (st2 := [.int (bI (bi.testBit r && (if ig then fs_in hu hg wh u else decide (wh = u))))]) (by simp [z2, y2, x, bI]) ?_
        exact fr_zret rfl (by first | exact bI_01 _ | exact Or.inl rfl | exact Or.inr rfl) d_MO_matches_55 ⟨rfl, rfl⟩
      · refine fr_iconst (pc := 50) (v := 1) d_MO_matches_50 (by decide) ?_
        refine fr_goto (pc := 51) (tgt := 55) d_MO_matches_51 (by decide) ?_
        refine fr_st (st2 := [.int (bI (bi.testBit r && (if ig then fs_in hu hg wh u else decide (wh = u))))]) (by simp [z2, y2, x, bI]) ?_
        exact fr_zret rfl (by first | exact bI_01 _ | exact Or.inl rfl | exact Or.inr rfl) d_MO_matches_55 ⟨rfl, rfl⟩
    · have y2 := ts_nf (fun x => y (bI_0.mpr x))
      refine fr_aload_n (pc := 23) d_MO_matches_23 rfl rfl ?_
      refine fr_aload_n (pc := 24) d_MO_matches_24 rfl rfl ?_
      refine fr_get (pc := 25) (v := .ref (ar 13)) d_MO_matches_25 fg_MO_54 fm_mo rfl ?_
      refine fr_iload_n (pc := 28) d_MO_matches_28 rfl rfl ?_
      refine fr_mild (pc := 29) (j := 13) (k := e) d_MO_matches_29 hA (by decide) rfl (by show e < 1800; omega) ?_
      refine fr_st (st2 := [.int (nI wh), .ref mo]) (by rw [h13]) ?_
      refine fr_iload_n (pc := 30) d_MO_matches_30 rfl rfl ?_
      refine fr_callv_p (pc := 31) (nc := nc) (ns := ns) (N := m_MO_isIn) (rest := []) (as := [.int (nI wh), .int (nI u)]) d_MO_matches_31 vc_MO_120 ⟨by decide, by decide, Nat.le_of_ble_eq_true rfl⟩ (Nat.le_of_ble_eq_true rfl) fm_mo (c_MO_isIn hA h3 (hw2 y2) hu2) rfl ?_
      refine fr_if_eq (pc := 34) (tgt := 54) d_MO_matches_34 (by decide) (fun x => ?_) (fun x => ?_)
      · have x2 := bI_0.mp x
        refine fr_iconst (pc := 54) (v := 0) d_MO_matches_54 (by decide) ?_
        refine fr_st (st2 := [.int (bI (bi.testBit r && (if ig then fs_in hu hg wh u else decide (wh = u))))]) (by simp [z2, y2, x2, bI]) ?_
        exact fr_zret rfl (by first | exact bI_01 _ | exact Or.inl rfl | exact Or.inr rfl) d_MO_matches_55 ⟨rfl, rfl⟩
      · have x2 := ts_nf (fun z => x (bI_0.mpr z))
        refine fr_goto (pc := 37) (tgt := 50) d_MO_matches_37 (by decide) ?_
        refine fr_iconst (pc := 50) (v := 1) d_MO_matches_50 (by decide) ?_
        refine fr_goto (pc := 51) (tgt := 55) d_MO_matches_51 (by decide) ?_
        refine fr_st (st2 := [.int (bI (bi.testBit r && (if ig then fs_in hu hg wh u else decide (wh = u))))]) (by simp [z2, y2, x2, bI]) ?_
        exact fr_zret rfl (by first | exact bI_01 _ | exact Or.inl rfl | exact Or.inr rfl) d_MO_matches_55 ⟨rfl, rfl⟩
theorem fm_pr {us n : Nat} {nd : fs_D} (hok : fs_ok us n nd) {k p : Nat} {N : fs_N} (hk : nd k = some N) (hp : N.2.1 = some p) : p < 150 := by
  have h := (hok.2.2.2.2 k N hk).2.2.2.2.2.1
  cases hl : fs_ab nd k with
  | nil => rw [hl] at h; obtain ⟨M, h1, h2⟩ := h; rw [hk] at h1; cases h1; rw [hp] at h2; cases h2
  | cons q t =>
    rw [hl] at h
    obtain ⟨⟨M, h1, h2⟩, h3⟩ := h
    rw [hk] at h1; cases h1; rw [hp] at h2; cases h2
    obtain ⟨P, hP⟩ := fs_ch_some _ _ h3 p (Or.inl rfl)
    exact (hok.2.2.2.2 p P hP).1
theorem c_MO_first_l {g : fw_G} {nc ns : Nat} {w0 : fw_W} {mo : Nat} {ar : Nat → Nat} (hA : fm_ad mo ar) {th so pl po : Int32} {us n : Nat} {F : fm_F} {hu hg : Nat → Nat → Bool} {nd : fs_D} (hc : fm_c us n hu hg nd F) (hok : fs_ok us n nd) {k v u r : Nat} {N V : fs_N} {al : Bool} (hk : nd k = some N) (hv : nd v = some V) (hu2 : u < us) (hr : r < 8) : ∀ (t : List fs_E) (i : Nat), V.2.2.2.2.2.drop i = t → i ≤ V.2.2.2.2.2.length → ∀ L : List (Nat × Value), L = [(0, .ref mo), (1, .int (nI v)), (2, .int (nI k)), (3, .int (nI u)), (4, .int (nI r)), (5, .int (bI al)), (6, .int (nI i))] → fw_R g m_MO_first (fw_pv (.int (fs_ov (fs_fd (fun E => (E.1 == al) && fs_hit (fs_in hu hg) N k v r u E) t i))) (fm_W g w0 mo ar (th, us, n, so, pl, po) F)) nc ns (fm_W g w0 mo ar (th, us, n, so, pl, po) F) 3 L [] := by
  have hk150 := fm_k hok hk
  have hv150 := fm_k hok hv
  obtain ⟨-, -, -, hlen, heo, -⟩ := hok.2.2.2.2 v V hv
  have hus := hok.2.1
  have hn := hok.2.2.1
  have h10 := (hc.2.2.2.2.2.1 v V hv).2.2.2.2
  intro t
  induction t with
  | nil =>
    intro i ht hi L hL
    subst hL
    have hi2 : V.2.2.2.2.2.length ≤ i := List.drop_eq_nil_iff.mp ht
    refine fr_iload (pc := 3) d_MO_first_3 rfl ?_
    refine fr_aload_n (pc := 5) d_MO_first_5 rfl rfl ?_
    refine fr_get (pc := 6) (v := .ref (ar 10)) d_MO_first_6 fg_MO_45 fm_mo rfl ?_
    refine fr_iload_n (pc := 9) d_MO_first_9 rfl rfl ?_
    refine fr_mild (pc := 10) (j := 10) (k := v) d_MO_first_10 hA (by decide) rfl (by show v < 150; omega) ?_
    refine fr_st (st2 := [.int (nI V.2.2.2.2.2.length), .int (nI i)]) (by rw [h10]) ?_
    refine fr_icmp_geN (pc := 11) (tgt := 67) (a := i) (b := V.2.2.2.2.2.length) d_MO_first_11 (by decide) (by omega) (by omega) (fun _ => ?_) (fun q => absurd q (by omega))
    refine fr_iconst (pc := 67) (v := -1) d_MO_first_67 (by decide) ?_
    exact fr_iret rfl d_MO_first_68 ⟨rfl, rfl⟩
  | cons E t ih =>
    intro i ht hi L hL
    subst hL
    have hi2 : i < V.2.2.2.2.2.length := by
      rcases Nat.lt_or_ge i V.2.2.2.2.2.length with h | h
      · exact h
      · rw [List.drop_eq_nil_iff.mpr h] at ht; cases ht
    have hE : V.2.2.2.2.2[i]? = some E := by
      have e := congrArg (fun l => l[0]?) ht
      simp only [List.getElem?_drop, Nat.add_zero, List.getElem?_cons_zero] at e
      exact e
    have ht2 : V.2.2.2.2.2.drop (i + 1) = t := by
      have e := congrArg List.tail ht
      rwa [List.tail_drop, List.tail_cons] at e
    obtain ⟨c11, c12, c13, c14, c15⟩ := hc.2.2.2.2.2.2.1 v V i E hv hE
    obtain ⟨o1, o2, o3⟩ := heo E (List.mem_of_getElem? hE)
    have o4 : E.2.1 < 60 := by split at o1 <;> omega
    have o5 : E.2.2.1 = true → E.2.1 < 24 := fun z => by rw [if_pos z] at o1; omega
    refine fr_iload (pc := 3) d_MO_first_3 rfl ?_
    refine fr_aload_n (pc := 5) d_MO_first_5 rfl rfl ?_
    refine fr_get (pc := 6) (v := .ref (ar 10)) d_MO_first_6 fg_MO_45 fm_mo rfl ?_
    refine fr_iload_n (pc := 9) d_MO_first_9 rfl rfl ?_
    refine fr_mild (pc := 10) (j := 10) (k := v) d_MO_first_10 hA (by decide) rfl (by show v < 150; omega) ?_
    refine fr_st (st2 := [.int (nI V.2.2.2.2.2.length), .int (nI i)]) (by rw [h10]) ?_
    refine fr_icmp_geN (pc := 11) (tgt := 67) (a := i) (b := V.2.2.2.2.2.length) d_MO_first_11 (by decide) (by omega) (by omega) (fun q => absurd q (by omega)) (fun _ => ?_)
    refine fr_bipush (pc := 14) (v := 12) d_MO_first_14 (by decide) ?_
    refine fr_iload_n (pc := 16) d_MO_first_16 rfl rfl ?_
    refine fr_imulN (pc := 17) (a := 12) (b := v) d_MO_first_17 ?_
    refine fr_iload (pc := 18) d_MO_first_18 rfl ?_
    refine fr_iaddN (pc := 20) (a := (12 * v)) (b := i) d_MO_first_20 ?_
    refine fr_istore (pc := 21) (L2 := [(0, .ref mo), (1, .int (nI v)), (2, .int (nI k)), (3, .int (nI u)), (4, .int (nI r)), (5, .int (bI al)), (6, .int (nI i)), (7, .int (nI ((12 * v) + i)))]) d_MO_first_21 (by decide) rfl ?_
    refine fr_aload_n (pc := 23) d_MO_first_23 rfl rfl ?_
    refine fr_get (pc := 24) (v := .ref (ar 11)) d_MO_first_24 fg_MO_48 fm_mo rfl ?_
    refine fr_iload (pc := 27) d_MO_first_27 rfl ?_
    refine fr_mzld (pc := 29) (j := 11) (k := ((12 * v) + i)) d_MO_first_29 hA (by decide) rfl (by show ((12 * v) + i) < 1800; omega) ?_
    refine fr_st (st2 := [.int (bI E.1)]) (by rw [c11]) ?_
    refine fr_iload (pc := 30) d_MO_first_30 rfl ?_
    refine fr_icmp_ne (pc := 32) (tgt := 61) d_MO_first_32 (by decide) (fun z => ?_) (fun z => ?_)
    · have z2 : ¬ E.1 = al := fun q => z (by rw [q])
      refine fr_iinc (pc := 61) (v := (nI (i + 1))) (L2 := [(0, .ref mo), (1, .int (nI v)), (2, .int (nI k)), (3, .int (nI u)), (4, .int (nI r)), (5, .int (bI al)), (6, .int (nI (i + 1))), (7, .int (nI ((12 * v) + i)))]) d_MO_first_61 rfl (fi_1 _) (by decide) rfl ?_
      refine fr_goto (pc := 64) (tgt := 3) d_MO_first_64 (by decide) ?_
      have e : fs_fd (fun E => (E.1 == al) && fs_hit (fs_in hu hg) N k v r u E) (E :: t) i = fs_fd (fun E => (E.1 == al) && fs_hit (fs_in hu hg) N k v r u E) t (i + 1) := by
        have e2 : ((E.1 == al) && fs_hit (fs_in hu hg) N k v r u E) = false := by simp [z2]
        rw [fs_fd, e2]; simp
      rw [e]
      exact fr_Ld (ih (i + 1) ht2 (by omega) _ rfl)
    · have z2 : E.1 = al := bI_inj.mp z
      refine fr_aload_n (pc := 35) d_MO_first_35 rfl rfl ?_
      refine fr_iload (pc := 36) d_MO_first_36 rfl ?_
      refine fr_iload_n (pc := 38) d_MO_first_38 rfl rfl ?_
      refine fr_iload_n (pc := 39) d_MO_first_39 rfl rfl ?_
      refine fr_callv_p (pc := 40) (nc := nc) (ns := ns) (N := m_MO_reaches) (rest := []) (as := [.int (nI ((12 * v) + i)), .int (nI v), .int (nI k)]) d_MO_first_40 vc_MO_123 ⟨by decide, by decide, Nat.le_of_ble_eq_true rfl⟩ (Nat.le_of_ble_eq_true rfl) fm_mo (c_MO_reaches hA (by omega) hv150 hk150 c15 o3 (hc.2.2.2.2.2.1 k N hk).1 (hc.2.2.2.2.2.1 k N hk).2.2.1 (fun p hp => fm_pr hok hk hp)) rfl ?_
      refine fr_if_eq (pc := 43) (tgt := 61) d_MO_first_43 (by decide) (fun y => ?_) (fun y => ?_)
      · have y2 := bI_0.mp y
        refine fr_iinc (pc := 61) (v := (nI (i + 1))) (L2 := [(0, .ref mo), (1, .int (nI v)), (2, .int (nI k)), (3, .int (nI u)), (4, .int (nI r)), (5, .int (bI al)), (6, .int (nI (i + 1))), (7, .int (nI ((12 * v) + i)))]) d_MO_first_61 rfl (fi_1 _) (by decide) rfl ?_
        refine fr_goto (pc := 64) (tgt := 3) d_MO_first_64 (by decide) ?_
        have e : fs_fd (fun E => (E.1 == al) && fs_hit (fs_in hu hg) N k v r u E) (E :: t) i = fs_fd (fun E => (E.1 == al) && fs_hit (fs_in hu hg) N k v r u E) t (i + 1) := by
          have e2 : ((E.1 == al) && fs_hit (fs_in hu hg) N k v r u E) = false := by simp [fs_hit, fs_gr, y2]
          rw [fs_fd, e2]; simp
        rw [e]
        exact fr_Ld (ih (i + 1) ht2 (by omega) _ rfl)
      · have y2 := ts_nf (fun x => y (bI_0.mpr x))
        refine fr_aload_n (pc := 46) d_MO_first_46 rfl rfl ?_
        refine fr_iload (pc := 47) d_MO_first_47 rfl ?_
        refine fr_iload_n (pc := 49) d_MO_first_49 rfl rfl ?_
        refine fr_iload (pc := 50) d_MO_first_50 rfl ?_
        refine fr_callv_p (pc := 52) (nc := nc) (ns := ns) (N := m_MO_matches) (rest := []) (as := [.int (nI ((12 * v) + i)), .int (nI u), .int (nI r)]) d_MO_first_52 vc_MO_126 ⟨by decide, by decide, Nat.le_of_ble_eq_true rfl⟩ (Nat.le_of_ble_eq_true rfl) fm_mo (c_MO_matches hA hc.2.2.1 (by omega) (by omega) hr c14 o2 c12 c13 o4 o5) rfl ?_
        refine fr_if_eq (pc := 55) (tgt := 61) d_MO_first_55 (by decide) (fun x => ?_) (fun x => ?_)
        · have x2 := bI_0.mp x
          refine fr_iinc (pc := 61) (v := (nI (i + 1))) (L2 := [(0, .ref mo), (1, .int (nI v)), (2, .int (nI k)), (3, .int (nI u)), (4, .int (nI r)), (5, .int (bI al)), (6, .int (nI (i + 1))), (7, .int (nI ((12 * v) + i)))]) d_MO_first_61 rfl (fi_1 _) (by decide) rfl ?_
          refine fr_goto (pc := 64) (tgt := 3) d_MO_first_64 (by decide) ?_
          have e : fs_fd (fun E => (E.1 == al) && fs_hit (fs_in hu hg) N k v r u E) (E :: t) i = fs_fd (fun E => (E.1 == al) && fs_hit (fs_in hu hg) N k v r u E) t (i + 1) := by
            have e2 : ((E.1 == al) && fs_hit (fs_in hu hg) N k v r u E) = false := by rw [Bool.and_eq_false_iff] at x2; rcases x2 with x2 | x2 <;> simp [fs_hit, fs_gr, fs_mt, x2]
            rw [fs_fd, e2]; simp
          rw [e]
          exact fr_Ld (ih (i + 1) ht2 (by omega) _ rfl)
        · have x2 := ts_nf (fun z => x (bI_0.mpr z))
          refine fr_iload (pc := 58) d_MO_first_58 rfl ?_
          refine fr_st (st2 := [.int (fs_ov (fs_fd (fun E => (E.1 == al) && fs_hit (fs_in hu hg) N k v r u E) (E :: t) i))]) (by rw [Bool.and_eq_true] at x2; simp [fs_fd, fs_hit, fs_gr, fs_mt, x2.1, x2.2, y2, z2, fs_ov]) ?_
          exact fr_iret rfl d_MO_first_60 ⟨rfl, rfl⟩
theorem c_MO_first {g : fw_G} {nc ns : Nat} {w0 : fw_W} {mo : Nat} {ar : Nat → Nat} (hA : fm_ad mo ar) {th so pl po : Int32} {us n : Nat} {F : fm_F} {hu hg : Nat → Nat → Bool} {nd : fs_D} (hc : fm_c us n hu hg nd F) (hok : fs_ok us n nd) {k v u r : Nat} {N V : fs_N} {al : Bool} (hk : nd k = some N) (hv : nd v = some V) (hu2 : u < us) (hr : r < 8) : fw_R g m_MO_first (fw_pv (.int (fs_ov (fs_fd (fun E => (E.1 == al) && fs_hit (fs_in hu hg) N k v r u E) V.2.2.2.2.2 0))) (fm_W g w0 mo ar (th, us, n, so, pl, po) F)) nc ns (fm_W g w0 mo ar (th, us, n, so, pl, po) F) 0 [(0, .ref mo), (1, .int (nI v)), (2, .int (nI k)), (3, .int (nI u)), (4, .int (nI r)), (5, .int (bI al))] [] := by
  refine fr_iconst (pc := 0) (v := 0) d_MO_first_0 (by decide) ?_
  refine fr_istore (pc := 1) (L2 := [(0, .ref mo), (1, .int (nI v)), (2, .int (nI k)), (3, .int (nI u)), (4, .int (nI r)), (5, .int (bI al)), (6, .int 0)]) d_MO_first_1 (by decide) rfl ?_
  exact c_MO_first_l hA hc hok hk hv hu2 hr _ 0 rfl (Nat.zero_le _) _ rfl
theorem fs_dc_s {nd : fs_D} {inn : Nat → Nat → Bool} {N : fs_N} {n r u v : Nat} {t : List Nat} {q : Nat × Bool} (h : fs_lv1 (fs_hit inn N n v r u) (fs_es nd v) = some q) : fs_dc nd inn N n r u (v :: t) = some (v, q) := by
  simp only [fs_dc, h]
theorem fs_dc_n {nd : fs_D} {inn : Nat → Nat → Bool} {N : fs_N} {n r u v : Nat} {t : List Nat} (h : fs_lv1 (fs_hit inn N n v r u) (fs_es nd v) = none) : fs_dc nd inn N n r u (v :: t) = fs_dc nd inn N n r u t := by
  simp only [fs_dc, h]
theorem fs_lv_c {nd : fs_D} {v : Nat} {t : List Nat} : fs_lv nd (v :: t) = v :: (if fs_bl nd v = true then [] else fs_lv nd t) := rfl
theorem c_MO_dec_n {g : fw_G} {nc ns : Nat} {w0 : fw_W} {mo : Nat} {ar : Nat → Nat} (hA : fm_ad mo ar) {th : Int32} {us n : Nat} {F : fm_F} {hu hg : Nat → Nat → Bool} {nd : fs_D} (hc : fm_c us n hu hg nd F) (hok : fs_ok us n nd) {k u r : Nat} {N : fs_N} (hk : nd k = some N) (hu2 : u < us) (hr : r < 8) : fw_R g m_MO_decide (fw_pv (.int (bI (fs_yes (fs_dc nd (fs_in hu hg) N k r u [])))) (fm_W g w0 mo ar (th, us, n, fs_xx (fs_dc nd (fs_in hu hg) N k r u []) 0, fs_xx (fs_dc nd (fs_in hu hg) N k r u []) 1, fs_xx (fs_dc nd (fs_in hu hg) N k r u []) 2) F)) nc ns (fm_W g w0 mo ar (th, us, n, 0, nI k, -1) F) 36 [(0, .ref mo), (1, .int (nI u)), (2, .int (nI k)), (3, .int (nI r)), (4, .int (-1))] [] := by
  refine fr_iload (pc := 36) d_MO_decide_36 rfl ?_
  refine fr_iconst (pc := 38) (v := -1) d_MO_decide_38 (by decide) ?_
  refine fr_icmp_eq (pc := 39) (tgt := 154) d_MO_decide_39 (by decide) (fun _ => ?_) (fun q => absurd q (by decide))
  refine fr_aload_n (pc := 154) d_MO_decide_154 rfl rfl ?_
  refine fr_iconst (pc := 155) (v := -1) d_MO_decide_155 (by decide) ?_
  refine fr_mput (pc := 156) (th, us, n, 0, (-1), (-1)) d_MO_decide_156 fp_MO_decide_129 (by decide) rfl rfl rfl ?_
  refine fr_aload_n (pc := 159) d_MO_decide_159 rfl rfl ?_
  refine fr_iconst (pc := 160) (v := 3) d_MO_decide_160 (by decide) ?_
  refine fr_mput (pc := 161) (th, us, n, 3, (-1), (-1)) d_MO_decide_161 fp_MO_decide_135 (by decide) rfl rfl rfl ?_
  refine fr_iconst (pc := 164) (v := 0) d_MO_decide_164 (by decide) ?_
  exact fr_zret rfl (by first | exact bI_01 _ | exact Or.inl rfl | exact Or.inr rfl) d_MO_decide_165 ⟨rfl, rfl⟩
theorem c_MO_dec_l {g : fw_G} {nc ns : Nat} {w0 : fw_W} {mo : Nat} {ar : Nat → Nat} (hA : fm_ad mo ar) {th : Int32} {us n : Nat} {F : fm_F} {hu hg : Nat → Nat → Bool} {nd : fs_D} (hc : fm_c us n hu hg nd F) (hok : fs_ok us n nd) {k u r : Nat} {N : fs_N} (hk : nd k = some N) (hu2 : u < us) (hr : r < 8) : ∀ (l : List Nat) (v : Nat), fs_ch nd v l → fw_R g m_MO_decide (fw_pv (.int (bI (fs_yes (fs_dc nd (fs_in hu hg) N k r u (fs_lv nd (v :: l)))))) (fm_W g w0 mo ar (th, us, n, fs_xx (fs_dc nd (fs_in hu hg) N k r u (fs_lv nd (v :: l))) 0, fs_xx (fs_dc nd (fs_in hu hg) N k r u (fs_lv nd (v :: l))) 1, fs_xx (fs_dc nd (fs_in hu hg) N k r u (fs_lv nd (v :: l))) 2) F)) nc ns (fm_W g w0 mo ar (th, us, n, 0, nI k, -1) F) 36 [(0, .ref mo), (1, .int (nI u)), (2, .int (nI k)), (3, .int (nI r)), (4, .int (nI v))] [] := by
  have hk150 := fm_k hok hk
  intro l
  induction l with
  | nil =>
    intro v h
    obtain ⟨V, hv, hV⟩ := h
    have hv150 := fm_k hok hv
    obtain ⟨-, -, -, hlen, -, -⟩ := hok.2.2.2.2 v V hv
    obtain ⟨-, c6, c8, -, -⟩ := hc.2.2.2.2.2.1 v V hv
    have hes : fs_es nd v = V.2.2.2.2.2 := by simp [fs_es, hv]
    have hbl : fs_bl nd v = V.2.2.2.1 := by simp [fs_bl, hv]
    refine fr_iload (pc := 36) d_MO_decide_36 rfl ?_
    refine fr_iconst (pc := 38) (v := -1) d_MO_decide_38 (by decide) ?_
    refine fr_icmp_eq (pc := 39) (tgt := 154) d_MO_decide_39 (by decide) (fun q => absurd q (ni_m1 (by omega))) (fun _ => ?_)
    refine fr_aload_n (pc := 42) d_MO_decide_42 rfl rfl ?_
    refine fr_iload (pc := 43) d_MO_decide_43 rfl ?_
    refine fr_iload_n (pc := 45) d_MO_decide_45 rfl rfl ?_
    refine fr_iload_n (pc := 46) d_MO_decide_46 rfl rfl ?_
    refine fr_iload_n (pc := 47) d_MO_decide_47 rfl rfl ?_
    refine fr_iconst (pc := 48) (v := 0) d_MO_decide_48 (by decide) ?_
    refine fr_callv_p (pc := 49) (nc := nc) (ns := ns) (N := m_MO_first) (rest := []) (as := [.int (nI v), .int (nI k), .int (nI u), .int (nI r), .int 0]) d_MO_decide_49 vc_MO_138 ⟨by decide, by decide, Nat.le_of_ble_eq_true rfl⟩ (Nat.le_of_ble_eq_true rfl) fm_mo (c_MO_first hA hc hok (al := false) hk hv hu2 hr) rfl ?_
    refine fr_istore (pc := 52) (L2 := [(0, .ref mo), (1, .int (nI u)), (2, .int (nI k)), (3, .int (nI r)), (4, .int (nI v)), (5, .int (fs_ov (fs_fd (fun E => (E.1 == false) && fs_hit (fs_in hu hg) N k v r u E) V.2.2.2.2.2 0)))]) d_MO_decide_52 (by decide) rfl ?_
    refine fr_aload_n (pc := 54) d_MO_decide_54 rfl rfl ?_
    refine fr_iload (pc := 55) d_MO_decide_55 rfl ?_
    refine fr_iload_n (pc := 57) d_MO_decide_57 rfl rfl ?_
    refine fr_iload_n (pc := 58) d_MO_decide_58 rfl rfl ?_
    refine fr_iload_n (pc := 59) d_MO_decide_59 rfl rfl ?_
    refine fr_iconst (pc := 60) (v := 1) d_MO_decide_60 (by decide) ?_
    refine fr_callv_p (pc := 61) (nc := nc) (ns := ns) (N := m_MO_first) (rest := []) (as := [.int (nI v), .int (nI k), .int (nI u), .int (nI r), .int 1]) d_MO_decide_61 vc_MO_138 ⟨by decide, by decide, Nat.le_of_ble_eq_true rfl⟩ (Nat.le_of_ble_eq_true rfl) fm_mo (c_MO_first hA hc hok (al := true) hk hv hu2 hr) rfl ?_
    refine fr_istore (pc := 64) (L2 := [(0, .ref mo), (1, .int (nI u)), (2, .int (nI k)), (3, .int (nI r)), (4, .int (nI v)), (5, .int (fs_ov (fs_fd (fun E => (E.1 == false) && fs_hit (fs_in hu hg) N k v r u E) V.2.2.2.2.2 0))), (6, .int (fs_ov (fs_fd (fun E => (E.1 == true) && fs_hit (fs_in hu hg) N k v r u E) V.2.2.2.2.2 0)))]) d_MO_decide_64 (by decide) rfl ?_
    refine fr_iload (pc := 66) d_MO_decide_66 rfl ?_
    refine fr_iconst (pc := 68) (v := -1) d_MO_decide_68 (by decide) ?_
    cases hf : (fs_fd (fun E => (E.1 == false) && fs_hit (fs_in hu hg) N k v r u E) V.2.2.2.2.2 0) with
    | some d =>
      obtain ⟨-, E1, hE1, -⟩ := fs_fd_at _ _ _ hf
      have hd12 : d < 12 := by have := (List.getElem?_eq_some_iff.mp hE1).1; omega
      have e1 : (fs_dc nd (fs_in hu hg) N k r u (fs_lv nd (v :: []))) = some (v, d, false) := by rw [fs_lv_c]; exact fs_dc_s (by rw [hes]; simp only [fs_lv1, hf])
      rw [e1]
      refine fr_icmp_ne (pc := 69) (tgt := 78) d_MO_decide_69 (by decide) (fun _ => ?_) (fun q => absurd q (ni_m1 (by omega)))
      refine fr_aload_n (pc := 78) d_MO_decide_78 rfl rfl ?_
      refine fr_iload (pc := 79) d_MO_decide_79 rfl ?_
      refine fr_mput (pc := 81) (th, us, n, 0, (nI v), (-1)) d_MO_decide_81 fp_MO_decide_129 (by decide) rfl rfl rfl ?_
      refine fr_aload_n (pc := 84) d_MO_decide_84 rfl rfl ?_
      refine fr_iload (pc := 85) d_MO_decide_85 rfl ?_
      refine fr_iconst (pc := 87) (v := -1) d_MO_decide_87 (by decide) ?_
      refine fr_icmp_eq (pc := 88) (tgt := 96) d_MO_decide_88 (by decide) (fun q => absurd q (ni_m1 (by omega))) (fun _ => ?_)
      refine fr_iload (pc := 91) d_MO_decide_91 rfl ?_
      refine fr_goto (pc := 93) (tgt := 98) d_MO_decide_93 (by decide) ?_
      refine fr_mput (pc := 98) (th, us, n, 0, (nI v), (nI d)) d_MO_decide_98 fp_MO_decide_132 (by decide) rfl rfl rfl ?_
      refine fr_aload_n (pc := 101) d_MO_decide_101 rfl rfl ?_
      refine fr_iload (pc := 102) d_MO_decide_102 rfl ?_
      refine fr_iconst (pc := 104) (v := -1) d_MO_decide_104 (by decide) ?_
      refine fr_icmp_eq (pc := 105) (tgt := 112) d_MO_decide_105 (by decide) (fun q => absurd q (ni_m1 (by omega))) (fun _ => ?_)
      refine fr_iconst (pc := 108) (v := 2) d_MO_decide_108 (by decide) ?_
      refine fr_goto (pc := 109) (tgt := 113) d_MO_decide_109 (by decide) ?_
      refine fr_mput (pc := 113) (th, us, n, 2, (nI v), (nI d)) d_MO_decide_113 fp_MO_decide_135 (by decide) rfl rfl rfl ?_
      refine fr_iload (pc := 116) d_MO_decide_116 rfl ?_
      refine fr_iconst (pc := 118) (v := -1) d_MO_decide_118 (by decide) ?_
      refine fr_icmp_ne (pc := 119) (tgt := 126) d_MO_decide_119 (by decide) (fun _ => ?_) (fun q => absurd q (ni_m1 (by omega)))
      refine fr_iconst (pc := 126) (v := 0) d_MO_decide_126 (by decide) ?_
      exact fr_zret rfl (by first | exact bI_01 _ | exact Or.inl rfl | exact Or.inr rfl) d_MO_decide_127 ⟨rfl, rfl⟩
    | none =>
      refine fr_icmp_ne (pc := 69) (tgt := 78) d_MO_decide_69 (by decide) (fun q => absurd q (by decide)) (fun _ => ?_)
      refine fr_iload (pc := 72) d_MO_decide_72 rfl ?_
      refine fr_iconst (pc := 74) (v := -1) d_MO_decide_74 (by decide) ?_
      cases hg2 : (fs_fd (fun E => (E.1 == true) && fs_hit (fs_in hu hg) N k v r u E) V.2.2.2.2.2 0) with
      | some d =>
        obtain ⟨-, E1, hE1, -⟩ := fs_fd_at _ _ _ hg2
        have hd12 : d < 12 := by have := (List.getElem?_eq_some_iff.mp hE1).1; omega
        have e1 : (fs_dc nd (fs_in hu hg) N k r u (fs_lv nd (v :: []))) = some (v, d, true) := by rw [fs_lv_c]; exact fs_dc_s (by rw [hes]; simp only [fs_lv1, hf, hg2, Option.map_some])
        rw [e1]
        refine fr_icmp_eq (pc := 75) (tgt := 128) d_MO_decide_75 (by decide) (fun q => absurd q (ni_m1 (by omega))) (fun _ => ?_)
        refine fr_aload_n (pc := 78) d_MO_decide_78 rfl rfl ?_
        refine fr_iload (pc := 79) d_MO_decide_79 rfl ?_
        refine fr_mput (pc := 81) (th, us, n, 0, (nI v), (-1)) d_MO_decide_81 fp_MO_decide_129 (by decide) rfl rfl rfl ?_
        refine fr_aload_n (pc := 84) d_MO_decide_84 rfl rfl ?_
        refine fr_iload (pc := 85) d_MO_decide_85 rfl ?_
        refine fr_iconst (pc := 87) (v := -1) d_MO_decide_87 (by decide) ?_
        refine fr_icmp_eq (pc := 88) (tgt := 96) d_MO_decide_88 (by decide) (fun _ => ?_) (fun q => absurd q (by decide))
        refine fr_iload (pc := 96) d_MO_decide_96 rfl ?_
        refine fr_mput (pc := 98) (th, us, n, 0, (nI v), (nI d)) d_MO_decide_98 fp_MO_decide_132 (by decide) rfl rfl rfl ?_
        refine fr_aload_n (pc := 101) d_MO_decide_101 rfl rfl ?_
        refine fr_iload (pc := 102) d_MO_decide_102 rfl ?_
        refine fr_iconst (pc := 104) (v := -1) d_MO_decide_104 (by decide) ?_
        refine fr_icmp_eq (pc := 105) (tgt := 112) d_MO_decide_105 (by decide) (fun _ => ?_) (fun q => absurd q (by decide))
        refine fr_iconst (pc := 112) (v := 1) d_MO_decide_112 (by decide) ?_
        refine fr_mput (pc := 113) (th, us, n, 1, (nI v), (nI d)) d_MO_decide_113 fp_MO_decide_135 (by decide) rfl rfl rfl ?_
        refine fr_iload (pc := 116) d_MO_decide_116 rfl ?_
        refine fr_iconst (pc := 118) (v := -1) d_MO_decide_118 (by decide) ?_
        refine fr_icmp_ne (pc := 119) (tgt := 126) d_MO_decide_119 (by decide) (fun q => absurd q (by decide)) (fun _ => ?_)
        refine fr_iconst (pc := 122) (v := 1) d_MO_decide_122 (by decide) ?_
        refine fr_goto (pc := 123) (tgt := 127) d_MO_decide_123 (by decide) ?_
        exact fr_zret rfl (by first | exact bI_01 _ | exact Or.inl rfl | exact Or.inr rfl) d_MO_decide_127 ⟨rfl, rfl⟩
      | none =>
        refine fr_icmp_eq (pc := 75) (tgt := 128) d_MO_decide_75 (by decide) (fun _ => ?_) (fun q => absurd q (by decide))
        refine fr_aload_n (pc := 128) d_MO_decide_128 rfl rfl ?_
        refine fr_get (pc := 129) (v := .ref (ar 6)) d_MO_decide_129 fg_MO_32 fm_mo rfl ?_
        refine fr_iload (pc := 132) d_MO_decide_132 rfl ?_
        refine fr_mzld (pc := 134) (j := 6) (k := v) d_MO_decide_134 hA (by decide) rfl (by show v < 150; omega) ?_
        have e1 : (fs_dc nd (fs_in hu hg) N k r u (fs_lv nd (v :: []))) = (fs_dc nd (fs_in hu hg) N k r u (if V.2.2.2.1 = true then [] else fs_lv nd [])) := by rw [fs_lv_c, hbl]; exact fs_dc_n (by rw [hes]; simp only [fs_lv1, hf, hg2, Option.map_none])
        rw [e1]
        refine fr_st (st2 := [.int (bI V.2.2.2.1)]) (by rw [c6]) ?_
        refine fr_if_eq (pc := 135) (tgt := 142) d_MO_decide_135 (by decide) (fun y => ?_) (fun y => ?_)
        · have y2 : ¬ V.2.2.2.1 = true := by rw [bI_0.mp y]; decide
          rw [if_neg y2]
          refine fr_aload_n (pc := 142) d_MO_decide_142 rfl rfl ?_
          refine fr_get (pc := 143) (v := .ref (ar 8)) d_MO_decide_143 fg_MO_38 fm_mo rfl ?_
          refine fr_iload (pc := 146) d_MO_decide_146 rfl ?_
          refine fr_mild (pc := 148) (j := 8) (k := v) d_MO_decide_148 hA (by decide) rfl (by show v < 150; omega) ?_
          refine fr_st (st2 := [.int (-1)]) (by rw [c8, hV]; rfl) ?_
          refine fr_istore (pc := 149) (L2 := [(0, .ref mo), (1, .int (nI u)), (2, .int (nI k)), (3, .int (nI r)), (4, .int (-1)), (5, .int (-1)), (6, .int (-1))]) d_MO_decide_149 (by decide) rfl ?_
          refine fr_goto (pc := 151) (tgt := 36) d_MO_decide_151 (by decide) ?_
          exact fr_Ld (fr_Ld (c_MO_dec_n hA hc hok hk hu2 hr))
        · have y2 := ts_nf (fun x => y (bI_0.mpr x))
          rw [if_pos y2]
          refine fr_iconst (pc := 138) (v := -1) d_MO_decide_138 (by decide) ?_
          refine fr_goto (pc := 139) (tgt := 149) d_MO_decide_139 (by decide) ?_
          refine fr_istore (pc := 149) (L2 := [(0, .ref mo), (1, .int (nI u)), (2, .int (nI k)), (3, .int (nI r)), (4, .int (-1)), (5, .int (-1)), (6, .int (-1))]) d_MO_decide_149 (by decide) rfl ?_
          refine fr_goto (pc := 151) (tgt := 36) d_MO_decide_151 (by decide) ?_
          exact fr_Ld (fr_Ld (c_MO_dec_n hA hc hok hk hu2 hr))
  | cons p t ih =>
    intro v h
    obtain ⟨⟨V, hv, hV⟩, h3⟩ := h
    obtain ⟨P, hP⟩ := fs_ch_some _ _ h3 p (Or.inl rfl)
    have hp150 := fm_k hok hP
    have hv150 := fm_k hok hv
    obtain ⟨-, -, -, hlen, -, -⟩ := hok.2.2.2.2 v V hv
    obtain ⟨-, c6, c8, -, -⟩ := hc.2.2.2.2.2.1 v V hv
    have hes : fs_es nd v = V.2.2.2.2.2 := by simp [fs_es, hv]
    have hbl : fs_bl nd v = V.2.2.2.1 := by simp [fs_bl, hv]
    refine fr_iload (pc := 36) d_MO_decide_36 rfl ?_
    refine fr_iconst (pc := 38) (v := -1) d_MO_decide_38 (by decide) ?_
    refine fr_icmp_eq (pc := 39) (tgt := 154) d_MO_decide_39 (by decide) (fun q => absurd q (ni_m1 (by omega))) (fun _ => ?_)
    refine fr_aload_n (pc := 42) d_MO_decide_42 rfl rfl ?_
    refine fr_iload (pc := 43) d_MO_decide_43 rfl ?_
    refine fr_iload_n (pc := 45) d_MO_decide_45 rfl rfl ?_
    refine fr_iload_n (pc := 46) d_MO_decide_46 rfl rfl ?_
    refine fr_iload_n (pc := 47) d_MO_decide_47 rfl rfl ?_
    refine fr_iconst (pc := 48) (v := 0) d_MO_decide_48 (by decide) ?_
    refine fr_callv_p (pc := 49) (nc := nc) (ns := ns) (N := m_MO_first) (rest := []) (as := [.int (nI v), .int (nI k), .int (nI u), .int (nI r), .int 0]) d_MO_decide_49 vc_MO_138 ⟨by decide, by decide, Nat.le_of_ble_eq_true rfl⟩ (Nat.le_of_ble_eq_true rfl) fm_mo (c_MO_first hA hc hok (al := false) hk hv hu2 hr) rfl ?_
    refine fr_istore (pc := 52) (L2 := [(0, .ref mo), (1, .int (nI u)), (2, .int (nI k)), (3, .int (nI r)), (4, .int (nI v)), (5, .int (fs_ov (fs_fd (fun E => (E.1 == false) && fs_hit (fs_in hu hg) N k v r u E) V.2.2.2.2.2 0)))]) d_MO_decide_52 (by decide) rfl ?_
    refine fr_aload_n (pc := 54) d_MO_decide_54 rfl rfl ?_
    refine fr_iload (pc := 55) d_MO_decide_55 rfl ?_
    refine fr_iload_n (pc := 57) d_MO_decide_57 rfl rfl ?_
    refine fr_iload_n (pc := 58) d_MO_decide_58 rfl rfl ?_
    refine fr_iload_n (pc := 59) d_MO_decide_59 rfl rfl ?_
    refine fr_iconst (pc := 60) (v := 1) d_MO_decide_60 (by decide) ?_
    refine fr_callv_p (pc := 61) (nc := nc) (ns := ns) (N := m_MO_first) (rest := []) (as := [.int (nI v), .int (nI k), .int (nI u), .int (nI r), .int 1]) d_MO_decide_61 vc_MO_138 ⟨by decide, by decide, Nat.le_of_ble_eq_true rfl⟩ (Nat.le_of_ble_eq_true rfl) fm_mo (c_MO_first hA hc hok (al := true) hk hv hu2 hr) rfl ?_
    refine fr_istore (pc := 64) (L2 := [(0, .ref mo), (1, .int (nI u)), (2, .int (nI k)), (3, .int (nI r)), (4, .int (nI v)), (5, .int (fs_ov (fs_fd (fun E => (E.1 == false) && fs_hit (fs_in hu hg) N k v r u E) V.2.2.2.2.2 0))), (6, .int (fs_ov (fs_fd (fun E => (E.1 == true) && fs_hit (fs_in hu hg) N k v r u E) V.2.2.2.2.2 0)))]) d_MO_decide_64 (by decide) rfl ?_
    refine fr_iload (pc := 66) d_MO_decide_66 rfl ?_
    refine fr_iconst (pc := 68) (v := -1) d_MO_decide_68 (by decide) ?_
    cases hf : (fs_fd (fun E => (E.1 == false) && fs_hit (fs_in hu hg) N k v r u E) V.2.2.2.2.2 0) with
    | some d =>
      obtain ⟨-, E1, hE1, -⟩ := fs_fd_at _ _ _ hf
      have hd12 : d < 12 := by have := (List.getElem?_eq_some_iff.mp hE1).1; omega
      have e1 : (fs_dc nd (fs_in hu hg) N k r u (fs_lv nd (v :: p :: t))) = some (v, d, false) := by rw [fs_lv_c]; exact fs_dc_s (by rw [hes]; simp only [fs_lv1, hf])
      rw [e1]
      refine fr_icmp_ne (pc := 69) (tgt := 78) d_MO_decide_69 (by decide) (fun _ => ?_) (fun q => absurd q (ni_m1 (by omega)))
      refine fr_aload_n (pc := 78) d_MO_decide_78 rfl rfl ?_
      refine fr_iload (pc := 79) d_MO_decide_79 rfl ?_
      refine fr_mput (pc := 81) (th, us, n, 0, (nI v), (-1)) d_MO_decide_81 fp_MO_decide_129 (by decide) rfl rfl rfl ?_
      refine fr_aload_n (pc := 84) d_MO_decide_84 rfl rfl ?_
      refine fr_iload (pc := 85) d_MO_decide_85 rfl ?_
      refine fr_iconst (pc := 87) (v := -1) d_MO_decide_87 (by decide) ?_
      refine fr_icmp_eq (pc := 88) (tgt := 96) d_MO_decide_88 (by decide) (fun q => absurd q (ni_m1 (by omega))) (fun _ => ?_)
      refine fr_iload (pc := 91) d_MO_decide_91 rfl ?_
      refine fr_goto (pc := 93) (tgt := 98) d_MO_decide_93 (by decide) ?_
      refine fr_mput (pc := 98) (th, us, n, 0, (nI v), (nI d)) d_MO_decide_98 fp_MO_decide_132 (by decide) rfl rfl rfl ?_
      refine fr_aload_n (pc := 101) d_MO_decide_101 rfl rfl ?_
      refine fr_iload (pc := 102) d_MO_decide_102 rfl ?_
      refine fr_iconst (pc := 104) (v := -1) d_MO_decide_104 (by decide) ?_
      refine fr_icmp_eq (pc := 105) (tgt := 112) d_MO_decide_105 (by decide) (fun q => absurd q (ni_m1 (by omega))) (fun _ => ?_)
      refine fr_iconst (pc := 108) (v := 2) d_MO_decide_108 (by decide) ?_
      refine fr_goto (pc := 109) (tgt := 113) d_MO_decide_109 (by decide) ?_
      refine fr_mput (pc := 113) (th, us, n, 2, (nI v), (nI d)) d_MO_decide_113 fp_MO_decide_135 (by decide) rfl rfl rfl ?_
      refine fr_iload (pc := 116) d_MO_decide_116 rfl ?_
      refine fr_iconst (pc := 118) (v := -1) d_MO_decide_118 (by decide) ?_
      refine fr_icmp_ne (pc := 119) (tgt := 126) d_MO_decide_119 (by decide) (fun _ => ?_) (fun q => absurd q (ni_m1 (by omega)))
      refine fr_iconst (pc := 126) (v := 0) d_MO_decide_126 (by decide) ?_
      exact fr_zret rfl (by first | exact bI_01 _ | exact Or.inl rfl | exact Or.inr rfl) d_MO_decide_127 ⟨rfl, rfl⟩
    | none =>
      refine fr_icmp_ne (pc := 69) (tgt := 78) d_MO_decide_69 (by decide) (fun q => absurd q (by decide)) (fun _ => ?_)
      refine fr_iload (pc := 72) d_MO_decide_72 rfl ?_
      refine fr_iconst (pc := 74) (v := -1) d_MO_decide_74 (by decide) ?_
      cases hg2 : (fs_fd (fun E => (E.1 == true) && fs_hit (fs_in hu hg) N k v r u E) V.2.2.2.2.2 0) with
      | some d =>
        obtain ⟨-, E1, hE1, -⟩ := fs_fd_at _ _ _ hg2
        have hd12 : d < 12 := by have := (List.getElem?_eq_some_iff.mp hE1).1; omega
        have e1 : (fs_dc nd (fs_in hu hg) N k r u (fs_lv nd (v :: p :: t))) = some (v, d, true) := by rw [fs_lv_c]; exact fs_dc_s (by rw [hes]; simp only [fs_lv1, hf, hg2, Option.map_some])
        rw [e1]
        refine fr_icmp_eq (pc := 75) (tgt := 128) d_MO_decide_75 (by decide) (fun q => absurd q (ni_m1 (by omega))) (fun _ => ?_)
        refine fr_aload_n (pc := 78) d_MO_decide_78 rfl rfl ?_
        refine fr_iload (pc := 79) d_MO_decide_79 rfl ?_
        refine fr_mput (pc := 81) (th, us, n, 0, (nI v), (-1)) d_MO_decide_81 fp_MO_decide_129 (by decide) rfl rfl rfl ?_
        refine fr_aload_n (pc := 84) d_MO_decide_84 rfl rfl ?_
        refine fr_iload (pc := 85) d_MO_decide_85 rfl ?_
        refine fr_iconst (pc := 87) (v := -1) d_MO_decide_87 (by decide) ?_
        refine fr_icmp_eq (pc := 88) (tgt := 96) d_MO_decide_88 (by decide) (fun _ => ?_) (fun q => absurd q (by decide))
        refine fr_iload (pc := 96) d_MO_decide_96 rfl ?_
        refine fr_mput (pc := 98) (th, us, n, 0, (nI v), (nI d)) d_MO_decide_98 fp_MO_decide_132 (by decide) rfl rfl rfl ?_
        refine fr_aload_n (pc := 101) d_MO_decide_101 rfl rfl ?_
        refine fr_iload (pc := 102) d_MO_decide_102 rfl ?_
        refine fr_iconst (pc := 104) (v := -1) d_MO_decide_104 (by decide) ?_
        refine fr_icmp_eq (pc := 105) (tgt := 112) d_MO_decide_105 (by decide) (fun _ => ?_) (fun q => absurd q (by decide))
        refine fr_iconst (pc := 112) (v := 1) d_MO_decide_112 (by decide) ?_
        refine fr_mput (pc := 113) (th, us, n, 1, (nI v), (nI d)) d_MO_decide_113 fp_MO_decide_135 (by decide) rfl rfl rfl ?_
        refine fr_iload (pc := 116) d_MO_decide_116 rfl ?_
        refine fr_iconst (pc := 118) (v := -1) d_MO_decide_118 (by decide) ?_
        refine fr_icmp_ne (pc := 119) (tgt := 126) d_MO_decide_119 (by decide) (fun q => absurd q (by decide)) (fun _ => ?_)
        refine fr_iconst (pc := 122) (v := 1) d_MO_decide_122 (by decide) ?_
        refine fr_goto (pc := 123) (tgt := 127) d_MO_decide_123 (by decide) ?_
        exact fr_zret rfl (by first | exact bI_01 _ | exact Or.inl rfl | exact Or.inr rfl) d_MO_decide_127 ⟨rfl, rfl⟩
      | none =>
        refine fr_icmp_eq (pc := 75) (tgt := 128) d_MO_decide_75 (by decide) (fun _ => ?_) (fun q => absurd q (by decide))
        refine fr_aload_n (pc := 128) d_MO_decide_128 rfl rfl ?_
        refine fr_get (pc := 129) (v := .ref (ar 6)) d_MO_decide_129 fg_MO_32 fm_mo rfl ?_
        refine fr_iload (pc := 132) d_MO_decide_132 rfl ?_
        refine fr_mzld (pc := 134) (j := 6) (k := v) d_MO_decide_134 hA (by decide) rfl (by show v < 150; omega) ?_
        have e1 : (fs_dc nd (fs_in hu hg) N k r u (fs_lv nd (v :: p :: t))) = (fs_dc nd (fs_in hu hg) N k r u (if V.2.2.2.1 = true then [] else fs_lv nd (p :: t))) := by rw [fs_lv_c, hbl]; exact fs_dc_n (by rw [hes]; simp only [fs_lv1, hf, hg2, Option.map_none])
        rw [e1]
        refine fr_st (st2 := [.int (bI V.2.2.2.1)]) (by rw [c6]) ?_
        refine fr_if_eq (pc := 135) (tgt := 142) d_MO_decide_135 (by decide) (fun y => ?_) (fun y => ?_)
        · have y2 : ¬ V.2.2.2.1 = true := by rw [bI_0.mp y]; decide
          rw [if_neg y2]
          refine fr_aload_n (pc := 142) d_MO_decide_142 rfl rfl ?_
          refine fr_get (pc := 143) (v := .ref (ar 8)) d_MO_decide_143 fg_MO_38 fm_mo rfl ?_
          refine fr_iload (pc := 146) d_MO_decide_146 rfl ?_
          refine fr_mild (pc := 148) (j := 8) (k := v) d_MO_decide_148 hA (by decide) rfl (by show v < 150; omega) ?_
          refine fr_st (st2 := [.int (nI p)]) (by rw [c8, hV]; rfl) ?_
          refine fr_istore (pc := 149) (L2 := [(0, .ref mo), (1, .int (nI u)), (2, .int (nI k)), (3, .int (nI r)), (4, .int (nI p)), (5, .int (-1)), (6, .int (-1))]) d_MO_decide_149 (by decide) rfl ?_
          refine fr_goto (pc := 151) (tgt := 36) d_MO_decide_151 (by decide) ?_
          exact fr_Ld (fr_Ld (ih p h3))
        · have y2 := ts_nf (fun x => y (bI_0.mpr x))
          rw [if_pos y2]
          refine fr_iconst (pc := 138) (v := -1) d_MO_decide_138 (by decide) ?_
          refine fr_goto (pc := 139) (tgt := 149) d_MO_decide_139 (by decide) ?_
          refine fr_istore (pc := 149) (L2 := [(0, .ref mo), (1, .int (nI u)), (2, .int (nI k)), (3, .int (nI r)), (4, .int (-1)), (5, .int (-1)), (6, .int (-1))]) d_MO_decide_149 (by decide) rfl ?_
          refine fr_goto (pc := 151) (tgt := 36) d_MO_decide_151 (by decide) ?_
          exact fr_Ld (fr_Ld (c_MO_dec_n hA hc hok hk hu2 hr))
noncomputable def fm_xx (hu hg : Nat → Nat → Bool) (nd : fs_D) (N : fs_N) (k r u f : Nat) : Int32 := if r = 7 ∧ N.2.2.1 = u then (if f = 0 then 0 else if f = 1 then nI k else -1) else fs_xx (fs_dc nd (fs_in hu hg) N k r u (fs_ls nd k)) f
theorem c_MO_decide {g : fw_G} {nc ns : Nat} {w0 : fw_W} {mo : Nat} {ar : Nat → Nat} (hA : fm_ad mo ar) {th so pl po : Int32} {us n : Nat} {F : fm_F} {hu hg : Nat → Nat → Bool} {nd : fs_D} (hc : fm_c us n hu hg nd F) (hok : fs_ok us n nd) {k u r : Nat} {N : fs_N} (hk : nd k = some N) (hu2 : u < us) (hr : r < 8) : fw_R g m_MO_decide (fw_pv (.int (bI (fs_has hu hg nd N k r u))) (fm_W g w0 mo ar (th, us, n, fm_xx hu hg nd N k r u 0, fm_xx hu hg nd N k r u 1, fm_xx hu hg nd N k r u 2) F)) nc ns (fm_W g w0 mo ar (th, us, n, so, pl, po) F) 0 [(0, .ref mo), (1, .int (nI u)), (2, .int (nI k)), (3, .int (nI r))] [] := by
  have hk150 := fm_k hok hk
  have how := (hok.2.2.2.2 k N hk).2.2.1
  have hus := hok.2.1
  obtain ⟨-, -, -, c9, -⟩ := hc.2.2.2.2.2.1 k N hk
  refine fr_aload_n (pc := 0) d_MO_decide_0 rfl rfl ?_
  refine fr_iload_n (pc := 1) d_MO_decide_1 rfl rfl ?_
  refine fr_mput (pc := 2) (th, us, n, so, (nI k), po) d_MO_decide_2 fp_MO_decide_129 (by decide) rfl rfl rfl ?_
  refine fr_aload_n (pc := 5) d_MO_decide_5 rfl rfl ?_
  refine fr_iconst (pc := 6) (v := -1) d_MO_decide_6 (by decide) ?_
  refine fr_mput (pc := 7) (th, us, n, so, (nI k), (-1)) d_MO_decide_7 fp_MO_decide_132 (by decide) rfl rfl rfl ?_
  refine fr_aload_n (pc := 10) d_MO_decide_10 rfl rfl ?_
  refine fr_iconst (pc := 11) (v := 0) d_MO_decide_11 (by decide) ?_
  refine fr_mput (pc := 12) (th, us, n, 0, (nI k), (-1)) d_MO_decide_12 fp_MO_decide_135 (by decide) rfl rfl rfl ?_
  refine fr_iload_n (pc := 15) d_MO_decide_15 rfl rfl ?_
  refine fr_bipush (pc := 16) (v := 7) d_MO_decide_16 (by decide) ?_
  refine fr_icmp_neN (pc := 18) (tgt := 33) (a := r) (b := 7) d_MO_decide_18 (by decide) (by omega) (by omega) (fun e => ?_) (fun e => ?_)
  · have h7 : ¬ (r = 7 ∧ N.2.2.1 = u) := fun z => e z.1
    have e1 : fs_has hu hg nd N k r u = fs_yes (fs_dc nd (fs_in hu hg) N k r u (fs_ls nd k)) := by
      unfold fs_has
      have e2 : (decide (r = 7) && decide (N.2.2.1 = u)) = false := by rw [← Bool.decide_and]; exact decide_eq_false h7
      rw [e2, Bool.false_or]
    unfold fm_xx
    rw [e1, if_neg h7, if_neg h7, if_neg h7]
    refine fr_iload_n (pc := 33) d_MO_decide_33 rfl rfl ?_
    refine fr_istore (pc := 34) (L2 := [(0, .ref mo), (1, .int (nI u)), (2, .int (nI k)), (3, .int (nI r)), (4, .int (nI k))]) d_MO_decide_34 (by decide) rfl ?_
    exact c_MO_dec_l hA hc hok hk hu2 hr _ k (fs_ok_ch hok k N hk)
  · refine fr_aload_n (pc := 21) d_MO_decide_21 rfl rfl ?_
    refine fr_get (pc := 22) (v := .ref (ar 9)) d_MO_decide_22 fg_MO_42 fm_mo rfl ?_
    refine fr_iload_n (pc := 25) d_MO_decide_25 rfl rfl ?_
    refine fr_mild (pc := 26) (j := 9) (k := k) d_MO_decide_26 hA (by decide) rfl (by show k < 150; omega) ?_
    refine fr_st (st2 := [.int (nI N.2.2.1)]) (by rw [c9]) ?_
    refine fr_iload_n (pc := 27) d_MO_decide_27 rfl rfl ?_
    refine fr_icmp_neN (pc := 28) (tgt := 33) (a := N.2.2.1) (b := u) d_MO_decide_28 (by decide) (by omega) (by omega) (fun e2 => ?_) (fun e2 => ?_)
    · have h7 : ¬ (r = 7 ∧ N.2.2.1 = u) := fun z => e2 z.2
      have e1 : fs_has hu hg nd N k r u = fs_yes (fs_dc nd (fs_in hu hg) N k r u (fs_ls nd k)) := by
        unfold fs_has
        have e2 : (decide (r = 7) && decide (N.2.2.1 = u)) = false := by rw [← Bool.decide_and]; exact decide_eq_false h7
        rw [e2, Bool.false_or]
      unfold fm_xx
      rw [e1, if_neg h7, if_neg h7, if_neg h7]
      refine fr_iload_n (pc := 33) d_MO_decide_33 rfl rfl ?_
      refine fr_istore (pc := 34) (L2 := [(0, .ref mo), (1, .int (nI u)), (2, .int (nI k)), (3, .int (nI r)), (4, .int (nI k))]) d_MO_decide_34 (by decide) rfl ?_
      exact c_MO_dec_l hA hc hok hk hu2 hr _ k (fs_ok_ch hok k N hk)
    · have h7 : r = 7 ∧ N.2.2.1 = u := ⟨e, e2⟩
      have e1 : fs_has hu hg nd N k r u = true := by unfold fs_has; rw [decide_eq_true e, decide_eq_true e2]; rfl
      unfold fm_xx
      rw [e1, if_pos h7, if_pos h7, if_pos h7]
      refine fr_iconst (pc := 31) (v := 1) d_MO_decide_31 (by decide) ?_
      exact fr_zret rfl (by first | exact bI_01 _ | exact Or.inl rfl | exact Or.inr rfl) d_MO_decide_32 ⟨rfl, rfl⟩
theorem c_MO_ri_l {g : fw_G} {nc ns : Nat} {w0 : fw_W} {mo : Nat} {ar : Nat → Nat} (hA : fm_ad mo ar) {th : Int32} {us n : Nat} {F : fm_F} {hu hg : Nat → Nat → Bool} {nd : fs_D} (hc : fm_c us n hu hg nd F) (hok : fs_ok us n nd) {k u : Nat} {N : fs_N} (hk : nd k = some N) (hu2 : u < us) : ∀ m r (acc so pl po : Int32), r + m = 8 → fw_R g m_MO_rightsOf (fun q w => q = .inl (some (.int (fs_ri (fun r => fs_has hu hg nd N k r u) m r acc))) ∧ ∃ so pl po, w = (fm_W g w0 mo ar (th, us, n, so, pl, po) F)) nc ns (fm_W g w0 mo ar (th, us, n, so, pl, po) F) 5 [(0, .ref mo), (1, .int (nI u)), (2, .int (nI k)), (3, .int acc), (4, .int (nI r))] [] := by
  intro m
  induction m with
  | zero =>
    intro r acc so pl po hr
    have hr2 : r = 8 := by omega
    subst hr2
    refine fr_iload (pc := 5) d_MO_rightsOf_5 rfl ?_
    refine fr_bipush (pc := 7) (v := 8) d_MO_rightsOf_7 (by decide) ?_
    refine fr_icmp_geN (pc := 9) (tgt := 40) (a := 8) (b := 8) d_MO_rightsOf_9 (by decide) (by omega) (by omega) (fun _ => ?_) (fun q => absurd q (by omega))
    refine fr_iload_n (pc := 40) d_MO_rightsOf_40 rfl rfl ?_
    exact fr_iret rfl d_MO_rightsOf_41 ⟨rfl, _, _, _, rfl⟩
  | succ m ih =>
    intro r acc so pl po hr
    refine fr_iload (pc := 5) d_MO_rightsOf_5 rfl ?_
    refine fr_bipush (pc := 7) (v := 8) d_MO_rightsOf_7 (by decide) ?_
    refine fr_icmp_geN (pc := 9) (tgt := 40) (a := r) (b := 8) d_MO_rightsOf_9 (by decide) (by omega) (by omega) (fun q => absurd q (by omega)) (fun _ => ?_)
    refine fr_aload_n (pc := 12) d_MO_rightsOf_12 rfl rfl ?_
    refine fr_iload_n (pc := 13) d_MO_rightsOf_13 rfl rfl ?_
    refine fr_iload_n (pc := 14) d_MO_rightsOf_14 rfl rfl ?_
    refine fr_iload (pc := 15) d_MO_rightsOf_15 rfl ?_
    refine fr_callv_p (pc := 17) (nc := nc) (ns := ns) (N := m_MO_decide) (rest := []) (as := [.int (nI u), .int (nI k), .int (nI r)]) d_MO_rightsOf_17 vc_MO_142 ⟨by decide, by decide, Nat.le_of_ble_eq_true rfl⟩ (Nat.le_of_ble_eq_true rfl) fm_mo (c_MO_decide hA hc hok hk hu2 (by omega)) rfl ?_
    refine fr_if_eq (pc := 20) (tgt := 32) d_MO_rightsOf_20 (by decide) (fun z => ?_) (fun z => ?_)
    · have z2 : ¬ fs_has hu hg nd N k r u = true := by rw [bI_0.mp z]; decide
      refine fr_iload_n (pc := 32) d_MO_rightsOf_32 rfl rfl ?_
      refine fr_istore_n (pc := 33) (L2 := [(0, .ref mo), (1, .int (nI u)), (2, .int (nI k)), (3, .int acc), (4, .int (nI r))]) d_MO_rightsOf_33 rfl (by decide) rfl ?_
      refine fr_iinc (pc := 34) (v := (nI (r + 1))) (L2 := [(0, .ref mo), (1, .int (nI u)), (2, .int (nI k)), (3, .int acc), (4, .int (nI (r + 1)))]) d_MO_rightsOf_34 rfl (fi_1 _) (by decide) rfl ?_
      refine fr_goto (pc := 37) (tgt := 5) d_MO_rightsOf_37 (by decide) ?_
      rw [fs_ri, if_neg z2]
      exact ih (r + 1) _ _ _ _ (by omega)
    · have z2 := ts_nf (fun x => z (bI_0.mpr x))
      refine fr_iload_n (pc := 23) d_MO_rightsOf_23 rfl rfl ?_
      refine fr_iconst (pc := 24) (v := 1) d_MO_rightsOf_24 (by decide) ?_
      refine fr_iload (pc := 25) d_MO_rightsOf_25 rfl ?_
      refine fr_ishl (pc := 27) d_MO_rightsOf_27 ?_
      refine fr_ior (pc := 28) d_MO_rightsOf_28 ?_
      refine fr_goto (pc := 29) (tgt := 33) d_MO_rightsOf_29 (by decide) ?_
      refine fr_istore_n (pc := 33) (L2 := [(0, .ref mo), (1, .int (nI u)), (2, .int (nI k)), (3, .int (acc ||| (1 <<< ((nI r) &&& 31)))), (4, .int (nI r))]) d_MO_rightsOf_33 rfl (by decide) rfl ?_
      refine fr_iinc (pc := 34) (v := (nI (r + 1))) (L2 := [(0, .ref mo), (1, .int (nI u)), (2, .int (nI k)), (3, .int (acc ||| (1 <<< ((nI r) &&& 31)))), (4, .int (nI (r + 1)))]) d_MO_rightsOf_34 rfl (fi_1 _) (by decide) rfl ?_
      refine fr_goto (pc := 37) (tgt := 5) d_MO_rightsOf_37 (by decide) ?_
      rw [fs_ri, if_pos z2]
      exact ih (r + 1) _ _ _ _ (by omega)
theorem c_MO_rightsOf {g : fw_G} {nc ns : Nat} {w0 : fw_W} {mo : Nat} {ar : Nat → Nat} (hA : fm_ad mo ar) {th so pl po : Int32} {us n : Nat} {F : fm_F} {hu hg : Nat → Nat → Bool} {nd : fs_D} (hc : fm_c us n hu hg nd F) (hok : fs_ok us n nd) {k u : Nat} {N : fs_N} (hk : nd k = some N) (hu2 : u < us) : fw_R g m_MO_rightsOf ((fun q w => q = .inl (some (.int (fs_ri (fun r => fs_has hu hg nd N k r u) 8 0 0))) ∧ ∃ so pl po, w = (fm_W g w0 mo ar (th, us, n, so, pl, po) F))) nc ns (fm_W g w0 mo ar (th, us, n, so, pl, po) F) 0 [(0, .ref mo), (1, .int (nI u)), (2, .int (nI k))] [] := by
  refine fr_iconst (pc := 0) (v := 0) d_MO_rightsOf_0 (by decide) ?_
  refine fr_istore_n (pc := 1) (L2 := [(0, .ref mo), (1, .int (nI u)), (2, .int (nI k)), (3, .int 0)]) d_MO_rightsOf_1 rfl (by decide) rfl ?_
  refine fr_iconst (pc := 2) (v := 0) d_MO_rightsOf_2 (by decide) ?_
  refine fr_istore (pc := 3) (L2 := [(0, .ref mo), (1, .int (nI u)), (2, .int (nI k)), (3, .int 0), (4, .int 0)]) d_MO_rightsOf_3 (by decide) rfl ?_
  exact c_MO_ri_l hA hc hok hk hu2 8 0 0 so pl po rfl

theorem l_start {g : fw_G} {b Ls : Nat} {xs : Nat → Int32} (hsc : lx_sc g b Ls xs) : fw_R g m_LW_law (fun r _ => r = .inl (some (.int 1))) 601024 7293034 (fun _ => none) 0 [(0, .ref b)] [] := by
  have hL := hsc.2.2
  refine fr_new (pc := 0) (nc := 601023) (ns := 7293031) (ci := 0) (N := 3) (fs := [.null, .null, .int 0]) d_LW_law_0 nw_FR_LW (fun o ho => ?_)
  refine fr_dup (pc := 3) d_LW_law_3 rfl ?_
  refine fr_calli (pc := 4) (nc := 601015) (ns := 7292770) (N := m_FR_init) (rest := [.ref o]) (as := []) d_LW_law_4 k_FR_init rfl rfl rfl (fw_t 26 (by decide +kernel)) lk_LW_82 im_FR_init np_FR_init ⟨by decide, by decide, Nat.le_of_ble_eq_true rfl⟩ (Nat.le_of_ble_eq_true rfl) (c_FR_init fw_up_self) (fun v1 w2 h9 => ?_) (fun C w1 h9 => by obtain ⟨h1, -⟩ := h9; cases h1) rfl
  obtain ⟨h1, gr, a1, a2, a3, a4, na, hX, -⟩ := h9
  cases h1
  refine fr_astore_n (pc := 7) (L2 := [(0, .ref b), (1, .ref o)]) d_LW_law_7 rfl (by decide) rfl ?_
  refine fr_new (pc := 8) (nc := 601014) (ns := 7292748) (ci := 5) (N := 22) (fs := fm_z) d_LW_law_8 nw_MO_LW (fun mo hmo => ?_)
  refine fr_dup (pc := 11) d_LW_law_11 rfl ?_
  refine fr_calli (pc := 12) (nc := 600998) (ns := 7279218) (N := m_MO_init) (rest := [.ref mo]) (as := []) d_LW_law_12 k_MO_init rfl rfl rfl (fw_t 633 (by decide +kernel)) lk_LW_85 im_MO_init np_MO_init ⟨by decide, by decide, Nat.le_of_ble_eq_true rfl⟩ (Nat.le_of_ble_eq_true rfl) (c_MO_init fw_up_self) (fun v1 u h9 => ?_) (fun C w1 h9 => by obtain ⟨h1, -⟩ := h9; cases h1) rfl
  obtain ⟨h1, ar, w1, hA, eu, hfr, -⟩ := h9
  cases h1
  refine fr_astore_n (pc := 15) (L2 := [(0, .ref b), (1, .ref o), (2, .ref mo)]) d_LW_law_15 rfl (by decide) rfl ?_
  refine fr_iconst (pc := 16) (v := 1) d_LW_law_16 (by decide) ?_
  have hw2 : ∀ b e, w2 b = some e → u b = some e := fun b e hb => by
    have hbm : b ≠ mo := fun z => by rw [z, hmo] at hb; cases hb
    exact hfr b e (fw_up_at hb hbm) hbm
  refine fr_newa (pc := 17) (nc := 600997) (ns := 7279217) (N := 1) (t := 2) (a0 := (1, .inr (.inl (fun _ => 0)))) d_LW_law_17 rfl (fw_t 54 (by decide +kernel)) rfl (fun cA => rfl) (by decide) (by decide) (by decide) (fun out hout => ?_)
  have hu2 : ∀ b e, u b = some e → fw_up u out (lx_lo g (fun _ => 0)) b = some e := fun b e hb => fw_up_at hb (fun z => by rw [z, hout] at hb; cases hb)
  have hI : lx_I g (o, gr, a1, a2, a3, a4, na) mo ar out (1, 0, (fun _ _ => false), (fun _ _ => false), fs_d0) (fw_up u out (lx_lo g (fun _ => 0))) := by
    refine ⟨fs_X_nk (fun b e hb _ => hu2 b e (hw2 b e hb)) hX, hA, ⟨_, fw_up_self⟩, 0, 0, 0, 0, fm_d0, hu2 _ _ ?_, fun j hj => hu2 _ _ ?_, fm_c_0⟩
    · rw [eu]; exact fm_mo
    · rw [eu]; exact fm_at hA hj
  refine fr_astore_n (pc := 19) (L2 := [(0, .ref b), (1, .ref o), (2, .ref mo), (3, .ref out)]) d_LW_law_19 rfl (by decide) rfl ?_
  refine fr_iconst (pc := 20) (v := 0) d_LW_law_20 (by decide) ?_
  refine fr_istore (pc := 21) (L2 := [(0, .ref b), (1, .ref o), (2, .ref mo), (3, .ref out), (4, .int 0)]) d_LW_law_21 (by decide) rfl ?_
  exact fr_nc (by omega) (by omega) (l_loop hsc 512 0 _ _ (by omega) (by omega) hI)
theorem lx_ac {args : Array Value} {s : State} {ty : FieldType} (h : (Cond.arrayClass ty).before args s = true) : ∃ cA : ClassId, ArrOfT s cA ty ∧ s.vm.findClass ("[" ++ ty.toString) = some cA := by
  obtain ⟨cA, kA, comp, h1, h2, h3⟩ := Cond.arrayClass_spec h
  exact ⟨cA, fun n z => ⟨fun k h => (by cases h), kA, h2, comp, h3⟩, h1⟩
theorem lx_ao {args : Array Value} {s : State} {C : String} (h : (Cond.arrayOver (.object C)).before args s = true) : ∃ cA : ClassId, ArrOfT s cA (.object C) ∧ va_RA s cA (.object C) := by
  obtain ⟨comp, cA, kA, h1, -, h2, h3, h4⟩ := Cond.arrayOver_spec h
  exact ⟨cA, fun n z => ⟨fun k h => (by cases h), kA, h2, comp, h3⟩, kA, comp, h2, h3, h1, h4⟩
theorem fw_g_of {p : Program} {l : Launch} {e : Env} {s : State} {b : Nat} (hx : p.tables.exec = Jvm.exec) (hts : ∀ w ∈ lw_tbl, w.before #[Value.ref b] s = true) (hgv : (Jvm.Cond.and given_1 narrow_1).before #[Value.ref b] s = true) (hl : l.stackTraces = false) : ∃ (D : va_G) (tys : List (ClassId × FieldType)) (df mi : Nat), fw_g (p, l, e, s, D, tys, df, mi) := by
  have hgf := flat_of_before _ hgv
  have hout : ∀ a : Nat, a < s.heap.size → ¬ (s.heap.size ≤ a) := fun a h1 h2 => by omega
  obtain ⟨c0, i0, k0⟩ := u_known (n := 3) hts fw_i0 (hts _ (fw_t 23 (by decide +kernel)))
  obtain ⟨c1, i1, k1⟩ := u_known (n := 5) hts fw_i1 (hts _ (fw_t 31 (by decide +kernel)))
  obtain ⟨c2, i2, k2⟩ := u_known (n := 7) hts fw_i2 (hts _ (fw_t 57 (by decide +kernel)))
  obtain ⟨c3, i3, k3⟩ := u_known (n := 5) hts fw_i3 (hts _ (fw_t 387 (by decide +kernel)))
  obtain ⟨c4, i4, k4⟩ := u_known (n := 3) hts fw_i4 (hts _ (fw_t 63 (by decide +kernel)))
  obtain ⟨c5, i5, k5⟩ := u_known (n := 22) hts fw_i5 (hts _ (fw_t 630 (by decide +kernel)))
  obtain ⟨az, pz, qz⟩ := lx_ac (ty := .boolean) (hts _ (fw_t 702 (by decide +kernel)))
  obtain ⟨ai, pi, qi⟩ := lx_ac (ty := .int) (hts _ (fw_t 703 (by decide +kernel)))
  obtain ⟨al, pl, ql⟩ := lx_ac (ty := .long) (hts _ (fw_t 54 (by decide +kernel)))
  obtain ⟨an, pn, qn⟩ := lx_ao (C := "FolderRights$Node") (hts _ (fw_t 56 (by decide +kernel)))
  obtain ⟨ao, po, qo⟩ := lx_ao (C := "java/lang/Object") (hts _ (fw_t 455 (by decide +kernel)))
  obtain ⟨mi, hmi⟩ := va_Mi.of (C := "[Ljava/lang/Object;") (hgf _ (by decide +kernel))
  obtain ⟨df, hdf, hT⟩ := va_Tof (args := #[Value.ref b]) (s := s) (tm := (.static "java/util/ArrayList" "DEFAULTCAPACITY_EMPTY_ELEMENTDATA" "[Ljava/lang/Object;")) (ty := .object "java/lang/Object") (N := 0) (f := fun _ => .null) (A := fun q => s.heap.size ≤ q) (by decide) (hgf _ (by decide +kernel)) (va_eqt (hgf _ (by decide +kernel))) (fun j hj => absurd hj (Nat.not_lt_zero _)) hout
  refine ⟨(fun c => match c with | 0 => c0 | 1 => c1 | 2 => c2 | 3 => c3 | 4 => c4 | _ => c5, fun c => match c with | 0 => i0 | 1 => i1 | 2 => i2 | 3 => i3 | 4 => i4 | _ => i5), [(az, .boolean), (ai, .int), (al, .long), (an, .object "FolderRights$Node"), (ao, .object "java/lang/Object")], df, mi, hx, ⟨_, hts⟩, ⟨?_, ?_⟩, hl, rfl, ?_, ?_, ?_, ?_, hT, hmi⟩
  · intro c q hq
    match c, hq with
    | 0, hq => cases hq; exact k0
    | 1, hq => cases hq; exact k1
    | 2, hq => cases hq; exact k2
    | 3, hq => cases hq; exact k3
    | 4, hq => cases hq; exact k4
    | 5, hq => cases hq; exact k5
    | n + 6, hq => cases hq
  · intro t q hq
    match t, hq with
    | 0, hq => cases hq; exact ⟨pz, qz⟩
    | 1, hq => cases hq; exact ⟨pi, qi⟩
    | 2, hq => cases hq; exact ⟨pl, ql⟩
    | 3, hq => cases hq; exact ⟨pn, qn⟩
    | 4, hq => cases hq; exact ⟨po, qo⟩
    | n + 5, hq => cases hq
  · exact vx_Zqof (hts _ (fw_t 172 (by decide +kernel))) (hts _ (fw_t 8 (by decide +kernel))) (hgf _ (by decide +kernel)) hout
  · exact vx_Zqof (hts _ (fw_t 174 (by decide +kernel))) (hts _ (fw_t 8 (by decide +kernel))) (hgf _ (by decide +kernel)) hout
  · intro q hq
    have h6 : q = ("java/util/NoSuchElementException", "java/lang/IllegalStateException") ∨ q = ("java/lang/IllegalArgumentException", "java/lang/IllegalStateException") ∨ q = ("java/lang/IllegalStateException", "java/util/NoSuchElementException") ∨ q = ("java/lang/IllegalArgumentException", "java/util/NoSuchElementException") ∨ q = ("java/lang/IllegalStateException", "java/lang/IllegalArgumentException") ∨ q = ("java/util/NoSuchElementException", "java/lang/IllegalArgumentException") := by
      simpa [fw_xp] using hq
    rcases h6 with rfl | rfl | rfl | rfl | rfl | rfl
    · exact va_Nc.of (hgf _ (by decide +kernel))
    · exact va_Nc.of (hgf _ (by decide +kernel))
    · exact va_Nc.of (hgf _ (by decide +kernel))
    · exact va_Nc.of (hgf _ (by decide +kernel))
    · exact va_Nc.of (hgf _ (by decide +kernel))
    · exact va_Nc.of (hgf _ (by decide +kernel))
  · exact va_Zof (hts _ (fw_t 75 (by decide +kernel))) (hts _ (fw_t 6 (by decide +kernel))) hdf hout

theorem fm_ge {k : Nat} (h : k < 2 ^ 31) : (0 : Int32) ≤ nI k := Int32.not_lt.mp (ix_nn h)
theorem c_MO_stale_l {g : fw_G} {nc ns : Nat} {w0 : fw_W} {mo : Nat} {ar : Nat → Nat} (hA : fm_ad mo ar) {th so pl po : Int32} {us n : Nat} {F : fm_F} {hu hg : Nat → Nat → Bool} {nd : fs_D} (hc : fm_c us n hu hg nd F) (hs : fm_S us n hu hg nd) : ∀ m k c, k + m = 150 → fw_R g m_MO_stale (fw_pv (.int (nI (c + fs_sum (fs_f3 nd) m k))) (fm_W g w0 mo ar (th, us, n, so, pl, po) F)) nc ns (fm_W g w0 mo ar (th, us, n, so, pl, po) F) 9 [(0, .ref mo), (1, .int (nI c)), (2, .int (nI k))] [] := by
  intro m
  induction m with
  | zero =>
    intro k c hk
    have hk2 : k = 150 := by omega
    subst hk2
    refine fr_iload_n (pc := 9) d_MO_stale_9 rfl rfl ?_
    refine fr_sipush (pc := 10) (v := 150) d_MO_stale_10 (by decide) ?_
    refine fr_icmp_geN (pc := 13) (tgt := 39) (a := 150) (b := 150) d_MO_stale_13 (by decide) (by omega) (by omega) (fun _ => ?_) (fun q => absurd q (by omega))
    refine fr_iload_n (pc := 39) d_MO_stale_39 rfl rfl ?_
    exact fr_iret rfl d_MO_stale_40 ⟨rfl, rfl⟩
  | succ m ih =>
    intro k c hk
    have c7 := hc.2.2.2.2.1 k (by omega)
    have e3 : fs_f3 nd k = if fm_sl nd k = true then 1 else 0 := by cases h : nd k <;> simp [fs_f3, fm_sl, h]
    refine fr_iload_n (pc := 9) d_MO_stale_9 rfl rfl ?_
    refine fr_sipush (pc := 10) (v := 150) d_MO_stale_10 (by decide) ?_
    refine fr_icmp_geN (pc := 13) (tgt := 39) (a := k) (b := 150) d_MO_stale_13 (by decide) (by omega) (by omega) (fun q => absurd q (by omega)) (fun _ => ?_)
    refine fr_aload_n (pc := 16) d_MO_stale_16 rfl rfl ?_
    refine fr_get (pc := 17) (v := .ref (ar 7)) d_MO_stale_17 fg_MO_35 fm_mo rfl ?_
    refine fr_iload_n (pc := 20) d_MO_stale_20 rfl rfl ?_
    refine fr_mzld (pc := 21) (j := 7) (k := k) d_MO_stale_21 hA (by decide) rfl (by show k < 150; omega) ?_
    refine fr_st (st2 := [.int (bI (fm_sl nd k))]) (by rw [c7]) ?_
    refine fr_if_eq (pc := 22) (tgt := 31) d_MO_stale_22 (by decide) (fun z => ?_) (fun z => ?_)
    · have z2 : ¬ fm_sl nd k = true := by rw [bI_0.mp z]; decide
      refine fr_iload_n (pc := 31) d_MO_stale_31 rfl rfl ?_
      refine fr_istore_n (pc := 32) (L2 := [(0, .ref mo), (1, .int (nI c)), (2, .int (nI k))]) d_MO_stale_32 rfl (by decide) rfl ?_
      refine fr_iinc (pc := 33) (v := (nI (k + 1))) (L2 := [(0, .ref mo), (1, .int (nI c)), (2, .int (nI (k + 1)))]) d_MO_stale_33 rfl (fi_1 _) (by decide) rfl ?_
      refine fr_goto (pc := 36) (tgt := 9) d_MO_stale_36 (by decide) ?_
      have e : c + fs_sum (fs_f3 nd) (m + 1) k = c + fs_sum (fs_f3 nd) m (k + 1) := by
        show c + (fs_f3 nd k + fs_sum (fs_f3 nd) m (k + 1)) = _
        rw [e3, if_neg z2]; omega
      rw [e]
      exact ih (k + 1) c (by omega)
    · have z2 := ts_nf (fun x => z (bI_0.mpr x))
      refine fr_iload_n (pc := 25) d_MO_stale_25 rfl rfl ?_
      refine fr_iconst (pc := 26) (v := 1) d_MO_stale_26 (by decide) ?_
      refine fr_iaddN (pc := 27) (a := c) (b := 1) d_MO_stale_27 ?_
      refine fr_goto (pc := 28) (tgt := 32) d_MO_stale_28 (by decide) ?_
      refine fr_istore_n (pc := 32) (L2 := [(0, .ref mo), (1, .int (nI (c + 1))), (2, .int (nI k))]) d_MO_stale_32 rfl (by decide) rfl ?_
      refine fr_iinc (pc := 33) (v := (nI (k + 1))) (L2 := [(0, .ref mo), (1, .int (nI (c + 1))), (2, .int (nI (k + 1)))]) d_MO_stale_33 rfl (fi_1 _) (by decide) rfl ?_
      refine fr_goto (pc := 36) (tgt := 9) d_MO_stale_36 (by decide) ?_
      have e : c + fs_sum (fs_f3 nd) (m + 1) k = (c + 1) + fs_sum (fs_f3 nd) m (k + 1) := by
        show c + (fs_f3 nd k + fs_sum (fs_f3 nd) m (k + 1)) = _
        rw [e3, if_pos z2]; omega
      rw [e]
      exact ih (k + 1) (c + 1) (by omega)
theorem p_MO_stale_ok {g : fw_G} {nc ns : Nat} {w0 : fw_W} {mo : Nat} {ar : Nat → Nat} (hA : fm_ad mo ar) {th so pl po : Int32} {us n : Nat} {F : fm_F} {hu hg : Nat → Nat → Bool} {nd : fs_D} (hc : fm_c us n hu hg nd F) (hs : fm_S us n hu hg nd)  : fw_R g m_MO_stale (fm_P g w0 mo ar (.int (nI (fs_sum (fs_f3 nd) 150 0))) 0 (us, n, hu, hg, nd)) nc ns (fm_W g w0 mo ar (th, us, n, so, pl, po) F) 0 [(0, .ref mo)] [] := by
  obtain ⟨hok, hub, hgb⟩ := id hs
  have hus := hok.2.1
  have hn := hok.2.2.1
  refine fr_aload_n (pc := 0) d_MO_stale_0 rfl rfl ?_
  refine fr_iconst (pc := 1) (v := 0) d_MO_stale_1 (by decide) ?_
  refine fr_mput (pc := 2) (0, us, n, so, pl, po) d_MO_stale_2 fp_MO_stale_63 (by decide) rfl rfl rfl ?_
  refine fr_iconst (pc := 5) (v := 0) d_MO_stale_5 (by decide) ?_
  refine fr_istore_n (pc := 6) (L2 := [(0, .ref mo), (1, .int 0)]) d_MO_stale_6 rfl (by decide) rfl ?_
  refine fr_iconst (pc := 7) (v := 0) d_MO_stale_7 (by decide) ?_
  refine fr_istore_n (pc := 8) (L2 := [(0, .ref mo), (1, .int 0), (2, .int 0)]) d_MO_stale_8 rfl (by decide) rfl ?_
  have h := c_MO_stale_l (nc := nc) (ns := ns) (w0 := w0) (g := g) (th := 0) (so := so) (pl := pl) (po := po) hA hc hs 150 0 0 rfl
  rw [Nat.zero_add] at h
  exact fr_po (fun r u h => ⟨h.1, _, _, _, _, h.2, hc⟩) h
theorem c_MO_step_l {g : fw_G} {nc ns : Nat} {w0 : fw_W} {mo : Nat} {ar : Nat → Nat} (hA : fm_ad mo ar) {th so pl po : Int32} {us n : Nat} {F : fm_F} {hu hg : Nat → Nat → Bool} {nd : fs_D} (hc : fm_c us n hu hg nd F) (hs : fm_S us n hu hg nd) {Post : fw_O → fw_W → Prop} : ∀ m k k2, k + m = k2 → k2 ≤ 150 → (∀ j, k ≤ j → j < k2 → fm_sl nd j = false) → fw_R g m_MO_step Post nc ns (fm_W g w0 mo ar (th, us, n, so, pl, po) F) 7 [(0, .ref mo), (1, .int (nI k2))] [] → fw_R g m_MO_step Post nc ns (fm_W g w0 mo ar (th, us, n, so, pl, po) F) 7 [(0, .ref mo), (1, .int (nI k))] [] := by
  intro m
  induction m with
  | zero =>
    intro k k2 hk h2 hno kk
    have hk2 : k = k2 := by omega
    subst hk2
    exact kk
  | succ m ih =>
    intro k k2 hk h2 hno kk
    have c7 := hc.2.2.2.2.1 k (by omega)
    rw [hno k (by omega) (by omega)] at c7
    refine fr_iload_n (pc := 7) d_MO_step_7 rfl rfl ?_
    refine fr_sipush (pc := 8) (v := 150) d_MO_step_8 (by decide) ?_
    refine fr_icmp_geN (pc := 11) (tgt := 38) (a := k) (b := 150) d_MO_step_11 (by decide) (by omega) (by omega) (fun q => absurd q (by omega)) (fun _ => ?_)
    refine fr_aload_n (pc := 14) d_MO_step_14 rfl rfl ?_
    refine fr_get (pc := 15) (v := .ref (ar 7)) d_MO_step_15 fg_MO_35 fm_mo rfl ?_
    refine fr_iload_n (pc := 18) d_MO_step_18 rfl rfl ?_
    refine fr_mzld (pc := 19) (j := 7) (k := k) d_MO_step_19 hA (by decide) rfl (by show k < 150; omega) ?_
    refine fr_st (st2 := [.int 0]) (by rw [c7]; rfl) ?_
    refine fr_if_eq (pc := 20) (tgt := 32) d_MO_step_20 (by decide) (fun _ => ?_) (fun q => absurd q (by decide))
    refine fr_iinc (pc := 32) (v := (nI (k + 1))) (L2 := [(0, .ref mo), (1, .int (nI (k + 1)))]) d_MO_step_32 rfl (fi_1 _) (by decide) rfl ?_
    refine fr_goto (pc := 35) (tgt := 7) d_MO_step_35 (by decide) ?_
    exact ih (k + 1) k2 (by omega) h2 (fun j h3 h4 => hno j (by omega) h4) kk
theorem p_MO_step_n {g : fw_G} {nc ns : Nat} {w0 : fw_W} {mo : Nat} {ar : Nat → Nat} (hA : fm_ad mo ar) {th so pl po : Int32} {us n : Nat} {F : fm_F} {hu hg : Nat → Nat → Bool} {nd : fs_D} (hc : fm_c us n hu hg nd F) (hs : fm_S us n hu hg nd) (hno : ∀ j M, nd j = some M → M.2.2.2.2.1 = false) : fw_R g m_MO_step (fm_P g w0 mo ar (.int (-1)) 0 (us, n, hu, hg, nd)) nc ns (fm_W g w0 mo ar (th, us, n, so, pl, po) F) 0 [(0, .ref mo)] [] := by
  obtain ⟨hok, hub, hgb⟩ := id hs
  have hus := hok.2.1
  have hn := hok.2.2.1
  have hsl : ∀ j, fm_sl nd j = false := fun j => by cases h : nd j with
    | none => exact fm_sl_no h
    | some M => rw [fm_sl_at h]; exact hno j M h
  refine fr_aload_n (pc := 0) d_MO_step_0 rfl rfl ?_
  refine fr_iconst (pc := 1) (v := 0) d_MO_step_1 (by decide) ?_
  refine fr_mput (pc := 2) (0, us, n, so, pl, po) d_MO_step_2 fp_MO_step_63 (by decide) rfl rfl rfl ?_
  refine fr_iconst (pc := 5) (v := 0) d_MO_step_5 (by decide) ?_
  refine fr_istore_n (pc := 6) (L2 := [(0, .ref mo), (1, .int 0)]) d_MO_step_6 rfl (by decide) rfl ?_
  refine c_MO_step_l hA hc hs 150 0 150 rfl (by omega) (fun j _ _ => hsl j) ?_
  refine fr_iload_n (pc := 7) d_MO_step_7 rfl rfl ?_
  refine fr_sipush (pc := 8) (v := 150) d_MO_step_8 (by decide) ?_
  refine fr_icmp_geN (pc := 11) (tgt := 38) (a := 150) (b := 150) d_MO_step_11 (by decide) (by omega) (by omega) (fun _ => ?_) (fun q => absurd q (by omega))
  refine fr_iconst (pc := 38) (v := -1) d_MO_step_38 (by decide) ?_
  exact fr_iret rfl d_MO_step_39 ⟨rfl, _, _, _, _, rfl, hc⟩
theorem p_MO_step_y {g : fw_G} {nc ns : Nat} {w0 : fw_W} {mo : Nat} {ar : Nat → Nat} (hA : fm_ad mo ar) {th so pl po : Int32} {us n : Nat} {F : fm_F} {hu hg : Nat → Nat → Bool} {nd : fs_D} (hc : fm_c us n hu hg nd F) (hs : fm_S us n hu hg nd) {k : Nat} {N : fs_N} (hk : nd k = some N) (hs1 : N.2.2.2.2.1 = true) (hno : ∀ j M, j < k → nd j = some M → M.2.2.2.2.1 = false) : fw_R g m_MO_step (fm_P g w0 mo ar (.int (nI k)) 0 (us, n, hu, hg, va_up nd k (some (fs_st N false)))) nc ns (fm_W g w0 mo ar (th, us, n, so, pl, po) F) 0 [(0, .ref mo)] [] := by
  obtain ⟨hok, hub, hgb⟩ := id hs
  have hus := hok.2.1
  have hn := hok.2.2.1
  have hk150 := fm_k hok hk
  obtain ⟨c5, c6, c8, c9, c10⟩ := hc.2.2.2.2.2.1 k N hk
  obtain ⟨-, hk0, how, hlen, hes, hch, hdep⟩ := hok.2.2.2.2 k N hk
  have c7 := hc.2.2.2.2.1 k hk150
  rw [fm_sl_at hk, hs1] at c7
  have hsl : ∀ j, j < k → fm_sl nd j = false := fun j hj => by cases h : nd j with
    | none => exact fm_sl_no h
    | some M => rw [fm_sl_at h]; exact hno j M hj h
  refine fr_aload_n (pc := 0) d_MO_step_0 rfl rfl ?_
  refine fr_iconst (pc := 1) (v := 0) d_MO_step_1 (by decide) ?_
  refine fr_mput (pc := 2) (0, us, n, so, pl, po) d_MO_step_2 fp_MO_step_63 (by decide) rfl rfl rfl ?_
  refine fr_iconst (pc := 5) (v := 0) d_MO_step_5 (by decide) ?_
  refine fr_istore_n (pc := 6) (L2 := [(0, .ref mo), (1, .int 0)]) d_MO_step_6 rfl (by decide) rfl ?_
  refine c_MO_step_l hA hc hs k 0 k (by omega) (by omega) (fun j _ h => hsl j h) ?_
  refine fr_iload_n (pc := 7) d_MO_step_7 rfl rfl ?_
  refine fr_sipush (pc := 8) (v := 150) d_MO_step_8 (by decide) ?_
  refine fr_icmp_geN (pc := 11) (tgt := 38) (a := k) (b := 150) d_MO_step_11 (by decide) (by omega) (by omega) (fun q => absurd q (by omega)) (fun _ => ?_)
  refine fr_aload_n (pc := 14) d_MO_step_14 rfl rfl ?_
  refine fr_get (pc := 15) (v := .ref (ar 7)) d_MO_step_15 fg_MO_35 fm_mo rfl ?_
  refine fr_iload_n (pc := 18) d_MO_step_18 rfl rfl ?_
  refine fr_mzld (pc := 19) (j := 7) (k := k) d_MO_step_19 hA (by decide) rfl (by show k < 150; omega) ?_
  refine fr_st (st2 := [.int 1]) (by rw [c7]; rfl) ?_
  refine fr_if_eq (pc := 20) (tgt := 32) d_MO_step_20 (by decide) (fun q => absurd q (by decide)) (fun _ => ?_)
  refine fr_aload_n (pc := 23) d_MO_step_23 rfl rfl ?_
  refine fr_get (pc := 24) (v := .ref (ar 7)) d_MO_step_24 fg_MO_35 fm_mo rfl ?_
  refine fr_iload_n (pc := 27) d_MO_step_27 rfl rfl ?_
  refine fr_iconst (pc := 28) (v := 0) d_MO_step_28 (by decide) ?_
  refine fr_mzst (pc := 29) (j := 7) (k := k) (x := 0) d_MO_step_29 hA (by decide) rfl (by show k < 150; omega) (Or.inl rfl) ?_
  refine fr_iload_n (pc := 30) d_MO_step_30 rfl rfl ?_
  exact fr_iret rfl d_MO_step_31 ⟨rfl, _, _, _, _, rfl, fm_c_st hc hk⟩
theorem c_MO_count_l {g : fw_G} {nc ns : Nat} {w0 : fw_W} {mo : Nat} {ar : Nat → Nat} (hA : fm_ad mo ar) {th so pl po : Int32} {us n : Nat} {F : fm_F} {hu hg : Nat → Nat → Bool} {nd : fs_D} (hc : fm_c us n hu hg nd F) (hs : fm_S us n hu hg nd) {Post : fw_O → fw_W → Prop} {x : Int32} : ∀ m k c d, k + m = 150 → fw_R g m_MO_count Post nc ns (fm_W g w0 mo ar (th, us, n, so, pl, po) F) 80 [(0, .ref mo), (1, .int x), (2, .int (nI (c + fs_sum (fs_f1 nd) m k))), (3, .int (nI (d + fs_sum (fs_f2 nd) m k))), (4, .int (nI 150))] [] → fw_R g m_MO_count Post nc ns (fm_W g w0 mo ar (th, us, n, so, pl, po) F) 24 [(0, .ref mo), (1, .int x), (2, .int (nI c)), (3, .int (nI d)), (4, .int (nI k))] [] := by
  intro m
  induction m with
  | zero =>
    intro k c d hk kk
    have hk2 : k = 150 := by omega
    subst hk2
    refine fr_iload (pc := 24) d_MO_count_24 rfl ?_
    refine fr_sipush (pc := 26) (v := 150) d_MO_count_26 (by decide) ?_
    refine fr_icmp_geN (pc := 29) (tgt := 80) (a := 150) (b := 150) d_MO_count_29 (by decide) (by omega) (by omega) (fun _ => ?_) (fun q => absurd q (by omega))
    exact kk
  | succ m ih =>
    intro k c d hk kk
    have h4 := hc.2.2.2.1 k (by omega)
    refine fr_iload (pc := 24) d_MO_count_24 rfl ?_
    refine fr_sipush (pc := 26) (v := 150) d_MO_count_26 (by decide) ?_
    refine fr_icmp_geN (pc := 29) (tgt := 80) (a := k) (b := 150) d_MO_count_29 (by decide) (by omega) (by omega) (fun q => absurd q (by omega)) (fun _ => ?_)
    refine fr_aload_n (pc := 32) d_MO_count_32 rfl rfl ?_
    refine fr_get (pc := 33) (v := .ref (ar 4)) d_MO_count_33 fg_MO_26 fm_mo rfl ?_
    refine fr_iload (pc := 36) d_MO_count_36 rfl ?_
    refine fr_mzld (pc := 38) (j := 4) (k := k) d_MO_count_38 hA (by decide) rfl (by show k < 150; omega) ?_
    cases hN : nd k with
    | none =>
      refine fr_st (st2 := [.int 0]) (by rw [h4, hN]; rfl) ?_
      refine fr_if_eq (pc := 39) (tgt := 48) d_MO_count_39 (by decide) (fun _ => ?_) (fun q => absurd q (by decide))
      refine fr_iload_n (pc := 48) d_MO_count_48 rfl rfl ?_
      refine fr_istore_n (pc := 49) (L2 := [(0, .ref mo), (1, .int x), (2, .int (nI c)), (3, .int (nI d)), (4, .int (nI k))]) d_MO_count_49 rfl (by decide) rfl ?_
      refine fr_aload_n (pc := 50) d_MO_count_50 rfl rfl ?_
      refine fr_get (pc := 51) (v := .ref (ar 4)) d_MO_count_51 fg_MO_26 fm_mo rfl ?_
      refine fr_iload (pc := 54) d_MO_count_54 rfl ?_
      refine fr_mzld (pc := 56) (j := 4) (k := k) d_MO_count_56 hA (by decide) rfl (by show k < 150; omega) ?_
      refine fr_st (st2 := [.int 0]) (by rw [h4, hN]; rfl) ?_
      refine fr_if_eq (pc := 57) (tgt := 72) d_MO_count_57 (by decide) (fun _ => ?_) (fun q => absurd q (by decide))
      refine fr_iload_n (pc := 72) d_MO_count_72 rfl rfl ?_
      refine fr_istore_n (pc := 73) (L2 := [(0, .ref mo), (1, .int x), (2, .int (nI c)), (3, .int (nI d)), (4, .int (nI k))]) d_MO_count_73 rfl (by decide) rfl ?_
      refine fr_iinc (pc := 74) (v := (nI (k + 1))) (L2 := [(0, .ref mo), (1, .int x), (2, .int (nI c)), (3, .int (nI d)), (4, .int (nI (k + 1)))]) d_MO_count_74 rfl (fi_1 _) (by decide) rfl ?_
      refine fr_goto (pc := 77) (tgt := 24) d_MO_count_77 (by decide) ?_
      have e1 : c + fs_sum (fs_f1 nd) (m + 1) k = c + fs_sum (fs_f1 nd) m (k + 1) := by simp [fs_sum, fs_f1, hN]
      have e2 : d + fs_sum (fs_f2 nd) (m + 1) k = d + fs_sum (fs_f2 nd) m (k + 1) := by simp [fs_sum, fs_f2, hN]
      rw [e1, e2] at kk
      exact ih (k + 1) c d (by omega) kk
    | some N =>
      have c10 := (hc.2.2.2.2.2.1 k N hN).2.2.2.2
      refine fr_st (st2 := [.int 1]) (by rw [h4, hN]; rfl) ?_
      refine fr_if_eq (pc := 39) (tgt := 48) d_MO_count_39 (by decide) (fun q => absurd q (by decide)) (fun _ => ?_)
      refine fr_iload_n (pc := 42) d_MO_count_42 rfl rfl ?_
      refine fr_iconst (pc := 43) (v := 1) d_MO_count_43 (by decide) ?_
      refine fr_iaddN (pc := 44) (a := c) (b := 1) d_MO_count_44 ?_
      refine fr_goto (pc := 45) (tgt := 49) d_MO_count_45 (by decide) ?_
      refine fr_istore_n (pc := 49) (L2 := [(0, .ref mo), (1, .int x), (2, .int (nI (c + 1))), (3, .int (nI d)), (4, .int (nI k))]) d_MO_count_49 rfl (by decide) rfl ?_
      refine fr_aload_n (pc := 50) d_MO_count_50 rfl rfl ?_
      refine fr_get (pc := 51) (v := .ref (ar 4)) d_MO_count_51 fg_MO_26 fm_mo rfl ?_
      refine fr_iload (pc := 54) d_MO_count_54 rfl ?_
      refine fr_mzld (pc := 56) (j := 4) (k := k) d_MO_count_56 hA (by decide) rfl (by show k < 150; omega) ?_
      refine fr_st (st2 := [.int 1]) (by rw [h4, hN]; rfl) ?_
      refine fr_if_eq (pc := 57) (tgt := 72) d_MO_count_57 (by decide) (fun q => absurd q (by decide)) (fun _ => ?_)
      refine fr_iload_n (pc := 60) d_MO_count_60 rfl rfl ?_
      refine fr_aload_n (pc := 61) d_MO_count_61 rfl rfl ?_
      refine fr_get (pc := 62) (v := .ref (ar 10)) d_MO_count_62 fg_MO_45 fm_mo rfl ?_
      refine fr_iload (pc := 65) d_MO_count_65 rfl ?_
      refine fr_mild (pc := 67) (j := 10) (k := k) d_MO_count_67 hA (by decide) rfl (by show k < 150; omega) ?_
      refine fr_st (st2 := [.int (nI N.2.2.2.2.2.length), .int (nI d)]) (by rw [c10]) ?_
      refine fr_iaddN (pc := 68) (a := d) (b := N.2.2.2.2.2.length) d_MO_count_68 ?_
      refine fr_goto (pc := 69) (tgt := 73) d_MO_count_69 (by decide) ?_
      refine fr_istore_n (pc := 73) (L2 := [(0, .ref mo), (1, .int x), (2, .int (nI (c + 1))), (3, .int (nI (d + N.2.2.2.2.2.length))), (4, .int (nI k))]) d_MO_count_73 rfl (by decide) rfl ?_
      refine fr_iinc (pc := 74) (v := (nI (k + 1))) (L2 := [(0, .ref mo), (1, .int x), (2, .int (nI (c + 1))), (3, .int (nI (d + N.2.2.2.2.2.length))), (4, .int (nI (k + 1)))]) d_MO_count_74 rfl (fi_1 _) (by decide) rfl ?_
      refine fr_goto (pc := 77) (tgt := 24) d_MO_count_77 (by decide) ?_
      have e1 : c + fs_sum (fs_f1 nd) (m + 1) k = (c + 1) + fs_sum (fs_f1 nd) m (k + 1) := by simp [fs_sum, fs_f1, hN]; omega
      have e2 : d + fs_sum (fs_f2 nd) (m + 1) k = (d + N.2.2.2.2.2.length) + fs_sum (fs_f2 nd) m (k + 1) := by simp [fs_sum, fs_f2, hN]; omega
      rw [e1, e2] at kk
      exact ih (k + 1) (c + 1) (d + N.2.2.2.2.2.length) (by omega) kk
theorem fs_sum_app {f : Nat → Nat} : ∀ m m2 s, fs_sum f (m + m2) s = fs_sum f m s + fs_sum f m2 (s + m) := by
  intro m
  induction m with
  | zero => intro m2 s; simp [fs_sum]
  | succ m ih =>
    intro m2 s
    have e : m + 1 + m2 = (m + m2) + 1 := by omega
    rw [e]
    show f s + fs_sum f (m + m2) (s + 1) = (f s + fs_sum f m (s + 1)) + fs_sum f m2 (s + (m + 1))
    rw [ih m2 (s + 1)]
    have e2 : s + 1 + m = s + (m + 1) := by omega
    rw [e2]; omega
theorem fs_sum_cg {f h : Nat → Nat} : ∀ m s s2, (∀ i, i < m → f (s + i) = h (s2 + i)) → fs_sum f m s = fs_sum h m s2 := by
  intro m
  induction m with
  | zero => intro s s2 _; rfl
  | succ m ih =>
    intro s s2 e
    show f s + fs_sum f m (s + 1) = h s2 + fs_sum h m (s2 + 1)
    have e0 := e 0 (by omega)
    rw [Nat.add_zero, Nat.add_zero] at e0
    rw [e0, ih (s + 1) (s2 + 1) (fun i hi => by have := e (i + 1) (by omega); rw [show s + 1 + i = s + (i + 1) from by omega, show s2 + 1 + i = s2 + (i + 1) from by omega]; exact this)]
theorem fs_sum_z {f : Nat → Nat} : ∀ m s, (∀ i, s ≤ i → i < s + m → f i = 0) → fs_sum f m s = 0 := by
  intro m
  induction m with
  | zero => intro s _; rfl
  | succ m ih =>
    intro s h
    show f s + fs_sum f m (s + 1) = 0
    rw [h s (by omega) (by omega), ih (s + 1) (fun i h1 h2 => h i (by omega) (by omega))]
theorem fs_sum_add {f h : Nat → Nat} : ∀ m s, fs_sum (fun i => f i + h i) m s = fs_sum f m s + fs_sum h m s := by
  intro m
  induction m with
  | zero => intro s; rfl
  | succ m ih =>
    intro s
    show (f s + h s) + fs_sum (fun i => f i + h i) m (s + 1) = (f s + fs_sum f m (s + 1)) + (h s + fs_sum h m (s + 1))
    rw [ih]; omega
theorem fs_sum_2 {f : Nat → Nat} {b : Nat} : ∀ a s, fs_sum f (b * a) (b * s) = fs_sum (fun i => fs_sum (fun u => f (b * i + u)) b 0) a s := by
  intro a
  induction a with
  | zero => intro s; rfl
  | succ a ih =>
    intro s
    rw [show b * (a + 1) = b + b * a from by rw [Nat.mul_succ]; omega, fs_sum_app]
    show _ = fs_sum (fun u => f (b * s + u)) b 0 + fs_sum (fun i => fs_sum (fun u => f (b * i + u)) b 0) a (s + 1)
    rw [← ih (s + 1), show b * (s + 1) = b * s + b from by rw [Nat.mul_succ], fs_sum_cg (h := fun u => f (b * s + u)) b (b * s) 0 (fun i _ => by rw [Nat.zero_add])]
theorem fm_mem {us n : Nat} {hu hg : Nat → Nat → Bool} {nd : fs_D} {F : fm_F} (hc : fm_c us n hu hg nd F) (hs : fm_S us n hu hg nd) : fs_sum (fun k => if F 0 k = 0 then 0 else 1) 1440 0 + fs_sum (fun k => if F 1 k = 0 then 0 else 1) 576 0 = fs_sum (fs_cm hu hg) n 0 := by
  obtain ⟨hok, hub, hgb⟩ := hs
  have hn := hok.2.2.1
  have hus := hok.2.1
  have q0 : ∀ i u, i < 24 → u < 60 → (if F 0 (60 * i + u) = 0 then 0 else 1) = (if hu i u = true then 1 else 0) := by
    intro i u h1 h2
    rw [hc.1 i u h1 h2]
    cases hu i u <;> simp [bI]
  have q1 : ∀ i u, i < 24 → u < 24 → (if F 1 (24 * i + u) = 0 then 0 else 1) = (if hg i u = true then 1 else 0) := by
    intro i u h1 h2
    rw [hc.2.1 i u h1 h2]
    cases hg i u <;> simp [bI]
  have e0 : fs_sum (fun k => if F 0 k = 0 then 0 else 1) 1440 0 = fs_sum (fun i => fs_sum (fun u => if hu i u = true then 1 else 0) 64 0) 24 0 := by
    have h := fs_sum_2 (f := fun k => if F 0 k = 0 then 0 else 1) (b := 60) 24 0
    rw [show 60 * 24 = 1440 from rfl, show 60 * 0 = 0 from rfl] at h
    rw [h]
    refine fs_sum_cg 24 0 0 (fun i hi => ?_)
    rw [show 64 = 60 + 4 from rfl, fs_sum_app 60 4 0, fs_sum_z (f := fun u => if hu (0 + i) u = true then 1 else 0) 4 (0 + 60) (fun u h1 h2 => by rw [if_neg (fun z => by have := (hub _ _ z).2; omega)]), Nat.add_zero]
    exact fs_sum_cg 60 0 0 (fun u hu2 => by rw [Nat.zero_add, Nat.zero_add]; exact q0 i u hi hu2)
  have e1 : fs_sum (fun k => if F 1 k = 0 then 0 else 1) 576 0 = fs_sum (fun i => fs_sum (fun u => if hg i u = true then 1 else 0) 64 0) 24 0 := by
    have h := fs_sum_2 (f := fun k => if F 1 k = 0 then 0 else 1) (b := 24) 24 0
    rw [show 24 * 24 = 576 from rfl, show 24 * 0 = 0 from rfl] at h
    rw [h]
    refine fs_sum_cg 24 0 0 (fun i hi => ?_)
    rw [show 64 = 24 + 40 from rfl, fs_sum_app 24 40 0, fs_sum_z (f := fun u => if hg (0 + i) u = true then 1 else 0) 40 (0 + 24) (fun u h1 h2 => by rw [if_neg (fun z => by have := (hgb _ _ z).2; omega)]), Nat.add_zero]
    exact fs_sum_cg 24 0 0 (fun u hu2 => by rw [Nat.zero_add, Nat.zero_add]; exact q1 i u hi hu2)
  rw [e0, e1, ← fs_sum_add]
  show fs_sum (fs_cm hu hg) 24 0 = _
  rw [show 24 = n + (24 - n) from by omega, fs_sum_app, fs_sum_z (24 - n) (0 + n) (fun i h1 h2 => ?_), Nat.add_zero]
  unfold fs_cm
  rw [fs_sum_z 64 0 (fun u _ _ => by rw [if_neg (fun z => by have := (hub _ _ z).1; omega)]), fs_sum_z 64 0 (fun u _ _ => by rw [if_neg (fun z => by have := (hgb _ _ z).1; omega)])]
theorem c_MO_m1 {g : fw_G} {nc ns : Nat} {w0 : fw_W} {mo : Nat} {ar : Nat → Nat} (hA : fm_ad mo ar) {th so pl po : Int32} {us n : Nat} {F : fm_F} {Post : fw_O → fw_W → Prop} : ∀ m k c, k + m = 1440 → fw_R g m_MO_members Post nc ns (fm_W g w0 mo ar (th, us, n, so, pl, po) F) 34 [(0, .ref mo), (1, .int (nI (c + fs_sum (fun k => if F 0 k = 0 then 0 else 1) m k))), (2, .int (nI 1440))] [] → fw_R g m_MO_members Post nc ns (fm_W g w0 mo ar (th, us, n, so, pl, po) F) 4 [(0, .ref mo), (1, .int (nI c)), (2, .int (nI k))] [] := by
  intro m
  induction m with
  | zero =>
    intro k c hk kk
    have hk2 : k = 1440 := by omega
    subst hk2
    refine fr_iload_n (pc := 4) d_MO_members_4 rfl rfl ?_
    refine fr_sipush (pc := 5) (v := 1440) d_MO_members_5 (by decide) ?_
    refine fr_icmp_geN (pc := 8) (tgt := 34) (a := 1440) (b := 1440) d_MO_members_8 (by decide) (by omega) (by omega) (fun _ => ?_) (fun q => absurd q (by omega))
    exact kk
  | succ m ih =>
    intro k c hk kk
    refine fr_iload_n (pc := 4) d_MO_members_4 rfl rfl ?_
    refine fr_sipush (pc := 5) (v := 1440) d_MO_members_5 (by decide) ?_
    refine fr_icmp_geN (pc := 8) (tgt := 34) (a := k) (b := 1440) d_MO_members_8 (by decide) (by omega) (by omega) (fun q => absurd q (by omega)) (fun _ => ?_)
    refine fr_aload_n (pc := 11) d_MO_members_11 rfl rfl ?_
    refine fr_get (pc := 12) (v := .ref (ar 0)) d_MO_members_12 fg_MO_13 fm_mo rfl ?_
    refine fr_iload_n (pc := 15) d_MO_members_15 rfl rfl ?_
    refine fr_mzld (pc := 16) (j := 0) (k := k) d_MO_members_16 hA (by decide) rfl (by show k < 1440; omega) ?_
    refine fr_if_eq (pc := 17) (tgt := 26) d_MO_members_17 (by decide) (fun z => ?_) (fun z => ?_)
    · refine fr_iload_n (pc := 26) d_MO_members_26 rfl rfl ?_
      refine fr_istore_n (pc := 27) (L2 := [(0, .ref mo), (1, .int (nI c)), (2, .int (nI k))]) d_MO_members_27 rfl (by decide) rfl ?_
      refine fr_iinc (pc := 28) (v := (nI (k + 1))) (L2 := [(0, .ref mo), (1, .int (nI c)), (2, .int (nI (k + 1)))]) d_MO_members_28 rfl (fi_1 _) (by decide) rfl ?_
      refine fr_goto (pc := 31) (tgt := 4) d_MO_members_31 (by decide) ?_
      have e : c + fs_sum (fun k => if F 0 k = 0 then 0 else 1) (m + 1) k = c + fs_sum (fun k => if F 0 k = 0 then 0 else 1) m (k + 1) := by
        show c + ((if F 0 k = 0 then 0 else 1) + fs_sum (fun k => if F 0 k = 0 then 0 else 1) m (k + 1)) = _
        rw [if_pos z]; omega
      rw [e] at kk
      exact ih (k + 1) c (by omega) kk
    · refine fr_iload_n (pc := 20) d_MO_members_20 rfl rfl ?_
      refine fr_iconst (pc := 21) (v := 1) d_MO_members_21 (by decide) ?_
      refine fr_iaddN (pc := 22) (a := c) (b := 1) d_MO_members_22 ?_
      refine fr_goto (pc := 23) (tgt := 27) d_MO_members_23 (by decide) ?_
      refine fr_istore_n (pc := 27) (L2 := [(0, .ref mo), (1, .int (nI (c + 1))), (2, .int (nI k))]) d_MO_members_27 rfl (by decide) rfl ?_
      refine fr_iinc (pc := 28) (v := (nI (k + 1))) (L2 := [(0, .ref mo), (1, .int (nI (c + 1))), (2, .int (nI (k + 1)))]) d_MO_members_28 rfl (fi_1 _) (by decide) rfl ?_
      refine fr_goto (pc := 31) (tgt := 4) d_MO_members_31 (by decide) ?_
      have e : c + fs_sum (fun k => if F 0 k = 0 then 0 else 1) (m + 1) k = (c + 1) + fs_sum (fun k => if F 0 k = 0 then 0 else 1) m (k + 1) := by
        show c + ((if F 0 k = 0 then 0 else 1) + fs_sum (fun k => if F 0 k = 0 then 0 else 1) m (k + 1)) = _
        rw [if_neg z]; omega
      rw [e] at kk
      exact ih (k + 1) (c + 1) (by omega) kk
theorem c_MO_m2 {g : fw_G} {nc ns : Nat} {w0 : fw_W} {mo : Nat} {ar : Nat → Nat} (hA : fm_ad mo ar) {th so pl po : Int32} {us n : Nat} {F : fm_F} {Post : fw_O → fw_W → Prop} : ∀ m k c, k + m = 576 → fw_R g m_MO_members Post nc ns (fm_W g w0 mo ar (th, us, n, so, pl, po) F) 66 [(0, .ref mo), (1, .int (nI (c + fs_sum (fun k => if F 1 k = 0 then 0 else 1) m k))), (2, .int (nI 576))] [] → fw_R g m_MO_members Post nc ns (fm_W g w0 mo ar (th, us, n, so, pl, po) F) 36 [(0, .ref mo), (1, .int (nI c)), (2, .int (nI k))] [] := by
  intro m
  induction m with
  | zero =>
    intro k c hk kk
    have hk2 : k = 576 := by omega
    subst hk2
    refine fr_iload_n (pc := 36) d_MO_members_36 rfl rfl ?_
    refine fr_sipush (pc := 37) (v := 576) d_MO_members_37 (by decide) ?_
    refine fr_icmp_geN (pc := 40) (tgt := 66) (a := 576) (b := 576) d_MO_members_40 (by decide) (by omega) (by omega) (fun _ => ?_) (fun q => absurd q (by omega))
    exact kk
  | succ m ih =>
    intro k c hk kk
    refine fr_iload_n (pc := 36) d_MO_members_36 rfl rfl ?_
    refine fr_sipush (pc := 37) (v := 576) d_MO_members_37 (by decide) ?_
    refine fr_icmp_geN (pc := 40) (tgt := 66) (a := k) (b := 576) d_MO_members_40 (by decide) (by omega) (by omega) (fun q => absurd q (by omega)) (fun _ => ?_)
    refine fr_aload_n (pc := 43) d_MO_members_43 rfl rfl ?_
    refine fr_get (pc := 44) (v := .ref (ar 1)) d_MO_members_44 fg_MO_17 fm_mo rfl ?_
    refine fr_iload_n (pc := 47) d_MO_members_47 rfl rfl ?_
    refine fr_mzld (pc := 48) (j := 1) (k := k) d_MO_members_48 hA (by decide) rfl (by show k < 576; omega) ?_
    refine fr_if_eq (pc := 49) (tgt := 58) d_MO_members_49 (by decide) (fun z => ?_) (fun z => ?_)
    · refine fr_iload_n (pc := 58) d_MO_members_58 rfl rfl ?_
      refine fr_istore_n (pc := 59) (L2 := [(0, .ref mo), (1, .int (nI c)), (2, .int (nI k))]) d_MO_members_59 rfl (by decide) rfl ?_
      refine fr_iinc (pc := 60) (v := (nI (k + 1))) (L2 := [(0, .ref mo), (1, .int (nI c)), (2, .int (nI (k + 1)))]) d_MO_members_60 rfl (fi_1 _) (by decide) rfl ?_
      refine fr_goto (pc := 63) (tgt := 36) d_MO_members_63 (by decide) ?_
      have e : c + fs_sum (fun k => if F 1 k = 0 then 0 else 1) (m + 1) k = c + fs_sum (fun k => if F 1 k = 0 then 0 else 1) m (k + 1) := by
        show c + ((if F 1 k = 0 then 0 else 1) + fs_sum (fun k => if F 1 k = 0 then 0 else 1) m (k + 1)) = _
        rw [if_pos z]; omega
      rw [e] at kk
      exact ih (k + 1) c (by omega) kk
    · refine fr_iload_n (pc := 52) d_MO_members_52 rfl rfl ?_
      refine fr_iconst (pc := 53) (v := 1) d_MO_members_53 (by decide) ?_
      refine fr_iaddN (pc := 54) (a := c) (b := 1) d_MO_members_54 ?_
      refine fr_goto (pc := 55) (tgt := 59) d_MO_members_55 (by decide) ?_
      refine fr_istore_n (pc := 59) (L2 := [(0, .ref mo), (1, .int (nI (c + 1))), (2, .int (nI k))]) d_MO_members_59 rfl (by decide) rfl ?_
      refine fr_iinc (pc := 60) (v := (nI (k + 1))) (L2 := [(0, .ref mo), (1, .int (nI (c + 1))), (2, .int (nI (k + 1)))]) d_MO_members_60 rfl (fi_1 _) (by decide) rfl ?_
      refine fr_goto (pc := 63) (tgt := 36) d_MO_members_63 (by decide) ?_
      have e : c + fs_sum (fun k => if F 1 k = 0 then 0 else 1) (m + 1) k = (c + 1) + fs_sum (fun k => if F 1 k = 0 then 0 else 1) m (k + 1) := by
        show c + ((if F 1 k = 0 then 0 else 1) + fs_sum (fun k => if F 1 k = 0 then 0 else 1) m (k + 1)) = _
        rw [if_neg z]; omega
      rw [e] at kk
      exact ih (k + 1) (c + 1) (by omega) kk
theorem c_MO_members {g : fw_G} {nc ns : Nat} {w0 : fw_W} {mo : Nat} {ar : Nat → Nat} (hA : fm_ad mo ar) {th so pl po : Int32} {us n : Nat} {F : fm_F} {hu hg : Nat → Nat → Bool} {nd : fs_D} (hc : fm_c us n hu hg nd F) (hs : fm_S us n hu hg nd) : fw_R g m_MO_members (fw_pv (.int (nI (fs_sum (fs_cm hu hg) n 0))) (fm_W g w0 mo ar (th, us, n, so, pl, po) F)) nc ns (fm_W g w0 mo ar (th, us, n, so, pl, po) F) 0 [(0, .ref mo)] [] := by
  refine fr_iconst (pc := 0) (v := 0) d_MO_members_0 (by decide) ?_
  refine fr_istore_n (pc := 1) (L2 := [(0, .ref mo), (1, .int 0)]) d_MO_members_1 rfl (by decide) rfl ?_
  refine fr_iconst (pc := 2) (v := 0) d_MO_members_2 (by decide) ?_
  refine fr_istore_n (pc := 3) (L2 := [(0, .ref mo), (1, .int 0), (2, .int 0)]) d_MO_members_3 rfl (by decide) rfl ?_
  refine c_MO_m1 hA 1440 0 0 rfl ?_
  refine fr_iconst (pc := 34) (v := 0) d_MO_members_34 (by decide) ?_
  refine fr_istore_n (pc := 35) (L2 := [(0, .ref mo), (1, .int (nI (0 + (fs_sum (fun k => if F 0 k = 0 then 0 else 1) 1440 0)))), (2, .int 0)]) d_MO_members_35 rfl (by decide) rfl ?_
  refine c_MO_m2 hA 576 0 _ rfl ?_
  refine fr_iload_n (pc := 66) d_MO_members_66 rfl rfl ?_
  refine fr_st (st2 := [.int (nI (fs_sum (fs_cm hu hg) n 0))]) (by rw [Nat.zero_add, fm_mem hc hs]) ?_
  exact fr_iret rfl d_MO_members_67 ⟨rfl, rfl⟩
theorem p_MO_count_0 {g : fw_G} {nc ns : Nat} {w0 : fw_W} {mo : Nat} {ar : Nat → Nat} (hA : fm_ad mo ar) {th so pl po : Int32} {us n : Nat} {F : fm_F} {hu hg : Nat → Nat → Bool} {nd : fs_D} (hc : fm_c us n hu hg nd F) (hs : fm_S us n hu hg nd)  : fw_R g m_MO_count (fm_P g w0 mo ar (.int (nI us)) 0 (us, n, hu, hg, nd)) nc ns (fm_W g w0 mo ar (th, us, n, so, pl, po) F) 0 [(0, .ref mo), (1, .int (nI 0))] [] := by
  obtain ⟨hok, hub, hgb⟩ := id hs
  have hus := hok.2.1
  have hn := hok.2.2.1
  refine fr_aload_n (pc := 0) d_MO_count_0 rfl rfl ?_
  refine fr_iload_n (pc := 1) d_MO_count_1 rfl rfl ?_
  refine fr_iconst (pc := 2) (v := 0) d_MO_count_2 (by decide) ?_
  refine fr_iconst (pc := 3) (v := 4) d_MO_count_3 (by decide) ?_
  refine fr_calls_p (pc := 4) (nc := nc) (ns := ns) (N := m_MO_within) (rest := [.ref mo]) (as := [.int (nI 0), .int 0, .int 4]) d_MO_count_4 k_MO_within lk_MO_112 sc_MO_within np_MO_within ⟨by decide, by decide, Nat.le_of_ble_eq_true rfl⟩ (Nat.le_of_ble_eq_true rfl) (c_MO_within_y (fm_lt (r := 0) (m := 4) (by omega) (by omega)).1 (fm_lt (r := 0) (m := 4) (by omega) (by omega)).2) rfl ?_
  refine fr_iconst (pc := 7) (v := 1) d_MO_count_7 (by decide) ?_
  refine fr_iconst (pc := 8) (v := 1) d_MO_count_8 (by decide) ?_
  refine fr_callv_p (pc := 9) (nc := nc) (ns := ns) (N := m_MO_goes) (rest := []) (as := [.int 1, .int 1, .int 1]) d_MO_count_9 vc_MO_69 ⟨by decide, by decide, Nat.le_of_ble_eq_true rfl⟩ (Nat.le_of_ble_eq_true rfl) fm_mo (c_MO_goes0 hA) rfl ?_
  refine fr_if_ne (pc := 12) (tgt := 17) d_MO_count_12 (by decide) (fun _ => ?_) (fun q => absurd q (by decide))
  refine fr_iconst (pc := 17) (v := 0) d_MO_count_17 (by decide) ?_
  refine fr_istore_n (pc := 18) (L2 := [(0, .ref mo), (1, .int (nI 0)), (2, .int 0)]) d_MO_count_18 rfl (by decide) rfl ?_
  refine fr_iconst (pc := 19) (v := 0) d_MO_count_19 (by decide) ?_
  refine fr_istore_n (pc := 20) (L2 := [(0, .ref mo), (1, .int (nI 0)), (2, .int 0), (3, .int 0)]) d_MO_count_20 rfl (by decide) rfl ?_
  refine fr_iconst (pc := 21) (v := 0) d_MO_count_21 (by decide) ?_
  refine fr_istore (pc := 22) (L2 := [(0, .ref mo), (1, .int (nI 0)), (2, .int 0), (3, .int 0), (4, .int 0)]) d_MO_count_22 (by decide) rfl ?_
  refine c_MO_count_l hA hc hs 150 0 0 0 rfl ?_
  rw [Nat.zero_add, Nat.zero_add]
  refine fr_iload_n (pc := 80) d_MO_count_80 rfl rfl ?_
  refine fr_if_ne (pc := 81) (tgt := 91) d_MO_count_81 (by decide) (fun q => absurd q (by decide)) (fun _ => ?_)
  refine fr_aload_n (pc := 84) d_MO_count_84 rfl rfl ?_
  refine fr_get (pc := 85) (v := .int (nI us)) d_MO_count_85 fg_MO_7 fm_mo rfl ?_
  refine fr_goto (pc := 88) (tgt := 125) d_MO_count_88 (by decide) ?_
  exact fr_iret rfl d_MO_count_125 ⟨rfl, _, _, _, _, rfl, hc⟩
theorem p_MO_count_1 {g : fw_G} {nc ns : Nat} {w0 : fw_W} {mo : Nat} {ar : Nat → Nat} (hA : fm_ad mo ar) {th so pl po : Int32} {us n : Nat} {F : fm_F} {hu hg : Nat → Nat → Bool} {nd : fs_D} (hc : fm_c us n hu hg nd F) (hs : fm_S us n hu hg nd)  : fw_R g m_MO_count (fm_P g w0 mo ar (.int (nI n)) 0 (us, n, hu, hg, nd)) nc ns (fm_W g w0 mo ar (th, us, n, so, pl, po) F) 0 [(0, .ref mo), (1, .int (nI 1))] [] := by
  obtain ⟨hok, hub, hgb⟩ := id hs
  have hus := hok.2.1
  have hn := hok.2.2.1
  refine fr_aload_n (pc := 0) d_MO_count_0 rfl rfl ?_
  refine fr_iload_n (pc := 1) d_MO_count_1 rfl rfl ?_
  refine fr_iconst (pc := 2) (v := 0) d_MO_count_2 (by decide) ?_
  refine fr_iconst (pc := 3) (v := 4) d_MO_count_3 (by decide) ?_
  refine fr_calls_p (pc := 4) (nc := nc) (ns := ns) (N := m_MO_within) (rest := [.ref mo]) (as := [.int (nI 1), .int 0, .int 4]) d_MO_count_4 k_MO_within lk_MO_112 sc_MO_within np_MO_within ⟨by decide, by decide, Nat.le_of_ble_eq_true rfl⟩ (Nat.le_of_ble_eq_true rfl) (c_MO_within_y (fm_lt (r := 1) (m := 4) (by omega) (by omega)).1 (fm_lt (r := 1) (m := 4) (by omega) (by omega)).2) rfl ?_
  refine fr_iconst (pc := 7) (v := 1) d_MO_count_7 (by decide) ?_
  refine fr_iconst (pc := 8) (v := 1) d_MO_count_8 (by decide) ?_
  refine fr_callv_p (pc := 9) (nc := nc) (ns := ns) (N := m_MO_goes) (rest := []) (as := [.int 1, .int 1, .int 1]) d_MO_count_9 vc_MO_69 ⟨by decide, by decide, Nat.le_of_ble_eq_true rfl⟩ (Nat.le_of_ble_eq_true rfl) fm_mo (c_MO_goes0 hA) rfl ?_
  refine fr_if_ne (pc := 12) (tgt := 17) d_MO_count_12 (by decide) (fun _ => ?_) (fun q => absurd q (by decide))
  refine fr_iconst (pc := 17) (v := 0) d_MO_count_17 (by decide) ?_
  refine fr_istore_n (pc := 18) (L2 := [(0, .ref mo), (1, .int (nI 1)), (2, .int 0)]) d_MO_count_18 rfl (by decide) rfl ?_
  refine fr_iconst (pc := 19) (v := 0) d_MO_count_19 (by decide) ?_
  refine fr_istore_n (pc := 20) (L2 := [(0, .ref mo), (1, .int (nI 1)), (2, .int 0), (3, .int 0)]) d_MO_count_20 rfl (by decide) rfl ?_
  refine fr_iconst (pc := 21) (v := 0) d_MO_count_21 (by decide) ?_
  refine fr_istore (pc := 22) (L2 := [(0, .ref mo), (1, .int (nI 1)), (2, .int 0), (3, .int 0), (4, .int 0)]) d_MO_count_22 (by decide) rfl ?_
  refine c_MO_count_l hA hc hs 150 0 0 0 rfl ?_
  rw [Nat.zero_add, Nat.zero_add]
  refine fr_iload_n (pc := 80) d_MO_count_80 rfl rfl ?_
  refine fr_if_ne (pc := 81) (tgt := 91) d_MO_count_81 (by decide) (fun _ => ?_) (fun q => absurd q (by decide))
  refine fr_iload_n (pc := 91) d_MO_count_91 rfl rfl ?_
  refine fr_iconst (pc := 92) (v := 1) d_MO_count_92 (by decide) ?_
  refine fr_icmp_ne (pc := 93) (tgt := 103) d_MO_count_93 (by decide) (fun q => absurd q (by decide)) (fun _ => ?_)
  refine fr_aload_n (pc := 96) d_MO_count_96 rfl rfl ?_
  refine fr_get (pc := 97) (v := .int (nI n)) d_MO_count_97 fg_MO_66 fm_mo rfl ?_
  refine fr_goto (pc := 100) (tgt := 125) d_MO_count_100 (by decide) ?_
  exact fr_iret rfl d_MO_count_125 ⟨rfl, _, _, _, _, rfl, hc⟩
theorem p_MO_count_2 {g : fw_G} {nc ns : Nat} {w0 : fw_W} {mo : Nat} {ar : Nat → Nat} (hA : fm_ad mo ar) {th so pl po : Int32} {us n : Nat} {F : fm_F} {hu hg : Nat → Nat → Bool} {nd : fs_D} (hc : fm_c us n hu hg nd F) (hs : fm_S us n hu hg nd)  : fw_R g m_MO_count (fm_P g w0 mo ar (.int (nI (fs_sum (fs_f1 nd) 150 0))) 0 (us, n, hu, hg, nd)) nc ns (fm_W g w0 mo ar (th, us, n, so, pl, po) F) 0 [(0, .ref mo), (1, .int (nI 2))] [] := by
  obtain ⟨hok, hub, hgb⟩ := id hs
  have hus := hok.2.1
  have hn := hok.2.2.1
  refine fr_aload_n (pc := 0) d_MO_count_0 rfl rfl ?_
  refine fr_iload_n (pc := 1) d_MO_count_1 rfl rfl ?_
  refine fr_iconst (pc := 2) (v := 0) d_MO_count_2 (by decide) ?_
  refine fr_iconst (pc := 3) (v := 4) d_MO_count_3 (by decide) ?_
  refine fr_calls_p (pc := 4) (nc := nc) (ns := ns) (N := m_MO_within) (rest := [.ref mo]) (as := [.int (nI 2), .int 0, .int 4]) d_MO_count_4 k_MO_within lk_MO_112 sc_MO_within np_MO_within ⟨by decide, by decide, Nat.le_of_ble_eq_true rfl⟩ (Nat.le_of_ble_eq_true rfl) (c_MO_within_y (fm_lt (r := 2) (m := 4) (by omega) (by omega)).1 (fm_lt (r := 2) (m := 4) (by omega) (by omega)).2) rfl ?_
  refine fr_iconst (pc := 7) (v := 1) d_MO_count_7 (by decide) ?_
  refine fr_iconst (pc := 8) (v := 1) d_MO_count_8 (by decide) ?_
  refine fr_callv_p (pc := 9) (nc := nc) (ns := ns) (N := m_MO_goes) (rest := []) (as := [.int 1, .int 1, .int 1]) d_MO_count_9 vc_MO_69 ⟨by decide, by decide, Nat.le_of_ble_eq_true rfl⟩ (Nat.le_of_ble_eq_true rfl) fm_mo (c_MO_goes0 hA) rfl ?_
  refine fr_if_ne (pc := 12) (tgt := 17) d_MO_count_12 (by decide) (fun _ => ?_) (fun q => absurd q (by decide))
  refine fr_iconst (pc := 17) (v := 0) d_MO_count_17 (by decide) ?_
  refine fr_istore_n (pc := 18) (L2 := [(0, .ref mo), (1, .int (nI 2)), (2, .int 0)]) d_MO_count_18 rfl (by decide) rfl ?_
  refine fr_iconst (pc := 19) (v := 0) d_MO_count_19 (by decide) ?_
  refine fr_istore_n (pc := 20) (L2 := [(0, .ref mo), (1, .int (nI 2)), (2, .int 0), (3, .int 0)]) d_MO_count_20 rfl (by decide) rfl ?_
  refine fr_iconst (pc := 21) (v := 0) d_MO_count_21 (by decide) ?_
  refine fr_istore (pc := 22) (L2 := [(0, .ref mo), (1, .int (nI 2)), (2, .int 0), (3, .int 0), (4, .int 0)]) d_MO_count_22 (by decide) rfl ?_
  refine c_MO_count_l hA hc hs 150 0 0 0 rfl ?_
  rw [Nat.zero_add, Nat.zero_add]
  refine fr_iload_n (pc := 80) d_MO_count_80 rfl rfl ?_
  refine fr_if_ne (pc := 81) (tgt := 91) d_MO_count_81 (by decide) (fun _ => ?_) (fun q => absurd q (by decide))
  refine fr_iload_n (pc := 91) d_MO_count_91 rfl rfl ?_
  refine fr_iconst (pc := 92) (v := 1) d_MO_count_92 (by decide) ?_
  refine fr_icmp_ne (pc := 93) (tgt := 103) d_MO_count_93 (by decide) (fun _ => ?_) (fun q => absurd q (by decide))
  refine fr_iload_n (pc := 103) d_MO_count_103 rfl rfl ?_
  refine fr_iconst (pc := 104) (v := 2) d_MO_count_104 (by decide) ?_
  refine fr_icmp_ne (pc := 105) (tgt := 112) d_MO_count_105 (by decide) (fun q => absurd q (by decide)) (fun _ => ?_)
  refine fr_iload_n (pc := 108) d_MO_count_108 rfl rfl ?_
  refine fr_goto (pc := 109) (tgt := 125) d_MO_count_109 (by decide) ?_
  exact fr_iret rfl d_MO_count_125 ⟨rfl, _, _, _, _, rfl, hc⟩
theorem p_MO_count_3 {g : fw_G} {nc ns : Nat} {w0 : fw_W} {mo : Nat} {ar : Nat → Nat} (hA : fm_ad mo ar) {th so pl po : Int32} {us n : Nat} {F : fm_F} {hu hg : Nat → Nat → Bool} {nd : fs_D} (hc : fm_c us n hu hg nd F) (hs : fm_S us n hu hg nd)  : fw_R g m_MO_count (fm_P g w0 mo ar (.int (nI (fs_sum (fs_f2 nd) 150 0))) 0 (us, n, hu, hg, nd)) nc ns (fm_W g w0 mo ar (th, us, n, so, pl, po) F) 0 [(0, .ref mo), (1, .int (nI 3))] [] := by
  obtain ⟨hok, hub, hgb⟩ := id hs
  have hus := hok.2.1
  have hn := hok.2.2.1
  refine fr_aload_n (pc := 0) d_MO_count_0 rfl rfl ?_
  refine fr_iload_n (pc := 1) d_MO_count_1 rfl rfl ?_
  refine fr_iconst (pc := 2) (v := 0) d_MO_count_2 (by decide) ?_
  refine fr_iconst (pc := 3) (v := 4) d_MO_count_3 (by decide) ?_
  refine fr_calls_p (pc := 4) (nc := nc) (ns := ns) (N := m_MO_within) (rest := [.ref mo]) (as := [.int (nI 3), .int 0, .int 4]) d_MO_count_4 k_MO_within lk_MO_112 sc_MO_within np_MO_within ⟨by decide, by decide, Nat.le_of_ble_eq_true rfl⟩ (Nat.le_of_ble_eq_true rfl) (c_MO_within_y (fm_lt (r := 3) (m := 4) (by omega) (by omega)).1 (fm_lt (r := 3) (m := 4) (by omega) (by omega)).2) rfl ?_
  refine fr_iconst (pc := 7) (v := 1) d_MO_count_7 (by decide) ?_
  refine fr_iconst (pc := 8) (v := 1) d_MO_count_8 (by decide) ?_
  refine fr_callv_p (pc := 9) (nc := nc) (ns := ns) (N := m_MO_goes) (rest := []) (as := [.int 1, .int 1, .int 1]) d_MO_count_9 vc_MO_69 ⟨by decide, by decide, Nat.le_of_ble_eq_true rfl⟩ (Nat.le_of_ble_eq_true rfl) fm_mo (c_MO_goes0 hA) rfl ?_
  refine fr_if_ne (pc := 12) (tgt := 17) d_MO_count_12 (by decide) (fun _ => ?_) (fun q => absurd q (by decide))
  refine fr_iconst (pc := 17) (v := 0) d_MO_count_17 (by decide) ?_
  refine fr_istore_n (pc := 18) (L2 := [(0, .ref mo), (1, .int (nI 3)), (2, .int 0)]) d_MO_count_18 rfl (by decide) rfl ?_
  refine fr_iconst (pc := 19) (v := 0) d_MO_count_19 (by decide) ?_
  refine fr_istore_n (pc := 20) (L2 := [(0, .ref mo), (1, .int (nI 3)), (2, .int 0), (3, .int 0)]) d_MO_count_20 rfl (by decide) rfl ?_
  refine fr_iconst (pc := 21) (v := 0) d_MO_count_21 (by decide) ?_
  refine fr_istore (pc := 22) (L2 := [(0, .ref mo), (1, .int (nI 3)), (2, .int 0), (3, .int 0), (4, .int 0)]) d_MO_count_22 (by decide) rfl ?_
  refine c_MO_count_l hA hc hs 150 0 0 0 rfl ?_
  rw [Nat.zero_add, Nat.zero_add]
  refine fr_iload_n (pc := 80) d_MO_count_80 rfl rfl ?_
  refine fr_if_ne (pc := 81) (tgt := 91) d_MO_count_81 (by decide) (fun _ => ?_) (fun q => absurd q (by decide))
  refine fr_iload_n (pc := 91) d_MO_count_91 rfl rfl ?_
  refine fr_iconst (pc := 92) (v := 1) d_MO_count_92 (by decide) ?_
  refine fr_icmp_ne (pc := 93) (tgt := 103) d_MO_count_93 (by decide) (fun _ => ?_) (fun q => absurd q (by decide))
  refine fr_iload_n (pc := 103) d_MO_count_103 rfl rfl ?_
  refine fr_iconst (pc := 104) (v := 2) d_MO_count_104 (by decide) ?_
  refine fr_icmp_ne (pc := 105) (tgt := 112) d_MO_count_105 (by decide) (fun _ => ?_) (fun q => absurd q (by decide))
  refine fr_iload_n (pc := 112) d_MO_count_112 rfl rfl ?_
  refine fr_iconst (pc := 113) (v := 3) d_MO_count_113 (by decide) ?_
  refine fr_icmp_ne (pc := 114) (tgt := 121) d_MO_count_114 (by decide) (fun q => absurd q (by decide)) (fun _ => ?_)
  refine fr_iload_n (pc := 117) d_MO_count_117 rfl rfl ?_
  refine fr_goto (pc := 118) (tgt := 125) d_MO_count_118 (by decide) ?_
  exact fr_iret rfl d_MO_count_125 ⟨rfl, _, _, _, _, rfl, hc⟩
theorem p_MO_count_4 {g : fw_G} {nc ns : Nat} {w0 : fw_W} {mo : Nat} {ar : Nat → Nat} (hA : fm_ad mo ar) {th so pl po : Int32} {us n : Nat} {F : fm_F} {hu hg : Nat → Nat → Bool} {nd : fs_D} (hc : fm_c us n hu hg nd F) (hs : fm_S us n hu hg nd)  : fw_R g m_MO_count (fm_P g w0 mo ar (.int (nI (fs_sum (fs_cm hu hg) n 0))) 0 (us, n, hu, hg, nd)) nc ns (fm_W g w0 mo ar (th, us, n, so, pl, po) F) 0 [(0, .ref mo), (1, .int (nI 4))] [] := by
  obtain ⟨hok, hub, hgb⟩ := id hs
  have hus := hok.2.1
  have hn := hok.2.2.1
  refine fr_aload_n (pc := 0) d_MO_count_0 rfl rfl ?_
  refine fr_iload_n (pc := 1) d_MO_count_1 rfl rfl ?_
  refine fr_iconst (pc := 2) (v := 0) d_MO_count_2 (by decide) ?_
  refine fr_iconst (pc := 3) (v := 4) d_MO_count_3 (by decide) ?_
  refine fr_calls_p (pc := 4) (nc := nc) (ns := ns) (N := m_MO_within) (rest := [.ref mo]) (as := [.int (nI 4), .int 0, .int 4]) d_MO_count_4 k_MO_within lk_MO_112 sc_MO_within np_MO_within ⟨by decide, by decide, Nat.le_of_ble_eq_true rfl⟩ (Nat.le_of_ble_eq_true rfl) (c_MO_within_y (fm_lt (r := 4) (m := 4) (by omega) (by omega)).1 (fm_lt (r := 4) (m := 4) (by omega) (by omega)).2) rfl ?_
  refine fr_iconst (pc := 7) (v := 1) d_MO_count_7 (by decide) ?_
  refine fr_iconst (pc := 8) (v := 1) d_MO_count_8 (by decide) ?_
  refine fr_callv_p (pc := 9) (nc := nc) (ns := ns) (N := m_MO_goes) (rest := []) (as := [.int 1, .int 1, .int 1]) d_MO_count_9 vc_MO_69 ⟨by decide, by decide, Nat.le_of_ble_eq_true rfl⟩ (Nat.le_of_ble_eq_true rfl) fm_mo (c_MO_goes0 hA) rfl ?_
  refine fr_if_ne (pc := 12) (tgt := 17) d_MO_count_12 (by decide) (fun _ => ?_) (fun q => absurd q (by decide))
  refine fr_iconst (pc := 17) (v := 0) d_MO_count_17 (by decide) ?_
  refine fr_istore_n (pc := 18) (L2 := [(0, .ref mo), (1, .int (nI 4)), (2, .int 0)]) d_MO_count_18 rfl (by decide) rfl ?_
  refine fr_iconst (pc := 19) (v := 0) d_MO_count_19 (by decide) ?_
  refine fr_istore_n (pc := 20) (L2 := [(0, .ref mo), (1, .int (nI 4)), (2, .int 0), (3, .int 0)]) d_MO_count_20 rfl (by decide) rfl ?_
  refine fr_iconst (pc := 21) (v := 0) d_MO_count_21 (by decide) ?_
  refine fr_istore (pc := 22) (L2 := [(0, .ref mo), (1, .int (nI 4)), (2, .int 0), (3, .int 0), (4, .int 0)]) d_MO_count_22 (by decide) rfl ?_
  refine c_MO_count_l hA hc hs 150 0 0 0 rfl ?_
  rw [Nat.zero_add, Nat.zero_add]
  refine fr_iload_n (pc := 80) d_MO_count_80 rfl rfl ?_
  refine fr_if_ne (pc := 81) (tgt := 91) d_MO_count_81 (by decide) (fun _ => ?_) (fun q => absurd q (by decide))
  refine fr_iload_n (pc := 91) d_MO_count_91 rfl rfl ?_
  refine fr_iconst (pc := 92) (v := 1) d_MO_count_92 (by decide) ?_
  refine fr_icmp_ne (pc := 93) (tgt := 103) d_MO_count_93 (by decide) (fun _ => ?_) (fun q => absurd q (by decide))
  refine fr_iload_n (pc := 103) d_MO_count_103 rfl rfl ?_
  refine fr_iconst (pc := 104) (v := 2) d_MO_count_104 (by decide) ?_
  refine fr_icmp_ne (pc := 105) (tgt := 112) d_MO_count_105 (by decide) (fun _ => ?_) (fun q => absurd q (by decide))
  refine fr_iload_n (pc := 112) d_MO_count_112 rfl rfl ?_
  refine fr_iconst (pc := 113) (v := 3) d_MO_count_113 (by decide) ?_
  refine fr_icmp_ne (pc := 114) (tgt := 121) d_MO_count_114 (by decide) (fun _ => ?_) (fun q => absurd q (by decide))
  refine fr_aload_n (pc := 121) d_MO_count_121 rfl rfl ?_
  refine fr_callv_p (pc := 122) (nc := nc) (ns := ns) (N := m_MO_members) (rest := []) (as := []) d_MO_count_122 vc_MO_149 ⟨by decide, by decide, Nat.le_of_ble_eq_true rfl⟩ (Nat.le_of_ble_eq_true rfl) fm_mo (c_MO_members hA hc hs) rfl ?_
  exact fr_iret rfl d_MO_count_125 ⟨rfl, _, _, _, _, rfl, hc⟩
theorem p_MO_count_n {g : fw_G} {nc ns : Nat} {w0 : fw_W} {mo : Nat} {ar : Nat → Nat} (hA : fm_ad mo ar) {th so pl po : Int32} {us n : Nat} {F : fm_F} {hu hg : Nat → Nat → Bool} {nd : fs_D} (hc : fm_c us n hu hg nd F) (hs : fm_S us n hu hg nd) {x : Int32} (hx : fs_no2 x 5) : fw_R g m_MO_count (fm_P g w0 mo ar (.int 0) 1 (us, n, hu, hg, nd)) nc ns (fm_W g w0 mo ar (th, us, n, so, pl, po) F) 0 [(0, .ref mo), (1, .int x)] [] := by
  obtain ⟨hok, hub, hgb⟩ := id hs
  have hus := hok.2.1
  have hn := hok.2.2.1
  refine fr_aload_n (pc := 0) d_MO_count_0 rfl rfl ?_
  refine fr_iload_n (pc := 1) d_MO_count_1 rfl rfl ?_
  refine fr_iconst (pc := 2) (v := 0) d_MO_count_2 (by decide) ?_
  refine fr_iconst (pc := 3) (v := 4) d_MO_count_3 (by decide) ?_
  refine fr_calls_p (pc := 4) (nc := nc) (ns := ns) (N := m_MO_within) (rest := [.ref mo]) (as := [.int x, .int 0, .int 4]) d_MO_count_4 k_MO_within lk_MO_112 sc_MO_within np_MO_within ⟨by decide, by decide, Nat.le_of_ble_eq_true rfl⟩ (Nat.le_of_ble_eq_true rfl) (c_MO_within_n (fm_no (m := 4) (by omega) hx)) rfl ?_
  refine fr_iconst (pc := 7) (v := 1) d_MO_count_7 (by decide) ?_
  refine fr_iconst (pc := 8) (v := 1) d_MO_count_8 (by decide) ?_
  refine fr_callv_p (pc := 9) (nc := nc) (ns := ns) (N := m_MO_goes) (rest := []) (as := [.int 0, .int 1, .int 1]) d_MO_count_9 vc_MO_69 ⟨by decide, by decide, Nat.le_of_ble_eq_true rfl⟩ (Nat.le_of_ble_eq_true rfl) fm_mo (c_MO_goes1 hA) rfl ?_
  refine fr_if_ne (pc := 12) (tgt := 17) d_MO_count_12 (by decide) (fun q => absurd q (by decide)) (fun _ => ?_)
  refine fr_iconst (pc := 15) (v := 0) d_MO_count_15 (by decide) ?_
  exact fr_iret rfl d_MO_count_16 ⟨rfl, _, _, _, _, rfl, hc⟩
theorem c_MO_who_l {g : fw_G} {nc ns : Nat} {w0 : fw_W} {mo : Nat} {ar : Nat → Nat} (hA : fm_ad mo ar) {th : Int32} {us n : Nat} {F : fm_F} {hu hg : Nat → Nat → Bool} {nd : fs_D} (hc : fm_c us n hu hg nd F) (hs : fm_S us n hu hg nd) {k : Nat} {N : fs_N} (hk : nd k = some N) {r qq : Nat} (hr8 : r < 8) (hq : qq < 2 ^ 31) : ∀ m u c (so pl po : Int32), u + m = us → c ≤ qq → fw_R g m_MO_who (fm_P g w0 mo ar (.int (fs_ov (fs_wh (fun u => fs_has hu hg nd N k r u) qq m u c))) th (us, n, hu, hg, nd)) nc ns (fm_W g w0 mo ar (th, us, n, so, pl, po) F) 47 [(0, .ref mo), (1, .int (nI k)), (2, .int (nI r)), (3, .int (nI qq)), (4, .int (nI (qq - c))), (5, .int (nI u))] [] := by
  obtain ⟨hok, hub, hgb⟩ := id hs
  have hus := hok.2.1
  have hk150 := fm_k hok hk
  intro m
  induction m with
  | zero =>
    intro u c so pl po hu2 hcq
    have hu3 : u = us := by omega
    subst hu3
    refine fr_iload (pc := 47) d_MO_who_47 rfl ?_
    refine fr_aload_n (pc := 49) d_MO_who_49 rfl rfl ?_
    refine fr_get (pc := 50) (v := .int (nI u)) d_MO_who_50 fg_MO_7 fm_mo rfl ?_
    refine fr_icmp_geN (pc := 53) (tgt := 92) (a := u) (b := u) d_MO_who_53 (by decide) (by omega) (by omega) (fun _ => ?_) (fun q => absurd q (by omega))
    refine fr_iconst (pc := 92) (v := -1) d_MO_who_92 (by decide) ?_
    exact fr_iret rfl d_MO_who_93 ⟨rfl, _, _, _, _, rfl, hc⟩
  | succ m ih =>
    intro u c so pl po hu2 hcq
    refine fr_iload (pc := 47) d_MO_who_47 rfl ?_
    refine fr_aload_n (pc := 49) d_MO_who_49 rfl rfl ?_
    refine fr_get (pc := 50) (v := .int (nI us)) d_MO_who_50 fg_MO_7 fm_mo rfl ?_
    refine fr_icmp_geN (pc := 53) (tgt := 92) (a := u) (b := us) d_MO_who_53 (by decide) (by omega) (by omega) (fun q => absurd q (by omega)) (fun _ => ?_)
    refine fr_aload_n (pc := 56) d_MO_who_56 rfl rfl ?_
    refine fr_iload (pc := 57) d_MO_who_57 rfl ?_
    refine fr_iload_n (pc := 59) d_MO_who_59 rfl rfl ?_
    refine fr_iload_n (pc := 60) d_MO_who_60 rfl rfl ?_
    refine fr_callv_p (pc := 61) (nc := nc) (ns := ns) (N := m_MO_decide) (rest := []) (as := [.int (nI u), .int (nI k), .int (nI r)]) d_MO_who_61 vc_MO_142 ⟨by decide, by decide, Nat.le_of_ble_eq_true rfl⟩ (Nat.le_of_ble_eq_true rfl) fm_mo (c_MO_decide hA hc hok hk (by omega) hr8) rfl ?_
    refine fr_if_eq (pc := 64) (tgt := 74) d_MO_who_64 (by decide) (fun z => ?_) (fun z => ?_)
    · have z2 : ¬ fs_has hu hg nd N k r u = true := by rw [bI_0.mp z]; decide
      refine fr_iload (pc := 74) d_MO_who_74 rfl ?_
      refine fr_istore (pc := 76) (L2 := [(0, .ref mo), (1, .int (nI k)), (2, .int (nI r)), (3, .int (nI qq)), (4, .int (nI (qq - c))), (5, .int (nI u))]) d_MO_who_76 (by decide) rfl ?_
      refine fr_iload (pc := 78) d_MO_who_78 rfl ?_
      refine fr_if_ge (pc := 80) (tgt := 86) d_MO_who_80 (by decide) (fun _ => ?_) (fun q => absurd (fm_ge (by omega)) q)
      refine fr_iinc (pc := 86) (v := (nI (u + 1))) (L2 := [(0, .ref mo), (1, .int (nI k)), (2, .int (nI r)), (3, .int (nI qq)), (4, .int (nI (qq - c))), (5, .int (nI (u + 1)))]) d_MO_who_86 rfl (fi_1 _) (by decide) rfl ?_
      refine fr_goto (pc := 89) (tgt := 47) d_MO_who_89 (by decide) ?_
      rw [fs_wh, if_neg z2]
      exact ih (u + 1) c _ _ _ (by omega) hcq
    · have z2 := ts_nf (fun x => z (bI_0.mpr x))
      refine fr_iload (pc := 67) d_MO_who_67 rfl ?_
      refine fr_iconst (pc := 69) (v := 1) d_MO_who_69 (by decide) ?_
      by_cases e : c = qq
      · refine fr_isub (pc := 70) d_MO_who_70 ?_
        refine fr_st (st2 := [.int (-1)]) (by rw [show qq - c = 0 from by omega]; rfl) ?_
        refine fr_goto (pc := 71) (tgt := 76) d_MO_who_71 (by decide) ?_
        refine fr_istore (pc := 76) (L2 := [(0, .ref mo), (1, .int (nI k)), (2, .int (nI r)), (3, .int (nI qq)), (4, .int (-1)), (5, .int (nI u))]) d_MO_who_76 (by decide) rfl ?_
        refine fr_iload (pc := 78) d_MO_who_78 rfl ?_
        refine fr_if_ge (pc := 80) (tgt := 86) d_MO_who_80 (by decide) (fun q => absurd q (by decide)) (fun _ => ?_)
        refine fr_iload (pc := 83) d_MO_who_83 rfl ?_
        have e1 : fs_wh (fun u => fs_has hu hg nd N k r u) qq (m + 1) u c = some u := by rw [fs_wh, if_pos z2, if_pos e]
        rw [e1]
        exact fr_iret rfl d_MO_who_85 ⟨rfl, _, _, _, _, rfl, hc⟩
      · refine fr_isubN (pc := 70) (a := (qq - c)) (b := 1) d_MO_who_70 (by omega) ?_
        refine fr_st (st2 := [.int (nI (qq - (c + 1)))]) (by rw [Nat.sub_sub]) ?_
        refine fr_goto (pc := 71) (tgt := 76) d_MO_who_71 (by decide) ?_
        refine fr_istore (pc := 76) (L2 := [(0, .ref mo), (1, .int (nI k)), (2, .int (nI r)), (3, .int (nI qq)), (4, .int (nI (qq - (c + 1)))), (5, .int (nI u))]) d_MO_who_76 (by decide) rfl ?_
        refine fr_iload (pc := 78) d_MO_who_78 rfl ?_
        refine fr_if_ge (pc := 80) (tgt := 86) d_MO_who_80 (by decide) (fun _ => ?_) (fun q => absurd (fm_ge (by omega)) q)
        refine fr_iinc (pc := 86) (v := (nI (u + 1))) (L2 := [(0, .ref mo), (1, .int (nI k)), (2, .int (nI r)), (3, .int (nI qq)), (4, .int (nI (qq - (c + 1)))), (5, .int (nI (u + 1)))]) d_MO_who_86 rfl (fi_1 _) (by decide) rfl ?_
        refine fr_goto (pc := 89) (tgt := 47) d_MO_who_89 (by decide) ?_
        rw [fs_wh, if_pos z2, if_neg e]
        exact ih (u + 1) (c + 1) _ _ _ (by omega) (by omega)
theorem p_MO_who_ok {g : fw_G} {nc ns : Nat} {w0 : fw_W} {mo : Nat} {ar : Nat → Nat} (hA : fm_ad mo ar) {th so pl po : Int32} {us n : Nat} {F : fm_F} {hu hg : Nat → Nat → Bool} {nd : fs_D} (hc : fm_c us n hu hg nd F) (hs : fm_S us n hu hg nd) {k : Nat} {N : fs_N} (hk : nd k = some N) {r qq : Nat} (hr8 : r < 8) (hq : qq < 2 ^ 31) : fw_R g m_MO_who (fm_P g w0 mo ar (.int (fs_ov (fs_wh (fun u => fs_has hu hg (va_up nd k (some (fs_st N false))) (fs_st N false) k r u) qq us 0 0))) 0 (us, n, hu, hg, (va_up nd k (some (fs_st N false))))) nc ns (fm_W g w0 mo ar (th, us, n, so, pl, po) F) 0 [(0, .ref mo), (1, .int (nI k)), (2, .int (nI r)), (3, .int (nI qq))] [] := by
  obtain ⟨hok, hub, hgb⟩ := id hs
  have hus := hok.2.1
  have hn := hok.2.2.1
  have hk150 := fm_k hok hk
  obtain ⟨c5, c6, c8, c9, c10⟩ := hc.2.2.2.2.2.1 k N hk
  obtain ⟨-, hk0, how, hlen, hes, hch, hdep⟩ := hok.2.2.2.2 k N hk
  have hc2 := fm_c_st hc hk
  have hs2 := fm_S_st hs hk
  refine fr_aload_n (pc := 0) d_MO_who_0 rfl rfl ?_
  refine fr_aload_n (pc := 1) d_MO_who_1 rfl rfl ?_
  refine fr_iload_n (pc := 2) d_MO_who_2 rfl rfl ?_
  refine fr_callv_p (pc := 3) (nc := nc) (ns := ns) (N := m_MO_isNode) (rest := [.ref mo]) (as := [.int (nI k)]) d_MO_who_3 vc_MO_91 ⟨by decide, by decide, Nat.le_of_ble_eq_true rfl⟩ (Nat.le_of_ble_eq_true rfl) fm_mo (c_MO_isNode_y hA hk150 (fm_th hc hok hk)) rfl ?_
  refine fr_iload_n (pc := 6) d_MO_who_6 rfl rfl ?_
  refine fr_iconst (pc := 7) (v := 0) d_MO_who_7 (by decide) ?_
  refine fr_bipush (pc := 8) (v := 7) d_MO_who_8 (by decide) ?_
  refine fr_calls_p (pc := 10) (nc := nc) (ns := ns) (N := m_MO_within) (rest := [.int 1, .ref mo]) (as := [.int (nI r), .int 0, .int 7]) d_MO_who_10 k_MO_within lk_MO_112 sc_MO_within np_MO_within ⟨by decide, by decide, Nat.le_of_ble_eq_true rfl⟩ (Nat.le_of_ble_eq_true rfl) (c_MO_within_y (fm_8 hr8).1 (fm_8 hr8).2) rfl ?_
  refine fr_if_eq (pc := 13) (tgt := 24) d_MO_who_13 (by decide) (fun q => absurd q (by decide)) (fun _ => ?_)
  refine fr_iload_n (pc := 16) d_MO_who_16 rfl rfl ?_
  refine fr_if_lt (pc := 17) (tgt := 24) d_MO_who_17 (by decide) (fun q => absurd q (ix_nn (by omega))) (fun _ => ?_)
  refine fr_iconst (pc := 20) (v := 1) d_MO_who_20 (by decide) ?_
  refine fr_goto (pc := 21) (tgt := 25) d_MO_who_21 (by decide) ?_
  refine fr_iconst (pc := 25) (v := 1) d_MO_who_25 (by decide) ?_
  refine fr_callv_p (pc := 26) (nc := nc) (ns := ns) (N := m_MO_goes) (rest := []) (as := [.int 1, .int 1, .int 1]) d_MO_who_26 vc_MO_69 ⟨by decide, by decide, Nat.le_of_ble_eq_true rfl⟩ (Nat.le_of_ble_eq_true rfl) fm_mo (c_MO_goes0 hA) rfl ?_
  refine fr_if_ne (pc := 29) (tgt := 34) d_MO_who_29 (by decide) (fun _ => ?_) (fun q => absurd q (by decide))
  refine fr_aload_n (pc := 34) d_MO_who_34 rfl rfl ?_
  refine fr_get (pc := 35) (v := .ref (ar 7)) d_MO_who_35 fg_MO_35 fm_mo rfl ?_
  refine fr_iload_n (pc := 38) d_MO_who_38 rfl rfl ?_
  refine fr_iconst (pc := 39) (v := 0) d_MO_who_39 (by decide) ?_
  refine fr_mzst (pc := 40) (j := 7) (k := k) (x := 0) d_MO_who_40 hA (by decide) rfl (by show k < 150; omega) (Or.inl rfl) ?_
  refine fr_iload_n (pc := 41) d_MO_who_41 rfl rfl ?_
  refine fr_istore (pc := 42) (L2 := [(0, .ref mo), (1, .int (nI k)), (2, .int (nI r)), (3, .int (nI qq)), (4, .int (nI qq))]) d_MO_who_42 (by decide) rfl ?_
  refine fr_iconst (pc := 44) (v := 0) d_MO_who_44 (by decide) ?_
  refine fr_istore (pc := 45) (L2 := [(0, .ref mo), (1, .int (nI k)), (2, .int (nI r)), (3, .int (nI qq)), (4, .int (nI qq)), (5, .int 0)]) d_MO_who_45 (by decide) rfl ?_
  have h := c_MO_who_l (nc := nc) (ns := ns) (w0 := w0) (g := g) (th := 0) hA hc2 hs2 vu_self hr8 hq us 0 0 so pl po (by omega) (by omega)
  exact h
theorem p_MO_who_n1 {g : fw_G} {nc ns : Nat} {w0 : fw_W} {mo : Nat} {ar : Nat → Nat} (hA : fm_ad mo ar) {th so pl po : Int32} {us n : Nat} {F : fm_F} {hu hg : Nat → Nat → Bool} {nd : fs_D} (hc : fm_c us n hu hg nd F) (hs : fm_S us n hu hg nd) {x y z : Int32} (hx : ∀ k, x = nI k → nd k = none) : fw_R g m_MO_who (fm_P g w0 mo ar (.int 0) 1 (us, n, hu, hg, nd)) nc ns (fm_W g w0 mo ar (th, us, n, so, pl, po) F) 0 [(0, .ref mo), (1, .int x), (2, .int y), (3, .int z)] [] := by
  obtain ⟨hok, hub, hgb⟩ := id hs
  have hus := hok.2.1
  have hn := hok.2.2.1
  refine fr_aload_n (pc := 0) d_MO_who_0 rfl rfl ?_
  refine fr_aload_n (pc := 1) d_MO_who_1 rfl rfl ?_
  refine fr_iload_n (pc := 2) d_MO_who_2 rfl rfl ?_
  refine fr_callv_p (pc := 3) (nc := nc) (ns := ns) (N := m_MO_isNode) (rest := [.ref mo]) (as := [.int x]) d_MO_who_3 vc_MO_91 ⟨by decide, by decide, Nat.le_of_ble_eq_true rfl⟩ (Nat.le_of_ble_eq_true rfl) fm_mo (c_MO_isNode_n hA (fun k hk e => fm_nt hc hk (hx k e))) rfl ?_
  refine fr_iload_n (pc := 6) d_MO_who_6 rfl rfl ?_
  refine fr_iconst (pc := 7) (v := 0) d_MO_who_7 (by decide) ?_
  refine fr_bipush (pc := 8) (v := 7) d_MO_who_8 (by decide) ?_
  refine fr_calls_p (pc := 10) (nc := nc) (ns := ns) (N := m_MO_within) (rest := [.int 0, .ref mo]) (as := [.int y, .int 0, .int 7]) d_MO_who_10 k_MO_within lk_MO_112 sc_MO_within np_MO_within ⟨by decide, by decide, Nat.le_of_ble_eq_true rfl⟩ (Nat.le_of_ble_eq_true rfl) c_MO_within rfl ?_
  refine fr_if_eq (pc := 13) (tgt := 24) d_MO_who_13 (by decide) (fun b13 => ?_) (fun b13 => ?_)
  · refine fr_iconst (pc := 24) (v := 0) d_MO_who_24 (by decide) ?_
    refine fr_iconst (pc := 25) (v := 1) d_MO_who_25 (by decide) ?_
    refine fr_callv_p (pc := 26) (nc := nc) (ns := ns) (N := m_MO_goes) (rest := []) (as := [.int 0, .int 0, .int 1]) d_MO_who_26 vc_MO_69 ⟨by decide, by decide, Nat.le_of_ble_eq_true rfl⟩ (Nat.le_of_ble_eq_true rfl) fm_mo (c_MO_goes1 hA) rfl ?_
    refine fr_if_ne (pc := 29) (tgt := 34) d_MO_who_29 (by decide) (fun q => absurd q (by decide)) (fun _ => ?_)
    refine fr_iconst (pc := 32) (v := 0) d_MO_who_32 (by decide) ?_
    exact fr_iret rfl d_MO_who_33 ⟨rfl, _, _, _, _, rfl, hc⟩
  · refine fr_iload_n (pc := 16) d_MO_who_16 rfl rfl ?_
    refine fr_if_lt (pc := 17) (tgt := 24) d_MO_who_17 (by decide) (fun b17 => ?_) (fun b17 => ?_)
    · refine fr_iconst (pc := 24) (v := 0) d_MO_who_24 (by decide) ?_
      refine fr_iconst (pc := 25) (v := 1) d_MO_who_25 (by decide) ?_
      refine fr_callv_p (pc := 26) (nc := nc) (ns := ns) (N := m_MO_goes) (rest := []) (as := [.int 0, .int 0, .int 1]) d_MO_who_26 vc_MO_69 ⟨by decide, by decide, Nat.le_of_ble_eq_true rfl⟩ (Nat.le_of_ble_eq_true rfl) fm_mo (c_MO_goes1 hA) rfl ?_
      refine fr_if_ne (pc := 29) (tgt := 34) d_MO_who_29 (by decide) (fun q => absurd q (by decide)) (fun _ => ?_)
      refine fr_iconst (pc := 32) (v := 0) d_MO_who_32 (by decide) ?_
      exact fr_iret rfl d_MO_who_33 ⟨rfl, _, _, _, _, rfl, hc⟩
    · refine fr_iconst (pc := 20) (v := 1) d_MO_who_20 (by decide) ?_
      refine fr_goto (pc := 21) (tgt := 25) d_MO_who_21 (by decide) ?_
      refine fr_iconst (pc := 25) (v := 1) d_MO_who_25 (by decide) ?_
      refine fr_callv_p (pc := 26) (nc := nc) (ns := ns) (N := m_MO_goes) (rest := []) (as := [.int 0, .int 1, .int 1]) d_MO_who_26 vc_MO_69 ⟨by decide, by decide, Nat.le_of_ble_eq_true rfl⟩ (Nat.le_of_ble_eq_true rfl) fm_mo (c_MO_goes1 hA) rfl ?_
      refine fr_if_ne (pc := 29) (tgt := 34) d_MO_who_29 (by decide) (fun q => absurd q (by decide)) (fun _ => ?_)
      refine fr_iconst (pc := 32) (v := 0) d_MO_who_32 (by decide) ?_
      exact fr_iret rfl d_MO_who_33 ⟨rfl, _, _, _, _, rfl, hc⟩
theorem p_MO_who_n2 {g : fw_G} {nc ns : Nat} {w0 : fw_W} {mo : Nat} {ar : Nat → Nat} (hA : fm_ad mo ar) {th so pl po : Int32} {us n : Nat} {F : fm_F} {hu hg : Nat → Nat → Bool} {nd : fs_D} (hc : fm_c us n hu hg nd F) (hs : fm_S us n hu hg nd) {k : Nat} {N : fs_N} (hk : nd k = some N) {y z : Int32} (hy : fs_no2 y 8) : fw_R g m_MO_who (fm_P g w0 mo ar (.int 0) 2 (us, n, hu, hg, nd)) nc ns (fm_W g w0 mo ar (th, us, n, so, pl, po) F) 0 [(0, .ref mo), (1, .int (nI k)), (2, .int y), (3, .int z)] [] := by
  obtain ⟨hok, hub, hgb⟩ := id hs
  have hus := hok.2.1
  have hn := hok.2.2.1
  have hk150 := fm_k hok hk
  obtain ⟨c5, c6, c8, c9, c10⟩ := hc.2.2.2.2.2.1 k N hk
  obtain ⟨-, hk0, how, hlen, hes, hch, hdep⟩ := hok.2.2.2.2 k N hk
  refine fr_aload_n (pc := 0) d_MO_who_0 rfl rfl ?_
  refine fr_aload_n (pc := 1) d_MO_who_1 rfl rfl ?_
  refine fr_iload_n (pc := 2) d_MO_who_2 rfl rfl ?_
  refine fr_callv_p (pc := 3) (nc := nc) (ns := ns) (N := m_MO_isNode) (rest := [.ref mo]) (as := [.int (nI k)]) d_MO_who_3 vc_MO_91 ⟨by decide, by decide, Nat.le_of_ble_eq_true rfl⟩ (Nat.le_of_ble_eq_true rfl) fm_mo (c_MO_isNode_y hA hk150 (fm_th hc hok hk)) rfl ?_
  refine fr_iload_n (pc := 6) d_MO_who_6 rfl rfl ?_
  refine fr_iconst (pc := 7) (v := 0) d_MO_who_7 (by decide) ?_
  refine fr_bipush (pc := 8) (v := 7) d_MO_who_8 (by decide) ?_
  refine fr_calls_p (pc := 10) (nc := nc) (ns := ns) (N := m_MO_within) (rest := [.int 1, .ref mo]) (as := [.int y, .int 0, .int 7]) d_MO_who_10 k_MO_within lk_MO_112 sc_MO_within np_MO_within ⟨by decide, by decide, Nat.le_of_ble_eq_true rfl⟩ (Nat.le_of_ble_eq_true rfl) (c_MO_within_n (fm_no (m := 7) (by omega) hy)) rfl ?_
  refine fr_if_eq (pc := 13) (tgt := 24) d_MO_who_13 (by decide) (fun _ => ?_) (fun q => absurd q (by decide))
  refine fr_iconst (pc := 24) (v := 0) d_MO_who_24 (by decide) ?_
  refine fr_iconst (pc := 25) (v := 1) d_MO_who_25 (by decide) ?_
  refine fr_callv_p (pc := 26) (nc := nc) (ns := ns) (N := m_MO_goes) (rest := []) (as := [.int 1, .int 0, .int 1]) d_MO_who_26 vc_MO_69 ⟨by decide, by decide, Nat.le_of_ble_eq_true rfl⟩ (Nat.le_of_ble_eq_true rfl) fm_mo (c_MO_goes2 hA) rfl ?_
  refine fr_if_ne (pc := 29) (tgt := 34) d_MO_who_29 (by decide) (fun q => absurd q (by decide)) (fun _ => ?_)
  refine fr_iconst (pc := 32) (v := 0) d_MO_who_32 (by decide) ?_
  exact fr_iret rfl d_MO_who_33 ⟨rfl, _, _, _, _, rfl, hc⟩
theorem p_MO_who_n3 {g : fw_G} {nc ns : Nat} {w0 : fw_W} {mo : Nat} {ar : Nat → Nat} (hA : fm_ad mo ar) {th so pl po : Int32} {us n : Nat} {F : fm_F} {hu hg : Nat → Nat → Bool} {nd : fs_D} (hc : fm_c us n hu hg nd F) (hs : fm_S us n hu hg nd) {k : Nat} {N : fs_N} (hk : nd k = some N) {r : Nat} {z : Int32} (hr8 : r < 8) (hz : z < 0) : fw_R g m_MO_who (fm_P g w0 mo ar (.int 0) 2 (us, n, hu, hg, nd)) nc ns (fm_W g w0 mo ar (th, us, n, so, pl, po) F) 0 [(0, .ref mo), (1, .int (nI k)), (2, .int (nI r)), (3, .int z)] [] := by
  obtain ⟨hok, hub, hgb⟩ := id hs
  have hus := hok.2.1
  have hn := hok.2.2.1
  have hk150 := fm_k hok hk
  obtain ⟨c5, c6, c8, c9, c10⟩ := hc.2.2.2.2.2.1 k N hk
  obtain ⟨-, hk0, how, hlen, hes, hch, hdep⟩ := hok.2.2.2.2 k N hk
  refine fr_aload_n (pc := 0) d_MO_who_0 rfl rfl ?_
  refine fr_aload_n (pc := 1) d_MO_who_1 rfl rfl ?_
  refine fr_iload_n (pc := 2) d_MO_who_2 rfl rfl ?_
  refine fr_callv_p (pc := 3) (nc := nc) (ns := ns) (N := m_MO_isNode) (rest := [.ref mo]) (as := [.int (nI k)]) d_MO_who_3 vc_MO_91 ⟨by decide, by decide, Nat.le_of_ble_eq_true rfl⟩ (Nat.le_of_ble_eq_true rfl) fm_mo (c_MO_isNode_y hA hk150 (fm_th hc hok hk)) rfl ?_
  refine fr_iload_n (pc := 6) d_MO_who_6 rfl rfl ?_
  refine fr_iconst (pc := 7) (v := 0) d_MO_who_7 (by decide) ?_
  refine fr_bipush (pc := 8) (v := 7) d_MO_who_8 (by decide) ?_
  refine fr_calls_p (pc := 10) (nc := nc) (ns := ns) (N := m_MO_within) (rest := [.int 1, .ref mo]) (as := [.int (nI r), .int 0, .int 7]) d_MO_who_10 k_MO_within lk_MO_112 sc_MO_within np_MO_within ⟨by decide, by decide, Nat.le_of_ble_eq_true rfl⟩ (Nat.le_of_ble_eq_true rfl) (c_MO_within_y (fm_8 hr8).1 (fm_8 hr8).2) rfl ?_
  refine fr_if_eq (pc := 13) (tgt := 24) d_MO_who_13 (by decide) (fun q => absurd q (by decide)) (fun _ => ?_)
  refine fr_iload_n (pc := 16) d_MO_who_16 rfl rfl ?_
  refine fr_if_lt (pc := 17) (tgt := 24) d_MO_who_17 (by decide) (fun _ => ?_) (fun q => absurd hz q)
  refine fr_iconst (pc := 24) (v := 0) d_MO_who_24 (by decide) ?_
  refine fr_iconst (pc := 25) (v := 1) d_MO_who_25 (by decide) ?_
  refine fr_callv_p (pc := 26) (nc := nc) (ns := ns) (N := m_MO_goes) (rest := []) (as := [.int 1, .int 0, .int 1]) d_MO_who_26 vc_MO_69 ⟨by decide, by decide, Nat.le_of_ble_eq_true rfl⟩ (Nat.le_of_ble_eq_true rfl) fm_mo (c_MO_goes2 hA) rfl ?_
  refine fr_if_ne (pc := 29) (tgt := 34) d_MO_who_29 (by decide) (fun q => absurd q (by decide)) (fun _ => ?_)
  refine fr_iconst (pc := 32) (v := 0) d_MO_who_32 (by decide) ?_
  exact fr_iret rfl d_MO_who_33 ⟨rfl, _, _, _, _, rfl, hc⟩
theorem fm_S_wk {us n : Nat} {hu hg : Nat → Nat → Bool} {nd : fs_D} (hs : fm_S us n hu hg nd) {i : Nat} : fm_S us n hu hg (fs_wk nd i) := ⟨fs_ok_wk hs.1, hs.2.1, hs.2.2⟩
theorem c_MO_where_l {g : fw_G} {nc ns : Nat} {w0 : fw_W} {mo : Nat} {ar : Nat → Nat} (hA : fm_ad mo ar) {th : Int32} {us n : Nat} {hu hg : Nat → Nat → Bool} {nd : fs_D} (hs : fm_S us n hu hg nd) {u r qq : Nat} (hu2 : u < us) (hr8 : r < 8) (hq : qq < 2 ^ 31) : ∀ m i c (F : fm_F) (so pl po : Int32), i + m = 150 → c ≤ qq → fm_c us n hu hg (fs_wk nd i) F → fw_R g m_MO_where (fm_P g w0 mo ar (.int (fs_ov (fs_wh (fs_wp hu hg nd r u) qq m i c))) th (us, n, hu, hg, fs_wS nd (fs_wh (fs_wp hu hg nd r u) qq m i c))) nc ns (fm_W g w0 mo ar (th, us, n, so, pl, po) F) 40 [(0, .ref mo), (1, .int (nI u)), (2, .int (nI r)), (3, .int (nI qq)), (4, .int (nI (qq - c))), (5, .int (nI i))] [] := by
  obtain ⟨hok, hub, hgb⟩ := id hs
  have hus := hok.2.1
  intro m
  induction m with
  | zero =>
    intro i c F so pl po hi hcq hc
    have hi2 : i = 150 := by omega
    subst hi2
    refine fr_iload (pc := 40) d_MO_where_40 rfl ?_
    refine fr_sipush (pc := 42) (v := 150) d_MO_where_42 (by decide) ?_
    refine fr_icmp_geN (pc := 45) (tgt := 102) (a := 150) (b := 150) d_MO_where_45 (by decide) (by omega) (by omega) (fun _ => ?_) (fun q => absurd q (by omega))
    refine fr_iconst (pc := 102) (v := -1) d_MO_where_102 (by decide) ?_
    exact fr_iret rfl d_MO_where_103 ⟨rfl, _, _, _, _, rfl, hc⟩
  | succ m ih =>
    intro i c F so pl po hi hcq hc
    have h4 := hc.2.2.2.1 i (by omega)
    rw [fs_wk_at] at h4
    refine fr_iload (pc := 40) d_MO_where_40 rfl ?_
    refine fr_sipush (pc := 42) (v := 150) d_MO_where_42 (by decide) ?_
    refine fr_icmp_geN (pc := 45) (tgt := 102) (a := i) (b := 150) d_MO_where_45 (by decide) (by omega) (by omega) (fun q => absurd q (by omega)) (fun _ => ?_)
    refine fr_aload_n (pc := 48) d_MO_where_48 rfl rfl ?_
    refine fr_get (pc := 49) (v := .ref (ar 4)) d_MO_where_49 fg_MO_26 fm_mo rfl ?_
    refine fr_iload (pc := 52) d_MO_where_52 rfl ?_
    refine fr_mzld (pc := 54) (j := 4) (k := i) d_MO_where_54 hA (by decide) rfl (by show i < 150; omega) ?_
    cases hN : nd i with
    | none =>
      refine fr_st (st2 := [.int 0]) (by rw [h4, hN]; rfl) ?_
      refine fr_if_eq (pc := 55) (tgt := 88) d_MO_where_55 (by decide) (fun _ => ?_) (fun q => absurd q (by decide))
      refine fr_iload (pc := 88) d_MO_where_88 rfl ?_
      refine fr_if_ge (pc := 90) (tgt := 96) d_MO_where_90 (by decide) (fun _ => ?_) (fun q => absurd (fm_ge (by omega)) q)
      refine fr_iinc (pc := 96) (v := (nI (i + 1))) (L2 := [(0, .ref mo), (1, .int (nI u)), (2, .int (nI r)), (3, .int (nI qq)), (4, .int (nI (qq - c))), (5, .int (nI (i + 1)))]) d_MO_where_96 rfl (fi_1 _) (by decide) rfl ?_
      refine fr_goto (pc := 99) (tgt := 40) d_MO_where_99 (by decide) ?_
      have e1 : (fs_wh (fs_wp hu hg nd r u) qq (m + 1) i c) = (fs_wh (fs_wp hu hg nd r u) qq m (i + 1) c) := by
        have e2 : ¬ fs_wp hu hg nd r u i = true := by simp [fs_wp, hN]
        rw [fs_wh, if_neg e2]
      rw [e1]
      exact ih (i + 1) c F _ _ _ (by omega) hcq (by rw [fs_wk_no hN]; exact hc)
    | some N =>
      have hwi : fs_wk nd i i = some N := by rw [fs_wk_at]; exact hN
      have hc2 := fm_c_st hc hwi
      rw [← fs_wk_yes hN] at hc2
      have hw2 : fs_wk nd (i + 1) i = some (fs_st N false) := by rw [fs_wk_yes hN, vu_self]
      have ewp : fs_wp hu hg nd r u i = fs_has hu hg (fs_wk nd (i + 1)) (fs_st N false) i r u := by simp [fs_wp, hN]
      refine fr_st (st2 := [.int 1]) (by rw [h4, hN]; rfl) ?_
      refine fr_if_eq (pc := 55) (tgt := 88) d_MO_where_55 (by decide) (fun q => absurd q (by decide)) (fun _ => ?_)
      refine fr_aload_n (pc := 58) d_MO_where_58 rfl rfl ?_
      refine fr_get (pc := 59) (v := .ref (ar 7)) d_MO_where_59 fg_MO_35 fm_mo rfl ?_
      refine fr_iload (pc := 62) d_MO_where_62 rfl ?_
      refine fr_iconst (pc := 64) (v := 0) d_MO_where_64 (by decide) ?_
      refine fr_mzst (pc := 65) (j := 7) (k := i) (x := 0) d_MO_where_65 hA (by decide) rfl (by show i < 150; omega) (Or.inl rfl) ?_
      refine fr_aload_n (pc := 66) d_MO_where_66 rfl rfl ?_
      refine fr_iload_n (pc := 67) d_MO_where_67 rfl rfl ?_
      refine fr_iload (pc := 68) d_MO_where_68 rfl ?_
      refine fr_iload_n (pc := 70) d_MO_where_70 rfl rfl ?_
      refine fr_callv_p (pc := 71) (nc := nc) (ns := ns) (N := m_MO_decide) (rest := []) (as := [.int (nI u), .int (nI i), .int (nI r)]) d_MO_where_71 vc_MO_142 ⟨by decide, by decide, Nat.le_of_ble_eq_true rfl⟩ (Nat.le_of_ble_eq_true rfl) fm_mo (c_MO_decide hA hc2 (fs_ok_wk hok) hw2 hu2 hr8) rfl ?_
      refine fr_st (st2 := [.int (bI (fs_wp hu hg nd r u i))]) (by rw [ewp]) ?_
      refine fr_if_eq (pc := 74) (tgt := 84) d_MO_where_74 (by decide) (fun z => ?_) (fun z => ?_)
      · have z2 : ¬ fs_wp hu hg nd r u i = true := by rw [bI_0.mp z]; decide
        refine fr_iload (pc := 84) d_MO_where_84 rfl ?_
        refine fr_istore (pc := 86) (L2 := [(0, .ref mo), (1, .int (nI u)), (2, .int (nI r)), (3, .int (nI qq)), (4, .int (nI (qq - c))), (5, .int (nI i))]) d_MO_where_86 (by decide) rfl ?_
        refine fr_iload (pc := 88) d_MO_where_88 rfl ?_
        refine fr_if_ge (pc := 90) (tgt := 96) d_MO_where_90 (by decide) (fun _ => ?_) (fun q => absurd (fm_ge (by omega)) q)
        refine fr_iinc (pc := 96) (v := (nI (i + 1))) (L2 := [(0, .ref mo), (1, .int (nI u)), (2, .int (nI r)), (3, .int (nI qq)), (4, .int (nI (qq - c))), (5, .int (nI (i + 1)))]) d_MO_where_96 rfl (fi_1 _) (by decide) rfl ?_
        refine fr_goto (pc := 99) (tgt := 40) d_MO_where_99 (by decide) ?_
        rw [fs_wh, if_neg z2]
        exact ih (i + 1) c _ _ _ _ (by omega) hcq hc2
      · have z2 := ts_nf (fun x => z (bI_0.mpr x))
        refine fr_iload (pc := 77) d_MO_where_77 rfl ?_
        refine fr_iconst (pc := 79) (v := 1) d_MO_where_79 (by decide) ?_
        by_cases e : c = qq
        · refine fr_isub (pc := 80) d_MO_where_80 ?_
          refine fr_st (st2 := [.int (-1)]) (by rw [show qq - c = 0 from by omega]; rfl) ?_
          refine fr_goto (pc := 81) (tgt := 86) d_MO_where_81 (by decide) ?_
          refine fr_istore (pc := 86) (L2 := [(0, .ref mo), (1, .int (nI u)), (2, .int (nI r)), (3, .int (nI qq)), (4, .int (-1)), (5, .int (nI i))]) d_MO_where_86 (by decide) rfl ?_
          refine fr_iload (pc := 88) d_MO_where_88 rfl ?_
          refine fr_if_ge (pc := 90) (tgt := 96) d_MO_where_90 (by decide) (fun q => absurd q (by decide)) (fun _ => ?_)
          refine fr_iload (pc := 93) d_MO_where_93 rfl ?_
          have e1 : (fs_wh (fs_wp hu hg nd r u) qq (m + 1) i c) = some i := by rw [fs_wh, if_pos z2, if_pos e]
          rw [e1]
          exact fr_iret rfl d_MO_where_95 ⟨rfl, _, _, _, _, rfl, hc2⟩
        · refine fr_isubN (pc := 80) (a := (qq - c)) (b := 1) d_MO_where_80 (by omega) ?_
          refine fr_st (st2 := [.int (nI (qq - (c + 1)))]) (by rw [Nat.sub_sub]) ?_
          refine fr_goto (pc := 81) (tgt := 86) d_MO_where_81 (by decide) ?_
          refine fr_istore (pc := 86) (L2 := [(0, .ref mo), (1, .int (nI u)), (2, .int (nI r)), (3, .int (nI qq)), (4, .int (nI (qq - (c + 1)))), (5, .int (nI i))]) d_MO_where_86 (by decide) rfl ?_
          refine fr_iload (pc := 88) d_MO_where_88 rfl ?_
          refine fr_if_ge (pc := 90) (tgt := 96) d_MO_where_90 (by decide) (fun _ => ?_) (fun q => absurd (fm_ge (by omega)) q)
          refine fr_iinc (pc := 96) (v := (nI (i + 1))) (L2 := [(0, .ref mo), (1, .int (nI u)), (2, .int (nI r)), (3, .int (nI qq)), (4, .int (nI (qq - (c + 1)))), (5, .int (nI (i + 1)))]) d_MO_where_96 rfl (fi_1 _) (by decide) rfl ?_
          refine fr_goto (pc := 99) (tgt := 40) d_MO_where_99 (by decide) ?_
          rw [fs_wh, if_pos z2, if_neg e]
          exact ih (i + 1) (c + 1) _ _ _ _ (by omega) (by omega) hc2
theorem p_MO_where_ok {g : fw_G} {nc ns : Nat} {w0 : fw_W} {mo : Nat} {ar : Nat → Nat} (hA : fm_ad mo ar) {th so pl po : Int32} {us n : Nat} {F : fm_F} {hu hg : Nat → Nat → Bool} {nd : fs_D} (hc : fm_c us n hu hg nd F) (hs : fm_S us n hu hg nd) {u r qq : Nat} (hu2 : u < us) (hr8 : r < 8) (hq : qq < 2 ^ 31) : fw_R g m_MO_where (fm_P g w0 mo ar (.int (fs_ov (fs_wh (fs_wp hu hg nd r u) qq 150 0 0))) 0 (us, n, hu, hg, fs_wS nd (fs_wh (fs_wp hu hg nd r u) qq 150 0 0))) nc ns (fm_W g w0 mo ar (th, us, n, so, pl, po) F) 0 [(0, .ref mo), (1, .int (nI u)), (2, .int (nI r)), (3, .int (nI qq))] [] := by
  obtain ⟨hok, hub, hgb⟩ := id hs
  have hus := hok.2.1
  have hn := hok.2.2.1
  refine fr_aload_n (pc := 0) d_MO_where_0 rfl rfl ?_
  refine fr_aload_n (pc := 1) d_MO_where_1 rfl rfl ?_
  refine fr_iload_n (pc := 2) d_MO_where_2 rfl rfl ?_
  refine fr_callv_p (pc := 3) (nc := nc) (ns := ns) (N := m_MO_isUser) (rest := [.ref mo]) (as := [.int (nI u)]) d_MO_where_3 vc_MO_77 ⟨by decide, by decide, Nat.le_of_ble_eq_true rfl⟩ (Nat.le_of_ble_eq_true rfl) fm_mo (c_MO_isUser_y hA hu2 (by omega)) rfl ?_
  refine fr_iload_n (pc := 6) d_MO_where_6 rfl rfl ?_
  refine fr_iconst (pc := 7) (v := 0) d_MO_where_7 (by decide) ?_
  refine fr_bipush (pc := 8) (v := 7) d_MO_where_8 (by decide) ?_
  refine fr_calls_p (pc := 10) (nc := nc) (ns := ns) (N := m_MO_within) (rest := [.int 1, .ref mo]) (as := [.int (nI r), .int 0, .int 7]) d_MO_where_10 k_MO_within lk_MO_112 sc_MO_within np_MO_within ⟨by decide, by decide, Nat.le_of_ble_eq_true rfl⟩ (Nat.le_of_ble_eq_true rfl) (c_MO_within_y (fm_8 hr8).1 (fm_8 hr8).2) rfl ?_
  refine fr_if_eq (pc := 13) (tgt := 24) d_MO_where_13 (by decide) (fun q => absurd q (by decide)) (fun _ => ?_)
  refine fr_iload_n (pc := 16) d_MO_where_16 rfl rfl ?_
  refine fr_if_lt (pc := 17) (tgt := 24) d_MO_where_17 (by decide) (fun q => absurd q (ix_nn (by omega))) (fun _ => ?_)
  refine fr_iconst (pc := 20) (v := 1) d_MO_where_20 (by decide) ?_
  refine fr_goto (pc := 21) (tgt := 25) d_MO_where_21 (by decide) ?_
  refine fr_iconst (pc := 25) (v := 1) d_MO_where_25 (by decide) ?_
  refine fr_callv_p (pc := 26) (nc := nc) (ns := ns) (N := m_MO_goes) (rest := []) (as := [.int 1, .int 1, .int 1]) d_MO_where_26 vc_MO_69 ⟨by decide, by decide, Nat.le_of_ble_eq_true rfl⟩ (Nat.le_of_ble_eq_true rfl) fm_mo (c_MO_goes0 hA) rfl ?_
  refine fr_if_ne (pc := 29) (tgt := 34) d_MO_where_29 (by decide) (fun _ => ?_) (fun q => absurd q (by decide))
  refine fr_iload_n (pc := 34) d_MO_where_34 rfl rfl ?_
  refine fr_istore (pc := 35) (L2 := [(0, .ref mo), (1, .int (nI u)), (2, .int (nI r)), (3, .int (nI qq)), (4, .int (nI qq))]) d_MO_where_35 (by decide) rfl ?_
  refine fr_iconst (pc := 37) (v := 0) d_MO_where_37 (by decide) ?_
  refine fr_istore (pc := 38) (L2 := [(0, .ref mo), (1, .int (nI u)), (2, .int (nI r)), (3, .int (nI qq)), (4, .int (nI qq)), (5, .int 0)]) d_MO_where_38 (by decide) rfl ?_
  exact c_MO_where_l hA hs hu2 hr8 hq 150 0 0 F so pl po rfl (by omega) (by rw [fs_wk_0]; exact hc)
theorem p_MO_where_n1 {g : fw_G} {nc ns : Nat} {w0 : fw_W} {mo : Nat} {ar : Nat → Nat} (hA : fm_ad mo ar) {th so pl po : Int32} {us n : Nat} {F : fm_F} {hu hg : Nat → Nat → Bool} {nd : fs_D} (hc : fm_c us n hu hg nd F) (hs : fm_S us n hu hg nd) {x y z : Int32} (hx : fs_no2 x us) : fw_R g m_MO_where (fm_P g w0 mo ar (.int 0) 1 (us, n, hu, hg, nd)) nc ns (fm_W g w0 mo ar (th, us, n, so, pl, po) F) 0 [(0, .ref mo), (1, .int x), (2, .int y), (3, .int z)] [] := by
  obtain ⟨hok, hub, hgb⟩ := id hs
  have hus := hok.2.1
  have hn := hok.2.2.1
  refine fr_aload_n (pc := 0) d_MO_where_0 rfl rfl ?_
  refine fr_aload_n (pc := 1) d_MO_where_1 rfl rfl ?_
  refine fr_iload_n (pc := 2) d_MO_where_2 rfl rfl ?_
  refine fr_callv_p (pc := 3) (nc := nc) (ns := ns) (N := m_MO_isUser) (rest := [.ref mo]) (as := [.int x]) d_MO_where_3 vc_MO_77 ⟨by decide, by decide, Nat.le_of_ble_eq_true rfl⟩ (Nat.le_of_ble_eq_true rfl) fm_mo (c_MO_isUser_n hA hx (by omega)) rfl ?_
  refine fr_iload_n (pc := 6) d_MO_where_6 rfl rfl ?_
  refine fr_iconst (pc := 7) (v := 0) d_MO_where_7 (by decide) ?_
  refine fr_bipush (pc := 8) (v := 7) d_MO_where_8 (by decide) ?_
  refine fr_calls_p (pc := 10) (nc := nc) (ns := ns) (N := m_MO_within) (rest := [.int 0, .ref mo]) (as := [.int y, .int 0, .int 7]) d_MO_where_10 k_MO_within lk_MO_112 sc_MO_within np_MO_within ⟨by decide, by decide, Nat.le_of_ble_eq_true rfl⟩ (Nat.le_of_ble_eq_true rfl) c_MO_within rfl ?_
  refine fr_if_eq (pc := 13) (tgt := 24) d_MO_where_13 (by decide) (fun b13 => ?_) (fun b13 => ?_)
  · refine fr_iconst (pc := 24) (v := 0) d_MO_where_24 (by decide) ?_
    refine fr_iconst (pc := 25) (v := 1) d_MO_where_25 (by decide) ?_
    refine fr_callv_p (pc := 26) (nc := nc) (ns := ns) (N := m_MO_goes) (rest := []) (as := [.int 0, .int 0, .int 1]) d_MO_where_26 vc_MO_69 ⟨by decide, by decide, Nat.le_of_ble_eq_true rfl⟩ (Nat.le_of_ble_eq_true rfl) fm_mo (c_MO_goes1 hA) rfl ?_
    refine fr_if_ne (pc := 29) (tgt := 34) d_MO_where_29 (by decide) (fun q => absurd q (by decide)) (fun _ => ?_)
    refine fr_iconst (pc := 32) (v := 0) d_MO_where_32 (by decide) ?_
    exact fr_iret rfl d_MO_where_33 ⟨rfl, _, _, _, _, rfl, hc⟩
  · refine fr_iload_n (pc := 16) d_MO_where_16 rfl rfl ?_
    refine fr_if_lt (pc := 17) (tgt := 24) d_MO_where_17 (by decide) (fun b17 => ?_) (fun b17 => ?_)
    · refine fr_iconst (pc := 24) (v := 0) d_MO_where_24 (by decide) ?_
      refine fr_iconst (pc := 25) (v := 1) d_MO_where_25 (by decide) ?_
      refine fr_callv_p (pc := 26) (nc := nc) (ns := ns) (N := m_MO_goes) (rest := []) (as := [.int 0, .int 0, .int 1]) d_MO_where_26 vc_MO_69 ⟨by decide, by decide, Nat.le_of_ble_eq_true rfl⟩ (Nat.le_of_ble_eq_true rfl) fm_mo (c_MO_goes1 hA) rfl ?_
      refine fr_if_ne (pc := 29) (tgt := 34) d_MO_where_29 (by decide) (fun q => absurd q (by decide)) (fun _ => ?_)
      refine fr_iconst (pc := 32) (v := 0) d_MO_where_32 (by decide) ?_
      exact fr_iret rfl d_MO_where_33 ⟨rfl, _, _, _, _, rfl, hc⟩
    · refine fr_iconst (pc := 20) (v := 1) d_MO_where_20 (by decide) ?_
      refine fr_goto (pc := 21) (tgt := 25) d_MO_where_21 (by decide) ?_
      refine fr_iconst (pc := 25) (v := 1) d_MO_where_25 (by decide) ?_
      refine fr_callv_p (pc := 26) (nc := nc) (ns := ns) (N := m_MO_goes) (rest := []) (as := [.int 0, .int 1, .int 1]) d_MO_where_26 vc_MO_69 ⟨by decide, by decide, Nat.le_of_ble_eq_true rfl⟩ (Nat.le_of_ble_eq_true rfl) fm_mo (c_MO_goes1 hA) rfl ?_
      refine fr_if_ne (pc := 29) (tgt := 34) d_MO_where_29 (by decide) (fun q => absurd q (by decide)) (fun _ => ?_)
      refine fr_iconst (pc := 32) (v := 0) d_MO_where_32 (by decide) ?_
      exact fr_iret rfl d_MO_where_33 ⟨rfl, _, _, _, _, rfl, hc⟩
theorem p_MO_where_n2 {g : fw_G} {nc ns : Nat} {w0 : fw_W} {mo : Nat} {ar : Nat → Nat} (hA : fm_ad mo ar) {th so pl po : Int32} {us n : Nat} {F : fm_F} {hu hg : Nat → Nat → Bool} {nd : fs_D} (hc : fm_c us n hu hg nd F) (hs : fm_S us n hu hg nd) {u : Nat} {y z : Int32} (hu2 : u < us) (hy : fs_no2 y 8) : fw_R g m_MO_where (fm_P g w0 mo ar (.int 0) 2 (us, n, hu, hg, nd)) nc ns (fm_W g w0 mo ar (th, us, n, so, pl, po) F) 0 [(0, .ref mo), (1, .int (nI u)), (2, .int y), (3, .int z)] [] := by
  obtain ⟨hok, hub, hgb⟩ := id hs
  have hus := hok.2.1
  have hn := hok.2.2.1
  refine fr_aload_n (pc := 0) d_MO_where_0 rfl rfl ?_
  refine fr_aload_n (pc := 1) d_MO_where_1 rfl rfl ?_
  refine fr_iload_n (pc := 2) d_MO_where_2 rfl rfl ?_
  refine fr_callv_p (pc := 3) (nc := nc) (ns := ns) (N := m_MO_isUser) (rest := [.ref mo]) (as := [.int (nI u)]) d_MO_where_3 vc_MO_77 ⟨by decide, by decide, Nat.le_of_ble_eq_true rfl⟩ (Nat.le_of_ble_eq_true rfl) fm_mo (c_MO_isUser_y hA hu2 (by omega)) rfl ?_
  refine fr_iload_n (pc := 6) d_MO_where_6 rfl rfl ?_
  refine fr_iconst (pc := 7) (v := 0) d_MO_where_7 (by decide) ?_
  refine fr_bipush (pc := 8) (v := 7) d_MO_where_8 (by decide) ?_
  refine fr_calls_p (pc := 10) (nc := nc) (ns := ns) (N := m_MO_within) (rest := [.int 1, .ref mo]) (as := [.int y, .int 0, .int 7]) d_MO_where_10 k_MO_within lk_MO_112 sc_MO_within np_MO_within ⟨by decide, by decide, Nat.le_of_ble_eq_true rfl⟩ (Nat.le_of_ble_eq_true rfl) (c_MO_within_n (fm_no (m := 7) (by omega) hy)) rfl ?_
  refine fr_if_eq (pc := 13) (tgt := 24) d_MO_where_13 (by decide) (fun _ => ?_) (fun q => absurd q (by decide))
  refine fr_iconst (pc := 24) (v := 0) d_MO_where_24 (by decide) ?_
  refine fr_iconst (pc := 25) (v := 1) d_MO_where_25 (by decide) ?_
  refine fr_callv_p (pc := 26) (nc := nc) (ns := ns) (N := m_MO_goes) (rest := []) (as := [.int 1, .int 0, .int 1]) d_MO_where_26 vc_MO_69 ⟨by decide, by decide, Nat.le_of_ble_eq_true rfl⟩ (Nat.le_of_ble_eq_true rfl) fm_mo (c_MO_goes2 hA) rfl ?_
  refine fr_if_ne (pc := 29) (tgt := 34) d_MO_where_29 (by decide) (fun q => absurd q (by decide)) (fun _ => ?_)
  refine fr_iconst (pc := 32) (v := 0) d_MO_where_32 (by decide) ?_
  exact fr_iret rfl d_MO_where_33 ⟨rfl, _, _, _, _, rfl, hc⟩
theorem p_MO_where_n3 {g : fw_G} {nc ns : Nat} {w0 : fw_W} {mo : Nat} {ar : Nat → Nat} (hA : fm_ad mo ar) {th so pl po : Int32} {us n : Nat} {F : fm_F} {hu hg : Nat → Nat → Bool} {nd : fs_D} (hc : fm_c us n hu hg nd F) (hs : fm_S us n hu hg nd) {u r : Nat} {z : Int32} (hu2 : u < us) (hr8 : r < 8) (hz : z < 0) : fw_R g m_MO_where (fm_P g w0 mo ar (.int 0) 2 (us, n, hu, hg, nd)) nc ns (fm_W g w0 mo ar (th, us, n, so, pl, po) F) 0 [(0, .ref mo), (1, .int (nI u)), (2, .int (nI r)), (3, .int z)] [] := by
  obtain ⟨hok, hub, hgb⟩ := id hs
  have hus := hok.2.1
  have hn := hok.2.2.1
  refine fr_aload_n (pc := 0) d_MO_where_0 rfl rfl ?_
  refine fr_aload_n (pc := 1) d_MO_where_1 rfl rfl ?_
  refine fr_iload_n (pc := 2) d_MO_where_2 rfl rfl ?_
  refine fr_callv_p (pc := 3) (nc := nc) (ns := ns) (N := m_MO_isUser) (rest := [.ref mo]) (as := [.int (nI u)]) d_MO_where_3 vc_MO_77 ⟨by decide, by decide, Nat.le_of_ble_eq_true rfl⟩ (Nat.le_of_ble_eq_true rfl) fm_mo (c_MO_isUser_y hA hu2 (by omega)) rfl ?_
  refine fr_iload_n (pc := 6) d_MO_where_6 rfl rfl ?_
  refine fr_iconst (pc := 7) (v := 0) d_MO_where_7 (by decide) ?_
  refine fr_bipush (pc := 8) (v := 7) d_MO_where_8 (by decide) ?_
  refine fr_calls_p (pc := 10) (nc := nc) (ns := ns) (N := m_MO_within) (rest := [.int 1, .ref mo]) (as := [.int (nI r), .int 0, .int 7]) d_MO_where_10 k_MO_within lk_MO_112 sc_MO_within np_MO_within ⟨by decide, by decide, Nat.le_of_ble_eq_true rfl⟩ (Nat.le_of_ble_eq_true rfl) (c_MO_within_y (fm_8 hr8).1 (fm_8 hr8).2) rfl ?_
  refine fr_if_eq (pc := 13) (tgt := 24) d_MO_where_13 (by decide) (fun q => absurd q (by decide)) (fun _ => ?_)
  refine fr_iload_n (pc := 16) d_MO_where_16 rfl rfl ?_
  refine fr_if_lt (pc := 17) (tgt := 24) d_MO_where_17 (by decide) (fun _ => ?_) (fun q => absurd hz q)
  refine fr_iconst (pc := 24) (v := 0) d_MO_where_24 (by decide) ?_
  refine fr_iconst (pc := 25) (v := 1) d_MO_where_25 (by decide) ?_
  refine fr_callv_p (pc := 26) (nc := nc) (ns := ns) (N := m_MO_goes) (rest := []) (as := [.int 1, .int 0, .int 1]) d_MO_where_26 vc_MO_69 ⟨by decide, by decide, Nat.le_of_ble_eq_true rfl⟩ (Nat.le_of_ble_eq_true rfl) fm_mo (c_MO_goes2 hA) rfl ?_
  refine fr_if_ne (pc := 29) (tgt := 34) d_MO_where_29 (by decide) (fun q => absurd q (by decide)) (fun _ => ?_)
  refine fr_iconst (pc := 32) (v := 0) d_MO_where_32 (by decide) ?_
  exact fr_iret rfl d_MO_where_33 ⟨rfl, _, _, _, _, rfl, hc⟩
def fm_r8 (b0 b1 b2 b3 b4 b5 b6 b7 : Bool) : Int32 :=
  let st := fun (acc : Int32) (b : Bool) (r : Nat) => if b = true then acc ||| (1 <<< (nI r &&& 31)) else acc
  st (st (st (st (st (st (st (st 0 b0 0) b1 1) b2 2) b3 3) b4 4) b5 5) b6 6) b7 7
theorem fm_r8_bits : ∀ b0 b1 b2 b3 b4 b5 b6 b7 : Bool, (fm_r8 b0 b1 b2 b3 b4 b5 b6 b7 &&& 1 = if b0 then 1 else 0) ∧ (fm_r8 b0 b1 b2 b3 b4 b5 b6 b7 &&& 2 = if b1 then 2 else 0) ∧ (fm_r8 b0 b1 b2 b3 b4 b5 b6 b7 &&& 4 = if b2 then 4 else 0) ∧ (fm_r8 b0 b1 b2 b3 b4 b5 b6 b7 &&& 8 = if b3 then 8 else 0) ∧ (fm_r8 b0 b1 b2 b3 b4 b5 b6 b7 &&& 16 = if b4 then 16 else 0) ∧ (fm_r8 b0 b1 b2 b3 b4 b5 b6 b7 &&& 32 = if b5 then 32 else 0) ∧ (fm_r8 b0 b1 b2 b3 b4 b5 b6 b7 &&& 64 = if b6 then 64 else 0) ∧ (fm_r8 b0 b1 b2 b3 b4 b5 b6 b7 &&& 128 = if b7 then 128 else 0) := by decide +kernel
theorem fm_if {a b : Bool} {x : Int32} (hx : x ≠ 0) (h : (if a then x else 0) = (if b then x else 0)) : a = b := by
  cases a <;> cases b <;> simp at h <;> first | rfl | exact absurd h hx | exact absurd h.symm hx
theorem fm_ri_eq {P Q : Nat → Bool} : fs_ri P 8 0 0 = fs_ri Q 8 0 0 ↔ ∀ r, r < 8 → P r = Q r := by
  have e : ∀ P : Nat → Bool, fs_ri P 8 0 0 = fm_r8 (P 0) (P 1) (P 2) (P 3) (P 4) (P 5) (P 6) (P 7) := fun P => rfl
  constructor
  · intro h
    rw [e P, e Q] at h
    obtain ⟨p0, p1, p2, p3, p4, p5, p6, p7⟩ := fm_r8_bits (P 0) (P 1) (P 2) (P 3) (P 4) (P 5) (P 6) (P 7)
    obtain ⟨q0, q1, q2, q3, q4, q5, q6, q7⟩ := fm_r8_bits (Q 0) (Q 1) (Q 2) (Q 3) (Q 4) (Q 5) (Q 6) (Q 7)
    rw [h] at p0 p1 p2 p3 p4 p5 p6 p7
    intro r hr
    have : r = 0 ∨ r = 1 ∨ r = 2 ∨ r = 3 ∨ r = 4 ∨ r = 5 ∨ r = 6 ∨ r = 7 := by omega
    rcases this with rfl | rfl | rfl | rfl | rfl | rfl | rfl | rfl
    · exact fm_if (by decide) (p0.symm.trans q0)
    · exact fm_if (by decide) (p1.symm.trans q1)
    · exact fm_if (by decide) (p2.symm.trans q2)
    · exact fm_if (by decide) (p3.symm.trans q3)
    · exact fm_if (by decide) (p4.symm.trans q4)
    · exact fm_if (by decide) (p5.symm.trans q5)
    · exact fm_if (by decide) (p6.symm.trans q6)
    · exact fm_if (by decide) (p7.symm.trans q7)
  · intro h
    rw [e P, e Q, h 0 (by omega), h 1 (by omega), h 2 (by omega), h 3 (by omega), h 4 (by omega), h 5 (by omega), h 6 (by omega), h 7 (by omega)]
theorem fs_al_iff {P : Nat → Bool} : ∀ m s, fs_al P m s = true ↔ ∀ i, s ≤ i → i < s + m → P i = true := by
  intro m
  induction m with
  | zero => intro s; exact ⟨fun _ i h1 h2 => by omega, fun _ => rfl⟩
  | succ m ih =>
    intro s
    rw [fs_al, Bool.and_eq_true, ih]
    constructor
    · rintro ⟨h1, h2⟩ i h3 h4
      by_cases e : i = s
      · subst e; exact h1
      · exact h2 i (by omega) (by omega)
    · intro h
      exact ⟨h s (by omega) (by omega), fun i h1 h2 => h i (by omega) (by omega)⟩
theorem fm_al {hu hg : Nat → Nat → Bool} {us : Nat} {nd : fs_D} {NA NB : fs_N} {ka kb : Nat} : fs_al (fun u => decide (fs_ri (fun r => fs_has hu hg nd NA ka r u) 8 0 0 = fs_ri (fun r => fs_has hu hg nd NB kb r u) 8 0 0)) us 0 = fs_al (fs_eq hu hg us nd NA ka NB kb) 8 0 := by
  have key : fs_al (fun u => decide (fs_ri (fun r => fs_has hu hg nd NA ka r u) 8 0 0 = fs_ri (fun r => fs_has hu hg nd NB kb r u) 8 0 0)) us 0 = true ↔ fs_al (fs_eq hu hg us nd NA ka NB kb) 8 0 = true := by
    rw [fs_al_iff, fs_al_iff]
    constructor
    · intro h r h1 h2
      unfold fs_eq
      rw [List.all_eq_true]
      intro u hu2
      have h3 := fm_ri_eq.mp (of_decide_eq_true (h u (by omega) (by have := List.mem_range.mp hu2; omega))) r (by omega)
      exact beq_iff_eq.mpr h3
    · intro h u h1 h2
      refine decide_eq_true (fm_ri_eq.mpr (fun r hr => ?_))
      have h3 := h r (by omega) (by omega)
      unfold fs_eq at h3
      rw [List.all_eq_true] at h3
      exact beq_iff_eq.mp (h3 u (List.mem_range.mpr (by omega)))
  cases h1 : fs_al (fun u => decide (fs_ri (fun r => fs_has hu hg nd NA ka r u) 8 0 0 = fs_ri (fun r => fs_has hu hg nd NB kb r u) 8 0 0)) us 0 with
  | true => exact (key.mp h1).symm
  | false =>
    cases h2 : fs_al (fs_eq hu hg us nd NA ka NB kb) 8 0 with
    | false => rfl
    | true => rw [key.mpr h2] at h1; cases h1
theorem c_MO_same_l {g : fw_G} {nc ns : Nat} {w0 : fw_W} {mo : Nat} {ar : Nat → Nat} (hA : fm_ad mo ar) {th : Int32} {us n : Nat} {F : fm_F} {hu hg : Nat → Nat → Bool} {nd : fs_D} (hc : fm_c us n hu hg nd F) (hs : fm_S us n hu hg nd) {ka kb : Nat} {NA NB : fs_N} (hka : nd ka = some NA) (hkb : nd kb = some NB) : ∀ m u (z : Bool) (so pl po : Int32), u + m = us → fw_R g m_MO_same (fm_P g w0 mo ar (.int (bI (z && fs_al (fun u => decide (fs_ri (fun r => fs_has hu hg nd NA ka r u) 8 0 0 = fs_ri (fun r => fs_has hu hg nd NB kb r u) 8 0 0)) m u))) th (us, n, hu, hg, nd)) nc ns (fm_W g w0 mo ar (th, us, n, so, pl, po) F) 51 [(0, .ref mo), (1, .int (nI ka)), (2, .int (nI kb)), (3, .int (bI z)), (4, .int (nI u))] [] := by
  obtain ⟨hok, hub, hgb⟩ := id hs
  have hus := hok.2.1
  intro m
  induction m with
  | zero =>
    intro u z so pl po hu2
    have hu3 : u = us := by omega
    subst hu3
    refine fr_iload (pc := 51) d_MO_same_51 rfl ?_
    refine fr_aload_n (pc := 53) d_MO_same_53 rfl rfl ?_
    refine fr_get (pc := 54) (v := .int (nI u)) d_MO_same_54 fg_MO_7 fm_mo rfl ?_
    refine fr_icmp_geN (pc := 57) (tgt := 93) (a := u) (b := u) d_MO_same_57 (by decide) (by omega) (by omega) (fun _ => ?_) (fun q => absurd q (by omega))
    refine fr_iload_n (pc := 93) d_MO_same_93 rfl rfl ?_
    refine fr_st (st2 := [.int (bI (z && fs_al (fun u => decide (fs_ri (fun r => fs_has hu hg nd NA ka r u) 8 0 0 = fs_ri (fun r => fs_has hu hg nd NB kb r u) 8 0 0)) 0 u))]) (by rw [fs_al, Bool.and_true]) ?_
    exact fr_zret rfl (by first | exact bI_01 _ | exact Or.inl rfl | exact Or.inr rfl) d_MO_same_94 ⟨rfl, _, _, _, _, rfl, hc⟩
  | succ m ih =>
    intro u z so pl po hu2
    refine fr_iload (pc := 51) d_MO_same_51 rfl ?_
    refine fr_aload_n (pc := 53) d_MO_same_53 rfl rfl ?_
    refine fr_get (pc := 54) (v := .int (nI us)) d_MO_same_54 fg_MO_7 fm_mo rfl ?_
    refine fr_icmp_geN (pc := 57) (tgt := 93) (a := u) (b := us) d_MO_same_57 (by decide) (by omega) (by omega) (fun q => absurd q (by omega)) (fun _ => ?_)
    refine fr_iload_n (pc := 60) d_MO_same_60 rfl rfl ?_
    refine fr_if_eq (pc := 61) (tgt := 85) d_MO_same_61 (by decide) (fun y => ?_) (fun y => ?_)
    · have y2 := bI_0.mp y
      refine fr_iconst (pc := 85) (v := 0) d_MO_same_85 (by decide) ?_
      refine fr_istore_n (pc := 86) (L2 := [(0, .ref mo), (1, .int (nI ka)), (2, .int (nI kb)), (3, .int 0), (4, .int (nI u))]) d_MO_same_86 rfl (by decide) rfl ?_
      refine fr_iinc (pc := 87) (v := (nI (u + 1))) (L2 := [(0, .ref mo), (1, .int (nI ka)), (2, .int (nI kb)), (3, .int 0), (4, .int (nI (u + 1)))]) d_MO_same_87 rfl (fi_1 _) (by decide) rfl ?_
      refine fr_goto (pc := 90) (tgt := 51) d_MO_same_90 (by decide) ?_
      have e1 : (z && fs_al (fun u => decide (fs_ri (fun r => fs_has hu hg nd NA ka r u) 8 0 0 = fs_ri (fun r => fs_has hu hg nd NB kb r u) 8 0 0)) (m + 1) u) = (false && fs_al (fun u => decide (fs_ri (fun r => fs_has hu hg nd NA ka r u) 8 0 0 = fs_ri (fun r => fs_has hu hg nd NB kb r u) 8 0 0)) m (u + 1)) := by
        show (z && (decide (fs_ri (fun r => fs_has hu hg nd NA ka r u) 8 0 0 = fs_ri (fun r => fs_has hu hg nd NB kb r u) 8 0 0) && fs_al (fun u => decide (fs_ri (fun r => fs_has hu hg nd NA ka r u) 8 0 0 = fs_ri (fun r => fs_has hu hg nd NB kb r u) 8 0 0)) m (u + 1))) = _
        rw [y2]; rfl
      rw [e1]
      exact ih (u + 1) false _ _ _ (by omega)
    · have y2 := ts_nf (fun x => y (bI_0.mpr x))
      refine fr_aload_n (pc := 64) d_MO_same_64 rfl rfl ?_
      refine fr_iload (pc := 65) d_MO_same_65 rfl ?_
      refine fr_iload_n (pc := 67) d_MO_same_67 rfl rfl ?_
      refine fr_callV (pc := 68) (nc := nc) (ns := ns) (N := m_MO_rightsOf) (rest := []) (as := [.int (nI u), .int (nI ka)]) d_MO_same_68 vc_MO_145 ⟨by decide, by decide, Nat.le_of_ble_eq_true rfl⟩ (Nat.le_of_ble_eq_true rfl) fm_mo (c_MO_rightsOf hA hc hok hka (by omega)) rfl (fun v1 u h => ?_) (fun C u h => by obtain ⟨h1, -⟩ := h; cases h1)
      obtain ⟨h1, so2, pl2, po2, rfl⟩ := h
      cases h1
      refine fr_aload_n (pc := 71) d_MO_same_71 rfl rfl ?_
      refine fr_iload (pc := 72) d_MO_same_72 rfl ?_
      refine fr_iload_n (pc := 74) d_MO_same_74 rfl rfl ?_
      refine fr_callV (pc := 75) (nc := nc) (ns := ns) (N := m_MO_rightsOf) (rest := [.int (fs_ri (fun r => fs_has hu hg nd NA ka r u) 8 0 0)]) (as := [.int (nI u), .int (nI kb)]) d_MO_same_75 vc_MO_145 ⟨by decide, by decide, Nat.le_of_ble_eq_true rfl⟩ (Nat.le_of_ble_eq_true rfl) fm_mo (c_MO_rightsOf hA hc hok hkb (by omega)) rfl (fun v1 u h => ?_) (fun C u h => by obtain ⟨h1, -⟩ := h; cases h1)
      obtain ⟨h1, so3, pl3, po3, rfl⟩ := h
      cases h1
      refine fr_icmp_ne (pc := 78) (tgt := 85) d_MO_same_78 (by decide) (fun x => ?_) (fun x => ?_)
      · refine fr_iconst (pc := 85) (v := 0) d_MO_same_85 (by decide) ?_
        refine fr_istore_n (pc := 86) (L2 := [(0, .ref mo), (1, .int (nI ka)), (2, .int (nI kb)), (3, .int 0), (4, .int (nI u))]) d_MO_same_86 rfl (by decide) rfl ?_
        refine fr_iinc (pc := 87) (v := (nI (u + 1))) (L2 := [(0, .ref mo), (1, .int (nI ka)), (2, .int (nI kb)), (3, .int 0), (4, .int (nI (u + 1)))]) d_MO_same_87 rfl (fi_1 _) (by decide) rfl ?_
        refine fr_goto (pc := 90) (tgt := 51) d_MO_same_90 (by decide) ?_
        have e1 : (z && fs_al (fun u => decide (fs_ri (fun r => fs_has hu hg nd NA ka r u) 8 0 0 = fs_ri (fun r => fs_has hu hg nd NB kb r u) 8 0 0)) (m + 1) u) = (false && fs_al (fun u => decide (fs_ri (fun r => fs_has hu hg nd NA ka r u) 8 0 0 = fs_ri (fun r => fs_has hu hg nd NB kb r u) 8 0 0)) m (u + 1)) := by
          show (z && (decide (fs_ri (fun r => fs_has hu hg nd NA ka r u) 8 0 0 = fs_ri (fun r => fs_has hu hg nd NB kb r u) 8 0 0) && fs_al (fun u => decide (fs_ri (fun r => fs_has hu hg nd NA ka r u) 8 0 0 = fs_ri (fun r => fs_has hu hg nd NB kb r u) 8 0 0)) m (u + 1))) = _
          rw [decide_eq_false x, Bool.false_and, Bool.and_false]
        rw [e1]
        exact ih (u + 1) false _ _ _ (by omega)
      · refine fr_iconst (pc := 81) (v := 1) d_MO_same_81 (by decide) ?_
        refine fr_goto (pc := 82) (tgt := 86) d_MO_same_82 (by decide) ?_
        refine fr_istore_n (pc := 86) (L2 := [(0, .ref mo), (1, .int (nI ka)), (2, .int (nI kb)), (3, .int 1), (4, .int (nI u))]) d_MO_same_86 rfl (by decide) rfl ?_
        refine fr_iinc (pc := 87) (v := (nI (u + 1))) (L2 := [(0, .ref mo), (1, .int (nI ka)), (2, .int (nI kb)), (3, .int 1), (4, .int (nI (u + 1)))]) d_MO_same_87 rfl (fi_1 _) (by decide) rfl ?_
        refine fr_goto (pc := 90) (tgt := 51) d_MO_same_90 (by decide) ?_
        have e1 : (z && fs_al (fun u => decide (fs_ri (fun r => fs_has hu hg nd NA ka r u) 8 0 0 = fs_ri (fun r => fs_has hu hg nd NB kb r u) 8 0 0)) (m + 1) u) = (true && fs_al (fun u => decide (fs_ri (fun r => fs_has hu hg nd NA ka r u) 8 0 0 = fs_ri (fun r => fs_has hu hg nd NB kb r u) 8 0 0)) m (u + 1)) := by
          show (z && (decide (fs_ri (fun r => fs_has hu hg nd NA ka r u) 8 0 0 = fs_ri (fun r => fs_has hu hg nd NB kb r u) 8 0 0) && fs_al (fun u => decide (fs_ri (fun r => fs_has hu hg nd NA ka r u) 8 0 0 = fs_ri (fun r => fs_has hu hg nd NB kb r u) 8 0 0)) m (u + 1))) = _
          rw [y2, decide_eq_true x]; rfl
        rw [e1]
        exact ih (u + 1) true _ _ _ (by omega)
theorem p_MO_same_ok {g : fw_G} {nc ns : Nat} {w0 : fw_W} {mo : Nat} {ar : Nat → Nat} (hA : fm_ad mo ar) {th so pl po : Int32} {us n : Nat} {F : fm_F} {hu hg : Nat → Nat → Bool} {nd : fs_D} (hc : fm_c us n hu hg nd F) (hs : fm_S us n hu hg nd) {ka kb : Nat} {NA NB : fs_N} (hka : nd ka = some NA) (hkb : nd kb = some NB) : fw_R g m_MO_same (fm_P g w0 mo ar (.int (bI (fs_al (fs_eq hu hg us (va_up (va_up nd ka (some (fs_st NA false))) kb (some (fs_st NB false))) (fs_st NA false) ka (fs_st NB false) kb) 8 0))) 0 (us, n, hu, hg, (va_up (va_up nd ka (some (fs_st NA false))) kb (some (fs_st NB false))))) nc ns (fm_W g w0 mo ar (th, us, n, so, pl, po) F) 0 [(0, .ref mo), (1, .int (nI ka)), (2, .int (nI kb))] [] := by
  obtain ⟨hok, hub, hgb⟩ := id hs
  have hus := hok.2.1
  have hn := hok.2.2.1
  have ha150 := fm_k hok hka
  have hb150 := fm_k hok hkb
  have hc1 := fm_c_st hc hka
  have hs1 := fm_S_st hs hka
  obtain ⟨M, hM1, hM2⟩ := fs_st_at hka hkb
  have hc2 := fm_c_st hc1 hM1
  have hs2 := fm_S_st hs1 hM1
  rw [hM2] at hc2 hs2
  refine fr_aload_n (pc := 0) d_MO_same_0 rfl rfl ?_
  refine fr_aload_n (pc := 1) d_MO_same_1 rfl rfl ?_
  refine fr_iload_n (pc := 2) d_MO_same_2 rfl rfl ?_
  refine fr_callv_p (pc := 3) (nc := nc) (ns := ns) (N := m_MO_isNode) (rest := [.ref mo]) (as := [.int (nI ka)]) d_MO_same_3 vc_MO_91 ⟨by decide, by decide, Nat.le_of_ble_eq_true rfl⟩ (Nat.le_of_ble_eq_true rfl) fm_mo (c_MO_isNode_y hA ha150 (fm_th hc hok hka)) rfl ?_
  refine fr_if_eq (pc := 6) (tgt := 21) d_MO_same_6 (by decide) (fun q => absurd q (by decide)) (fun _ => ?_)
  refine fr_aload_n (pc := 9) d_MO_same_9 rfl rfl ?_
  refine fr_iload_n (pc := 10) d_MO_same_10 rfl rfl ?_
  refine fr_callv_p (pc := 11) (nc := nc) (ns := ns) (N := m_MO_isNode) (rest := [.ref mo]) (as := [.int (nI kb)]) d_MO_same_11 vc_MO_91 ⟨by decide, by decide, Nat.le_of_ble_eq_true rfl⟩ (Nat.le_of_ble_eq_true rfl) fm_mo (c_MO_isNode_y hA hb150 (fm_th hc hok hkb)) rfl ?_
  refine fr_if_eq (pc := 14) (tgt := 21) d_MO_same_14 (by decide) (fun q => absurd q (by decide)) (fun _ => ?_)
  refine fr_iconst (pc := 17) (v := 1) d_MO_same_17 (by decide) ?_
  refine fr_goto (pc := 18) (tgt := 22) d_MO_same_18 (by decide) ?_
  refine fr_iconst (pc := 22) (v := 1) d_MO_same_22 (by decide) ?_
  refine fr_iconst (pc := 23) (v := 1) d_MO_same_23 (by decide) ?_
  refine fr_callv_p (pc := 24) (nc := nc) (ns := ns) (N := m_MO_goes) (rest := []) (as := [.int 1, .int 1, .int 1]) d_MO_same_24 vc_MO_69 ⟨by decide, by decide, Nat.le_of_ble_eq_true rfl⟩ (Nat.le_of_ble_eq_true rfl) fm_mo (c_MO_goes0 hA) rfl ?_
  refine fr_if_ne (pc := 27) (tgt := 32) d_MO_same_27 (by decide) (fun _ => ?_) (fun q => absurd q (by decide))
  refine fr_aload_n (pc := 32) d_MO_same_32 rfl rfl ?_
  refine fr_get (pc := 33) (v := .ref (ar 7)) d_MO_same_33 fg_MO_35 fm_mo rfl ?_
  refine fr_iload_n (pc := 36) d_MO_same_36 rfl rfl ?_
  refine fr_iconst (pc := 37) (v := 0) d_MO_same_37 (by decide) ?_
  refine fr_mzst (pc := 38) (j := 7) (k := ka) (x := 0) d_MO_same_38 hA (by decide) rfl (by show ka < 150; omega) (Or.inl rfl) ?_
  refine fr_aload_n (pc := 39) d_MO_same_39 rfl rfl ?_
  refine fr_get (pc := 40) (v := .ref (ar 7)) d_MO_same_40 fg_MO_35 fm_mo rfl ?_
  refine fr_iload_n (pc := 43) d_MO_same_43 rfl rfl ?_
  refine fr_iconst (pc := 44) (v := 0) d_MO_same_44 (by decide) ?_
  refine fr_mzst (pc := 45) (j := 7) (k := kb) (x := 0) d_MO_same_45 hA (by decide) rfl (by show kb < 150; omega) (Or.inl rfl) ?_
  refine fr_iconst (pc := 46) (v := 1) d_MO_same_46 (by decide) ?_
  refine fr_istore_n (pc := 47) (L2 := [(0, .ref mo), (1, .int (nI ka)), (2, .int (nI kb)), (3, .int 1)]) d_MO_same_47 rfl (by decide) rfl ?_
  refine fr_iconst (pc := 48) (v := 0) d_MO_same_48 (by decide) ?_
  refine fr_istore (pc := 49) (L2 := [(0, .ref mo), (1, .int (nI ka)), (2, .int (nI kb)), (3, .int 1), (4, .int 0)]) d_MO_same_49 (by decide) rfl ?_
  have h := c_MO_same_l (nc := nc) (ns := ns) (w0 := w0) (g := g) (th := 0) hA hc2 hs2 (fs_st_at2 hka hkb) vu_self us 0 true so pl po (by omega)
  rw [Bool.true_and, fm_al] at h
  exact h
theorem p_MO_same_n1 {g : fw_G} {nc ns : Nat} {w0 : fw_W} {mo : Nat} {ar : Nat → Nat} (hA : fm_ad mo ar) {th so pl po : Int32} {us n : Nat} {F : fm_F} {hu hg : Nat → Nat → Bool} {nd : fs_D} (hc : fm_c us n hu hg nd F) (hs : fm_S us n hu hg nd) {x y : Int32} (hx : ∀ k, x = nI k → nd k = none) : fw_R g m_MO_same (fm_P g w0 mo ar (.int 0) 1 (us, n, hu, hg, nd)) nc ns (fm_W g w0 mo ar (th, us, n, so, pl, po) F) 0 [(0, .ref mo), (1, .int x), (2, .int y)] [] := by
  obtain ⟨hok, hub, hgb⟩ := id hs
  have hus := hok.2.1
  have hn := hok.2.2.1
  refine fr_aload_n (pc := 0) d_MO_same_0 rfl rfl ?_
  refine fr_aload_n (pc := 1) d_MO_same_1 rfl rfl ?_
  refine fr_iload_n (pc := 2) d_MO_same_2 rfl rfl ?_
  refine fr_callv_p (pc := 3) (nc := nc) (ns := ns) (N := m_MO_isNode) (rest := [.ref mo]) (as := [.int x]) d_MO_same_3 vc_MO_91 ⟨by decide, by decide, Nat.le_of_ble_eq_true rfl⟩ (Nat.le_of_ble_eq_true rfl) fm_mo (c_MO_isNode_n hA (fun k hk e => fm_nt hc hk (hx k e))) rfl ?_
  refine fr_if_eq (pc := 6) (tgt := 21) d_MO_same_6 (by decide) (fun _ => ?_) (fun q => absurd q (by decide))
  refine fr_iconst (pc := 21) (v := 0) d_MO_same_21 (by decide) ?_
  refine fr_iconst (pc := 22) (v := 1) d_MO_same_22 (by decide) ?_
  refine fr_iconst (pc := 23) (v := 1) d_MO_same_23 (by decide) ?_
  refine fr_callv_p (pc := 24) (nc := nc) (ns := ns) (N := m_MO_goes) (rest := []) (as := [.int 0, .int 1, .int 1]) d_MO_same_24 vc_MO_69 ⟨by decide, by decide, Nat.le_of_ble_eq_true rfl⟩ (Nat.le_of_ble_eq_true rfl) fm_mo (c_MO_goes1 hA) rfl ?_
  refine fr_if_ne (pc := 27) (tgt := 32) d_MO_same_27 (by decide) (fun q => absurd q (by decide)) (fun _ => ?_)
  refine fr_iconst (pc := 30) (v := 0) d_MO_same_30 (by decide) ?_
  exact fr_zret rfl (by first | exact bI_01 _ | exact Or.inl rfl | exact Or.inr rfl) d_MO_same_31 ⟨rfl, _, _, _, _, rfl, hc⟩
theorem p_MO_same_n2 {g : fw_G} {nc ns : Nat} {w0 : fw_W} {mo : Nat} {ar : Nat → Nat} (hA : fm_ad mo ar) {th so pl po : Int32} {us n : Nat} {F : fm_F} {hu hg : Nat → Nat → Bool} {nd : fs_D} (hc : fm_c us n hu hg nd F) (hs : fm_S us n hu hg nd) {k : Nat} {N : fs_N} (hk : nd k = some N) {x : Int32} (hx : ∀ k, x = nI k → nd k = none) : fw_R g m_MO_same (fm_P g w0 mo ar (.int 0) 1 (us, n, hu, hg, nd)) nc ns (fm_W g w0 mo ar (th, us, n, so, pl, po) F) 0 [(0, .ref mo), (1, .int (nI k)), (2, .int x)] [] := by
  obtain ⟨hok, hub, hgb⟩ := id hs
  have hus := hok.2.1
  have hn := hok.2.2.1
  have hk150 := fm_k hok hk
  obtain ⟨c5, c6, c8, c9, c10⟩ := hc.2.2.2.2.2.1 k N hk
  obtain ⟨-, hk0, how, hlen, hes, hch, hdep⟩ := hok.2.2.2.2 k N hk
  refine fr_aload_n (pc := 0) d_MO_same_0 rfl rfl ?_
  refine fr_aload_n (pc := 1) d_MO_same_1 rfl rfl ?_
  refine fr_iload_n (pc := 2) d_MO_same_2 rfl rfl ?_
  refine fr_callv_p (pc := 3) (nc := nc) (ns := ns) (N := m_MO_isNode) (rest := [.ref mo]) (as := [.int (nI k)]) d_MO_same_3 vc_MO_91 ⟨by decide, by decide, Nat.le_of_ble_eq_true rfl⟩ (Nat.le_of_ble_eq_true rfl) fm_mo (c_MO_isNode_y hA hk150 (fm_th hc hok hk)) rfl ?_
  refine fr_if_eq (pc := 6) (tgt := 21) d_MO_same_6 (by decide) (fun q => absurd q (by decide)) (fun _ => ?_)
  refine fr_aload_n (pc := 9) d_MO_same_9 rfl rfl ?_
  refine fr_iload_n (pc := 10) d_MO_same_10 rfl rfl ?_
  refine fr_callv_p (pc := 11) (nc := nc) (ns := ns) (N := m_MO_isNode) (rest := [.ref mo]) (as := [.int x]) d_MO_same_11 vc_MO_91 ⟨by decide, by decide, Nat.le_of_ble_eq_true rfl⟩ (Nat.le_of_ble_eq_true rfl) fm_mo (c_MO_isNode_n hA (fun k hk e => fm_nt hc hk (hx k e))) rfl ?_
  refine fr_if_eq (pc := 14) (tgt := 21) d_MO_same_14 (by decide) (fun _ => ?_) (fun q => absurd q (by decide))
  refine fr_iconst (pc := 21) (v := 0) d_MO_same_21 (by decide) ?_
  refine fr_iconst (pc := 22) (v := 1) d_MO_same_22 (by decide) ?_
  refine fr_iconst (pc := 23) (v := 1) d_MO_same_23 (by decide) ?_
  refine fr_callv_p (pc := 24) (nc := nc) (ns := ns) (N := m_MO_goes) (rest := []) (as := [.int 0, .int 1, .int 1]) d_MO_same_24 vc_MO_69 ⟨by decide, by decide, Nat.le_of_ble_eq_true rfl⟩ (Nat.le_of_ble_eq_true rfl) fm_mo (c_MO_goes1 hA) rfl ?_
  refine fr_if_ne (pc := 27) (tgt := 32) d_MO_same_27 (by decide) (fun q => absurd q (by decide)) (fun _ => ?_)
  refine fr_iconst (pc := 30) (v := 0) d_MO_same_30 (by decide) ?_
  exact fr_zret rfl (by first | exact bI_01 _ | exact Or.inl rfl | exact Or.inr rfl) d_MO_same_31 ⟨rfl, _, _, _, _, rfl, hc⟩
theorem c_MO_least {g : fw_G} {nc ns : Nat} {w0 : fw_W} {mo : Nat} {ar : Nat → Nat} (hA : fm_ad mo ar) {th so pl po : Int32} {us n : Nat} {F : fm_F} {hu hg : Nat → Nat → Bool} {nd : fs_D} (hc : fm_c us n hu hg nd F) (hs : fm_S us n hu hg nd) {Post : fw_O → fw_W → Prop} {x1 x2 x3 : Int32} {lv : Nat} : ∀ m k, k + m = 150 → (fs_fr (fun k => (nd k).map (fun _ => 0)) m k).getD 150 = lv → fw_R g m_MO_node Post nc ns (fm_W g w0 mo ar (th, us, n, so, pl, po) F) 27 [(0, .ref mo), (1, .int x1), (2, .int x2), (3, .int x3), (4, .int (nI lv))] [] → fw_R g m_MO_node Post nc ns (fm_W g w0 mo ar (th, us, n, so, pl, po) F) 3 [(0, .ref mo), (1, .int x1), (2, .int x2), (3, .int x3), (4, .int (nI k))] [] := by
  intro m
  induction m with
  | zero =>
    intro k hk hl kk
    have hk2 : k = 150 := by omega
    subst hk2
    have hl2 : 150 = lv := hl
    subst hl2
    refine fr_iload (pc := 3) d_MO_node_3 rfl ?_
    refine fr_sipush (pc := 5) (v := 150) d_MO_node_5 (by decide) ?_
    refine fr_icmp_geN (pc := 8) (tgt := 27) (a := 150) (b := 150) d_MO_node_8 (by decide) (by omega) (by omega) (fun _ => ?_) (fun q => absurd q (by omega))
    exact kk
  | succ m ih =>
    intro k hk hl kk
    have h4 := hc.2.2.2.1 k (by omega)
    refine fr_iload (pc := 3) d_MO_node_3 rfl ?_
    refine fr_sipush (pc := 5) (v := 150) d_MO_node_5 (by decide) ?_
    refine fr_icmp_geN (pc := 8) (tgt := 27) (a := k) (b := 150) d_MO_node_8 (by decide) (by omega) (by omega) (fun q => absurd q (by omega)) (fun _ => ?_)
    refine fr_aload_n (pc := 11) d_MO_node_11 rfl rfl ?_
    refine fr_get (pc := 12) (v := .ref (ar 4)) d_MO_node_12 fg_MO_26 fm_mo rfl ?_
    refine fr_iload (pc := 15) d_MO_node_15 rfl ?_
    refine fr_mzld (pc := 17) (j := 4) (k := k) d_MO_node_17 hA (by decide) rfl (by show k < 150; omega) ?_
    cases hN : nd k with
    | none =>
      have e : k = lv := by simpa [fs_fr, hN] using hl
      subst e
      refine fr_st (st2 := [.int 0]) (by rw [h4, hN]; rfl) ?_
      refine fr_if_eq (pc := 18) (tgt := 27) d_MO_node_18 (by decide) (fun _ => ?_) (fun q => absurd q (by decide))
      exact kk
    | some N =>
      rw [fs_fr, if_neg (by rw [hN]; simp)] at hl
      refine fr_st (st2 := [.int 1]) (by rw [h4, hN]; rfl) ?_
      refine fr_if_eq (pc := 18) (tgt := 27) d_MO_node_18 (by decide) (fun q => absurd q (by decide)) (fun _ => ?_)
      refine fr_iinc (pc := 21) (v := (nI (k + 1))) (L2 := [(0, .ref mo), (1, .int x1), (2, .int x2), (3, .int x3), (4, .int (nI (k + 1)))]) d_MO_node_21 rfl (fi_1 _) (by decide) rfl ?_
      refine fr_goto (pc := 24) (tgt := 3) d_MO_node_24 (by decide) ?_
      exact ih (k + 1) (by omega) hl kk
theorem fm_c_new {us n : Nat} {hu hg : Nat → Nat → Bool} {nd : fs_D} {F F2 : fm_F} (hc : fm_c us n hu hg nd F) {f p u : Nat} {b : Bool} (hs : ∀ j, j < 4 ∨ 11 ≤ j → F2 j = F j) (hm : ∀ j m, m ≠ f → F2 j m = F j m)
    (h4 : F2 4 f = 1) (h5 : F2 5 f = bI b) (h6 : F2 6 f = 0) (h7 : F2 7 f = 1) (h8 : F2 8 f = nI p) (h9 : F2 9 f = nI u) (h10 : F2 10 f = 0) : fm_c us n hu hg (va_up nd f (some (b, some p, u, false, true, []))) F2 := by
  obtain ⟨e0, e1, e3, e4, e7, eN, eE, eB⟩ := hc
  refine ⟨fun i u h1 h2 => by rw [hs 0 (by omega)]; exact e0 i u h1 h2, fun i u h1 h2 => by rw [hs 1 (by omega)]; exact e1 i u h1 h2, fun i u h1 h2 => by rw [hs 3 (by omega)]; exact e3 i u h1 h2, fun j hj => ?_, fun j hj => ?_, fun j M hj => ?_, fun j M i E hj hE => ?_, fun j i hj => ?_⟩
  · by_cases e : j = f
    · subst e; rw [vu_self, h4]; rfl
    · rw [hm 4 j e, vu_ne e]; exact e4 j hj
  · by_cases e : j = f
    · subst e; rw [h7, fm_sl_at vu_self]; rfl
    · rw [hm 7 j e, e7 j hj]; unfold fm_sl; rw [vu_ne e]
  · by_cases e : j = f
    · subst e; rw [vu_self] at hj; cases hj
      exact ⟨h5, h6, h8, h9, h10⟩
    · rw [vu_ne e] at hj
      rw [hm 5 j e, hm 6 j e, hm 8 j e, hm 9 j e, hm 10 j e]
      exact eN j M hj
  · rw [hs 11 (by omega), hs 12 (by omega), hs 13 (by omega), hs 14 (by omega), hs 15 (by omega)]
    by_cases e : j = f
    · subst e; rw [vu_self] at hj; cases hj; cases hE
    · rw [vu_ne e] at hj
      exact eE j M i E hj hE
  · by_cases q : j < 4 ∨ 11 ≤ j
    · rw [hs j q]; exact eB j i hj
    · by_cases e : i = f
      · subst e
        have q2 : j = 4 ∨ j = 5 ∨ j = 6 ∨ j = 7 := by omega
        rcases q2 with rfl | rfl | rfl | rfl
        · rw [h4]; exact Or.inr rfl
        · rw [h5]; exact bI_01 _
        · rw [h6]; exact Or.inl rfl
        · rw [h7]; exact Or.inr rfl
      · rw [hm j i e]; exact eB j i hj
theorem p_MO_node_n1 {g : fw_G} {nc ns : Nat} {w0 : fw_W} {mo : Nat} {ar : Nat → Nat} (hA : fm_ad mo ar) {th so pl po : Int32} {us n : Nat} {F : fm_F} {hu hg : Nat → Nat → Bool} {nd : fs_D} (hc : fm_c us n hu hg nd F) (hs : fm_S us n hu hg nd) {x y : Int32} {b : Bool} (hx : ∀ k, x = nI k → nd k = none) : fw_R g m_MO_node (fm_P g w0 mo ar (.int 0) 1 (us, n, hu, hg, nd)) nc ns (fm_W g w0 mo ar (th, us, n, so, pl, po) F) 0 [(0, .ref mo), (1, .int x), (2, .int (bI b)), (3, .int y)] [] := by
  obtain ⟨hok, hub, hgb⟩ := id hs
  have hus := hok.2.1
  have hn := hok.2.2.1
  refine fr_iconst (pc := 0) (v := 0) d_MO_node_0 (by decide) ?_
  refine fr_istore (pc := 1) (L2 := [(0, .ref mo), (1, .int x), (2, .int (bI b)), (3, .int y), (4, .int 0)]) d_MO_node_1 (by decide) rfl ?_
  refine c_MO_least hA hc hs (lv := ((fs_frn nd).getD 150)) 150 0 rfl rfl ?_
  refine fr_aload_n (pc := 27) d_MO_node_27 rfl rfl ?_
  refine fr_iload_n (pc := 28) d_MO_node_28 rfl rfl ?_
  refine fr_callv_p (pc := 29) (nc := nc) (ns := ns) (N := m_MO_isNode) (rest := []) (as := [.int x]) d_MO_node_29 vc_MO_91 ⟨by decide, by decide, Nat.le_of_ble_eq_true rfl⟩ (Nat.le_of_ble_eq_true rfl) fm_mo (c_MO_isNode_n hA (fun k hk e => fm_nt hc hk (hx k e))) rfl ?_
  refine fr_if_eq (pc := 32) (tgt := 47) d_MO_node_32 (by decide) (fun _ => ?_) (fun q => absurd q (by decide))
  refine fr_iconst (pc := 47) (v := 0) d_MO_node_47 (by decide) ?_
  refine fr_istore (pc := 48) (L2 := [(0, .ref mo), (1, .int x), (2, .int (bI b)), (3, .int y), (4, .int (nI ((fs_frn nd).getD 150))), (5, .int 0)]) d_MO_node_48 (by decide) rfl ?_
  refine fr_aload_n (pc := 50) d_MO_node_50 rfl rfl ?_
  refine fr_iload (pc := 51) d_MO_node_51 rfl ?_
  refine fr_iload (pc := 53) d_MO_node_53 rfl ?_
  refine fr_if_eq (pc := 55) (tgt := 71) d_MO_node_55 (by decide) (fun _ => ?_) (fun q => absurd q (by decide))
  refine fr_iconst (pc := 71) (v := 0) d_MO_node_71 (by decide) ?_
  refine fr_iload (pc := 72) d_MO_node_72 rfl ?_
  refine fr_if_eq (pc := 74) (tgt := 99) d_MO_node_74 (by decide) (fun _ => ?_) (fun q => absurd q (by decide))
  refine fr_iconst (pc := 99) (v := 0) d_MO_node_99 (by decide) ?_
  refine fr_callv_p (pc := 100) (nc := nc) (ns := ns) (N := m_MO_goes) (rest := []) (as := [.int 0, .int 0, .int 0]) d_MO_node_100 vc_MO_69 ⟨by decide, by decide, Nat.le_of_ble_eq_true rfl⟩ (Nat.le_of_ble_eq_true rfl) fm_mo (c_MO_goes1 hA) rfl ?_
  refine fr_if_ne (pc := 103) (tgt := 108) d_MO_node_103 (by decide) (fun q => absurd q (by decide)) (fun _ => ?_)
  refine fr_iconst (pc := 106) (v := 0) d_MO_node_106 (by decide) ?_
  exact fr_iret rfl d_MO_node_107 ⟨rfl, _, _, _, _, rfl, hc⟩
theorem p_MO_node_n2 {g : fw_G} {nc ns : Nat} {w0 : fw_W} {mo : Nat} {ar : Nat → Nat} (hA : fm_ad mo ar) {th so pl po : Int32} {us n : Nat} {F : fm_F} {hu hg : Nat → Nat → Bool} {nd : fs_D} (hc : fm_c us n hu hg nd F) (hs : fm_S us n hu hg nd) {k : Nat} {N : fs_N} (hk : nd k = some N) {b : Bool} {y : Int32} (hy : fs_no2 y us) : fw_R g m_MO_node (fm_P g w0 mo ar (.int 0) 1 (us, n, hu, hg, nd)) nc ns (fm_W g w0 mo ar (th, us, n, so, pl, po) F) 0 [(0, .ref mo), (1, .int (nI k)), (2, .int (bI b)), (3, .int y)] [] := by
  obtain ⟨hok, hub, hgb⟩ := id hs
  have hus := hok.2.1
  have hn := hok.2.2.1
  have hk150 := fm_k hok hk
  obtain ⟨c5, c6, c8, c9, c10⟩ := hc.2.2.2.2.2.1 k N hk
  obtain ⟨-, hk0, how, hlen, hes, hch, hdep⟩ := hok.2.2.2.2 k N hk
  refine fr_iconst (pc := 0) (v := 0) d_MO_node_0 (by decide) ?_
  refine fr_istore (pc := 1) (L2 := [(0, .ref mo), (1, .int (nI k)), (2, .int (bI b)), (3, .int y), (4, .int 0)]) d_MO_node_1 (by decide) rfl ?_
  refine c_MO_least hA hc hs (lv := ((fs_frn nd).getD 150)) 150 0 rfl rfl ?_
  refine fr_aload_n (pc := 27) d_MO_node_27 rfl rfl ?_
  refine fr_iload_n (pc := 28) d_MO_node_28 rfl rfl ?_
  refine fr_callv_p (pc := 29) (nc := nc) (ns := ns) (N := m_MO_isNode) (rest := []) (as := [.int (nI k)]) d_MO_node_29 vc_MO_91 ⟨by decide, by decide, Nat.le_of_ble_eq_true rfl⟩ (Nat.le_of_ble_eq_true rfl) fm_mo (c_MO_isNode_y hA hk150 (fm_th hc hok hk)) rfl ?_
  refine fr_if_eq (pc := 32) (tgt := 47) d_MO_node_32 (by decide) (fun q => absurd q (by decide)) (fun _ => ?_)
  refine fr_aload_n (pc := 35) d_MO_node_35 rfl rfl ?_
  refine fr_iload_n (pc := 36) d_MO_node_36 rfl rfl ?_
  refine fr_callv_p (pc := 37) (nc := nc) (ns := ns) (N := m_MO_isUser) (rest := []) (as := [.int y]) d_MO_node_37 vc_MO_77 ⟨by decide, by decide, Nat.le_of_ble_eq_true rfl⟩ (Nat.le_of_ble_eq_true rfl) fm_mo (c_MO_isUser_n hA hy (by omega)) rfl ?_
  refine fr_if_eq (pc := 40) (tgt := 47) d_MO_node_40 (by decide) (fun _ => ?_) (fun q => absurd q (by decide))
  refine fr_iconst (pc := 47) (v := 0) d_MO_node_47 (by decide) ?_
  refine fr_istore (pc := 48) (L2 := [(0, .ref mo), (1, .int (nI k)), (2, .int (bI b)), (3, .int y), (4, .int (nI ((fs_frn nd).getD 150))), (5, .int 0)]) d_MO_node_48 (by decide) rfl ?_
  refine fr_aload_n (pc := 50) d_MO_node_50 rfl rfl ?_
  refine fr_iload (pc := 51) d_MO_node_51 rfl ?_
  refine fr_iload (pc := 53) d_MO_node_53 rfl ?_
  refine fr_if_eq (pc := 55) (tgt := 71) d_MO_node_55 (by decide) (fun _ => ?_) (fun q => absurd q (by decide))
  refine fr_iconst (pc := 71) (v := 0) d_MO_node_71 (by decide) ?_
  refine fr_iload (pc := 72) d_MO_node_72 rfl ?_
  refine fr_if_eq (pc := 74) (tgt := 99) d_MO_node_74 (by decide) (fun _ => ?_) (fun q => absurd q (by decide))
  refine fr_iconst (pc := 99) (v := 0) d_MO_node_99 (by decide) ?_
  refine fr_callv_p (pc := 100) (nc := nc) (ns := ns) (N := m_MO_goes) (rest := []) (as := [.int 0, .int 0, .int 0]) d_MO_node_100 vc_MO_69 ⟨by decide, by decide, Nat.le_of_ble_eq_true rfl⟩ (Nat.le_of_ble_eq_true rfl) fm_mo (c_MO_goes1 hA) rfl ?_
  refine fr_if_ne (pc := 103) (tgt := 108) d_MO_node_103 (by decide) (fun q => absurd q (by decide)) (fun _ => ?_)
  refine fr_iconst (pc := 106) (v := 0) d_MO_node_106 (by decide) ?_
  exact fr_iret rfl d_MO_node_107 ⟨rfl, _, _, _, _, rfl, hc⟩
theorem p_MO_node_n3 {g : fw_G} {nc ns : Nat} {w0 : fw_W} {mo : Nat} {ar : Nat → Nat} (hA : fm_ad mo ar) {th so pl po : Int32} {us n : Nat} {F : fm_F} {hu hg : Nat → Nat → Bool} {nd : fs_D} (hc : fm_c us n hu hg nd F) (hs : fm_S us n hu hg nd) {k : Nat} {N : fs_N} (hk : nd k = some N) {b : Bool} {u : Nat} (hu2 : u < us) (hfo : N.1 = false) : fw_R g m_MO_node (fm_P g w0 mo ar (.int 0) 2 (us, n, hu, hg, nd)) nc ns (fm_W g w0 mo ar (th, us, n, so, pl, po) F) 0 [(0, .ref mo), (1, .int (nI k)), (2, .int (bI b)), (3, .int (nI u))] [] := by
  obtain ⟨hok, hub, hgb⟩ := id hs
  have hus := hok.2.1
  have hn := hok.2.2.1
  have hk150 := fm_k hok hk
  obtain ⟨c5, c6, c8, c9, c10⟩ := hc.2.2.2.2.2.1 k N hk
  obtain ⟨-, hk0, how, hlen, hes, hch, hdep⟩ := hok.2.2.2.2 k N hk
  refine fr_iconst (pc := 0) (v := 0) d_MO_node_0 (by decide) ?_
  refine fr_istore (pc := 1) (L2 := [(0, .ref mo), (1, .int (nI k)), (2, .int (bI b)), (3, .int (nI u)), (4, .int 0)]) d_MO_node_1 (by decide) rfl ?_
  refine c_MO_least hA hc hs (lv := ((fs_frn nd).getD 150)) 150 0 rfl rfl ?_
  refine fr_aload_n (pc := 27) d_MO_node_27 rfl rfl ?_
  refine fr_iload_n (pc := 28) d_MO_node_28 rfl rfl ?_
  refine fr_callv_p (pc := 29) (nc := nc) (ns := ns) (N := m_MO_isNode) (rest := []) (as := [.int (nI k)]) d_MO_node_29 vc_MO_91 ⟨by decide, by decide, Nat.le_of_ble_eq_true rfl⟩ (Nat.le_of_ble_eq_true rfl) fm_mo (c_MO_isNode_y hA hk150 (fm_th hc hok hk)) rfl ?_
  refine fr_if_eq (pc := 32) (tgt := 47) d_MO_node_32 (by decide) (fun q => absurd q (by decide)) (fun _ => ?_)
  refine fr_aload_n (pc := 35) d_MO_node_35 rfl rfl ?_
  refine fr_iload_n (pc := 36) d_MO_node_36 rfl rfl ?_
  refine fr_callv_p (pc := 37) (nc := nc) (ns := ns) (N := m_MO_isUser) (rest := []) (as := [.int (nI u)]) d_MO_node_37 vc_MO_77 ⟨by decide, by decide, Nat.le_of_ble_eq_true rfl⟩ (Nat.le_of_ble_eq_true rfl) fm_mo (c_MO_isUser_y hA hu2 (by omega)) rfl ?_
  refine fr_if_eq (pc := 40) (tgt := 47) d_MO_node_40 (by decide) (fun q => absurd q (by decide)) (fun _ => ?_)
  refine fr_iconst (pc := 43) (v := 1) d_MO_node_43 (by decide) ?_
  refine fr_goto (pc := 44) (tgt := 48) d_MO_node_44 (by decide) ?_
  refine fr_istore (pc := 48) (L2 := [(0, .ref mo), (1, .int (nI k)), (2, .int (bI b)), (3, .int (nI u)), (4, .int (nI ((fs_frn nd).getD 150))), (5, .int 1)]) d_MO_node_48 (by decide) rfl ?_
  refine fr_aload_n (pc := 50) d_MO_node_50 rfl rfl ?_
  refine fr_iload (pc := 51) d_MO_node_51 rfl ?_
  refine fr_iload (pc := 53) d_MO_node_53 rfl ?_
  refine fr_if_eq (pc := 55) (tgt := 71) d_MO_node_55 (by decide) (fun q => absurd q (by decide)) (fun _ => ?_)
  refine fr_aload_n (pc := 58) d_MO_node_58 rfl rfl ?_
  refine fr_get (pc := 59) (v := .ref (ar 5)) d_MO_node_59 fg_MO_29 fm_mo rfl ?_
  refine fr_iload_n (pc := 62) d_MO_node_62 rfl rfl ?_
  refine fr_mzld (pc := 63) (j := 5) (k := k) d_MO_node_63 hA (by decide) rfl (by show k < 150; omega) ?_
  refine fr_st (st2 := [.int 0, .int 1, .ref mo]) (by rw [c5, hfo]; rfl) ?_
  refine fr_if_eq (pc := 64) (tgt := 71) d_MO_node_64 (by decide) (fun _ => ?_) (fun q => absurd q (by decide))
  refine fr_iconst (pc := 71) (v := 0) d_MO_node_71 (by decide) ?_
  refine fr_iload (pc := 72) d_MO_node_72 rfl ?_
  refine fr_if_eq (pc := 74) (tgt := 99) d_MO_node_74 (by decide) (fun q => absurd q (by decide)) (fun _ => ?_)
  refine fr_iload (pc := 77) d_MO_node_77 rfl ?_
  refine fr_sipush (pc := 79) (v := 150) d_MO_node_79 (by decide) ?_
  have hlv : (fs_frn nd).getD 150 ≤ 150 := by cases h : fs_frn nd with
    | none => exact Nat.le_refl _
    | some x => have := (fs_frn_at h).2; simp only [Option.getD_some]; omega
  refine fr_icmp_geN (pc := 82) (tgt := 99) (a := ((fs_frn nd).getD 150)) (b := 150) d_MO_node_82 (by decide) (by omega) (by omega) (fun q => ?_) (fun q => ?_)
  · refine fr_iconst (pc := 99) (v := 0) d_MO_node_99 (by decide) ?_
    refine fr_callv_p (pc := 100) (nc := nc) (ns := ns) (N := m_MO_goes) (rest := []) (as := [.int 1, .int 0, .int 0]) d_MO_node_100 vc_MO_69 ⟨by decide, by decide, Nat.le_of_ble_eq_true rfl⟩ (Nat.le_of_ble_eq_true rfl) fm_mo (c_MO_goes2 hA) rfl ?_
    refine fr_if_ne (pc := 103) (tgt := 108) d_MO_node_103 (by decide) (fun q => absurd q (by decide)) (fun _ => ?_)
    refine fr_iconst (pc := 106) (v := 0) d_MO_node_106 (by decide) ?_
    exact fr_iret rfl d_MO_node_107 ⟨rfl, _, _, _, _, rfl, hc⟩
  · refine fr_aload_n (pc := 85) d_MO_node_85 rfl rfl ?_
    refine fr_iload_n (pc := 86) d_MO_node_86 rfl rfl ?_
    refine fr_callv_p (pc := 87) (nc := nc) (ns := ns) (N := m_MO_depth) (rest := [.int 0, .int 1, .ref mo]) (as := [.int (nI k)]) d_MO_node_87 vc_MO_94 ⟨by decide, by decide, Nat.le_of_ble_eq_true rfl⟩ (Nat.le_of_ble_eq_true rfl) fm_mo (c_MO_depth hA (fm_p_c hc hok) hch) rfl ?_
    refine fr_bipush (pc := 90) (v := 20) d_MO_node_90 (by decide) ?_
    refine fr_icmp_geN (pc := 92) (tgt := 99) (a := (fs_ab nd k).length) (b := 20) d_MO_node_92 (by decide) (by omega) (by omega) (fun q2 => ?_) (fun q2 => ?_)
    · refine fr_iconst (pc := 99) (v := 0) d_MO_node_99 (by decide) ?_
      refine fr_callv_p (pc := 100) (nc := nc) (ns := ns) (N := m_MO_goes) (rest := []) (as := [.int 1, .int 0, .int 0]) d_MO_node_100 vc_MO_69 ⟨by decide, by decide, Nat.le_of_ble_eq_true rfl⟩ (Nat.le_of_ble_eq_true rfl) fm_mo (c_MO_goes2 hA) rfl ?_
      refine fr_if_ne (pc := 103) (tgt := 108) d_MO_node_103 (by decide) (fun q => absurd q (by decide)) (fun _ => ?_)
      refine fr_iconst (pc := 106) (v := 0) d_MO_node_106 (by decide) ?_
      exact fr_iret rfl d_MO_node_107 ⟨rfl, _, _, _, _, rfl, hc⟩
    · refine fr_iconst (pc := 95) (v := 1) d_MO_node_95 (by decide) ?_
      refine fr_goto (pc := 96) (tgt := 100) d_MO_node_96 (by decide) ?_
      refine fr_callv_p (pc := 100) (nc := nc) (ns := ns) (N := m_MO_goes) (rest := []) (as := [.int 1, .int 0, .int 1]) d_MO_node_100 vc_MO_69 ⟨by decide, by decide, Nat.le_of_ble_eq_true rfl⟩ (Nat.le_of_ble_eq_true rfl) fm_mo (c_MO_goes2 hA) rfl ?_
      refine fr_if_ne (pc := 103) (tgt := 108) d_MO_node_103 (by decide) (fun q => absurd q (by decide)) (fun _ => ?_)
      refine fr_iconst (pc := 106) (v := 0) d_MO_node_106 (by decide) ?_
      exact fr_iret rfl d_MO_node_107 ⟨rfl, _, _, _, _, rfl, hc⟩
theorem p_MO_node_n4 {g : fw_G} {nc ns : Nat} {w0 : fw_W} {mo : Nat} {ar : Nat → Nat} (hA : fm_ad mo ar) {th so pl po : Int32} {us n : Nat} {F : fm_F} {hu hg : Nat → Nat → Bool} {nd : fs_D} (hc : fm_c us n hu hg nd F) (hs : fm_S us n hu hg nd) {k : Nat} {N : fs_N} (hk : nd k = some N) {b : Bool} {u : Nat} (hu2 : u < us) (hfo : N.1 = true) (hfull : fs_frn nd = none) : fw_R g m_MO_node (fm_P g w0 mo ar (.int 0) 3 (us, n, hu, hg, nd)) nc ns (fm_W g w0 mo ar (th, us, n, so, pl, po) F) 0 [(0, .ref mo), (1, .int (nI k)), (2, .int (bI b)), (3, .int (nI u))] [] := by
  obtain ⟨hok, hub, hgb⟩ := id hs
  have hus := hok.2.1
  have hn := hok.2.2.1
  have hk150 := fm_k hok hk
  obtain ⟨c5, c6, c8, c9, c10⟩ := hc.2.2.2.2.2.1 k N hk
  obtain ⟨-, hk0, how, hlen, hes, hch, hdep⟩ := hok.2.2.2.2 k N hk
  refine fr_iconst (pc := 0) (v := 0) d_MO_node_0 (by decide) ?_
  refine fr_istore (pc := 1) (L2 := [(0, .ref mo), (1, .int (nI k)), (2, .int (bI b)), (3, .int (nI u)), (4, .int 0)]) d_MO_node_1 (by decide) rfl ?_
  refine c_MO_least hA hc hs (lv := 150) 150 0 rfl (by show (fs_frn nd).getD 150 = 150; rw [hfull]; rfl) ?_
  refine fr_aload_n (pc := 27) d_MO_node_27 rfl rfl ?_
  refine fr_iload_n (pc := 28) d_MO_node_28 rfl rfl ?_
  refine fr_callv_p (pc := 29) (nc := nc) (ns := ns) (N := m_MO_isNode) (rest := []) (as := [.int (nI k)]) d_MO_node_29 vc_MO_91 ⟨by decide, by decide, Nat.le_of_ble_eq_true rfl⟩ (Nat.le_of_ble_eq_true rfl) fm_mo (c_MO_isNode_y hA hk150 (fm_th hc hok hk)) rfl ?_
  refine fr_if_eq (pc := 32) (tgt := 47) d_MO_node_32 (by decide) (fun q => absurd q (by decide)) (fun _ => ?_)
  refine fr_aload_n (pc := 35) d_MO_node_35 rfl rfl ?_
  refine fr_iload_n (pc := 36) d_MO_node_36 rfl rfl ?_
  refine fr_callv_p (pc := 37) (nc := nc) (ns := ns) (N := m_MO_isUser) (rest := []) (as := [.int (nI u)]) d_MO_node_37 vc_MO_77 ⟨by decide, by decide, Nat.le_of_ble_eq_true rfl⟩ (Nat.le_of_ble_eq_true rfl) fm_mo (c_MO_isUser_y hA hu2 (by omega)) rfl ?_
  refine fr_if_eq (pc := 40) (tgt := 47) d_MO_node_40 (by decide) (fun q => absurd q (by decide)) (fun _ => ?_)
  refine fr_iconst (pc := 43) (v := 1) d_MO_node_43 (by decide) ?_
  refine fr_goto (pc := 44) (tgt := 48) d_MO_node_44 (by decide) ?_
  refine fr_istore (pc := 48) (L2 := [(0, .ref mo), (1, .int (nI k)), (2, .int (bI b)), (3, .int (nI u)), (4, .int (nI 150)), (5, .int 1)]) d_MO_node_48 (by decide) rfl ?_
  refine fr_aload_n (pc := 50) d_MO_node_50 rfl rfl ?_
  refine fr_iload (pc := 51) d_MO_node_51 rfl ?_
  refine fr_iload (pc := 53) d_MO_node_53 rfl ?_
  refine fr_if_eq (pc := 55) (tgt := 71) d_MO_node_55 (by decide) (fun q => absurd q (by decide)) (fun _ => ?_)
  refine fr_aload_n (pc := 58) d_MO_node_58 rfl rfl ?_
  refine fr_get (pc := 59) (v := .ref (ar 5)) d_MO_node_59 fg_MO_29 fm_mo rfl ?_
  refine fr_iload_n (pc := 62) d_MO_node_62 rfl rfl ?_
  refine fr_mzld (pc := 63) (j := 5) (k := k) d_MO_node_63 hA (by decide) rfl (by show k < 150; omega) ?_
  refine fr_st (st2 := [.int 1, .int 1, .ref mo]) (by rw [c5, hfo]; rfl) ?_
  refine fr_if_eq (pc := 64) (tgt := 71) d_MO_node_64 (by decide) (fun q => absurd q (by decide)) (fun _ => ?_)
  refine fr_iconst (pc := 67) (v := 1) d_MO_node_67 (by decide) ?_
  refine fr_goto (pc := 68) (tgt := 72) d_MO_node_68 (by decide) ?_
  refine fr_iload (pc := 72) d_MO_node_72 rfl ?_
  refine fr_if_eq (pc := 74) (tgt := 99) d_MO_node_74 (by decide) (fun q => absurd q (by decide)) (fun _ => ?_)
  refine fr_iload (pc := 77) d_MO_node_77 rfl ?_
  refine fr_sipush (pc := 79) (v := 150) d_MO_node_79 (by decide) ?_
  refine fr_icmp_geN (pc := 82) (tgt := 99) (a := 150) (b := 150) d_MO_node_82 (by decide) (by omega) (by omega) (fun _ => ?_) (fun q => absurd q (by omega))
  refine fr_iconst (pc := 99) (v := 0) d_MO_node_99 (by decide) ?_
  refine fr_callv_p (pc := 100) (nc := nc) (ns := ns) (N := m_MO_goes) (rest := []) (as := [.int 1, .int 1, .int 0]) d_MO_node_100 vc_MO_69 ⟨by decide, by decide, Nat.le_of_ble_eq_true rfl⟩ (Nat.le_of_ble_eq_true rfl) fm_mo (c_MO_goes3 hA) rfl ?_
  refine fr_if_ne (pc := 103) (tgt := 108) d_MO_node_103 (by decide) (fun q => absurd q (by decide)) (fun _ => ?_)
  refine fr_iconst (pc := 106) (v := 0) d_MO_node_106 (by decide) ?_
  exact fr_iret rfl d_MO_node_107 ⟨rfl, _, _, _, _, rfl, hc⟩
theorem p_MO_node_n5 {g : fw_G} {nc ns : Nat} {w0 : fw_W} {mo : Nat} {ar : Nat → Nat} (hA : fm_ad mo ar) {th so pl po : Int32} {us n : Nat} {F : fm_F} {hu hg : Nat → Nat → Bool} {nd : fs_D} (hc : fm_c us n hu hg nd F) (hs : fm_S us n hu hg nd) {k : Nat} {N : fs_N} (hk : nd k = some N) {b : Bool} {u : Nat} (hu2 : u < us) (hfo : N.1 = true) {f : Nat} (hf : fs_frn nd = some f) (hd : ¬ (fs_ab nd k).length < 20) : fw_R g m_MO_node (fm_P g w0 mo ar (.int 0) 3 (us, n, hu, hg, nd)) nc ns (fm_W g w0 mo ar (th, us, n, so, pl, po) F) 0 [(0, .ref mo), (1, .int (nI k)), (2, .int (bI b)), (3, .int (nI u))] [] := by
  obtain ⟨hok, hub, hgb⟩ := id hs
  have hus := hok.2.1
  have hn := hok.2.2.1
  have hk150 := fm_k hok hk
  obtain ⟨c5, c6, c8, c9, c10⟩ := hc.2.2.2.2.2.1 k N hk
  obtain ⟨-, hk0, how, hlen, hes, hch, hdep⟩ := hok.2.2.2.2 k N hk
  obtain ⟨hff, hf150⟩ := fs_frn_at hf
  refine fr_iconst (pc := 0) (v := 0) d_MO_node_0 (by decide) ?_
  refine fr_istore (pc := 1) (L2 := [(0, .ref mo), (1, .int (nI k)), (2, .int (bI b)), (3, .int (nI u)), (4, .int 0)]) d_MO_node_1 (by decide) rfl ?_
  refine c_MO_least hA hc hs (lv := f) 150 0 rfl (by show (fs_frn nd).getD 150 = f; rw [hf]; rfl) ?_
  refine fr_aload_n (pc := 27) d_MO_node_27 rfl rfl ?_
  refine fr_iload_n (pc := 28) d_MO_node_28 rfl rfl ?_
  refine fr_callv_p (pc := 29) (nc := nc) (ns := ns) (N := m_MO_isNode) (rest := []) (as := [.int (nI k)]) d_MO_node_29 vc_MO_91 ⟨by decide, by decide, Nat.le_of_ble_eq_true rfl⟩ (Nat.le_of_ble_eq_true rfl) fm_mo (c_MO_isNode_y hA hk150 (fm_th hc hok hk)) rfl ?_
  refine fr_if_eq (pc := 32) (tgt := 47) d_MO_node_32 (by decide) (fun q => absurd q (by decide)) (fun _ => ?_)
  refine fr_aload_n (pc := 35) d_MO_node_35 rfl rfl ?_
  refine fr_iload_n (pc := 36) d_MO_node_36 rfl rfl ?_
  refine fr_callv_p (pc := 37) (nc := nc) (ns := ns) (N := m_MO_isUser) (rest := []) (as := [.int (nI u)]) d_MO_node_37 vc_MO_77 ⟨by decide, by decide, Nat.le_of_ble_eq_true rfl⟩ (Nat.le_of_ble_eq_true rfl) fm_mo (c_MO_isUser_y hA hu2 (by omega)) rfl ?_
  refine fr_if_eq (pc := 40) (tgt := 47) d_MO_node_40 (by decide) (fun q => absurd q (by decide)) (fun _ => ?_)
  refine fr_iconst (pc := 43) (v := 1) d_MO_node_43 (by decide) ?_
  refine fr_goto (pc := 44) (tgt := 48) d_MO_node_44 (by decide) ?_
  refine fr_istore (pc := 48) (L2 := [(0, .ref mo), (1, .int (nI k)), (2, .int (bI b)), (3, .int (nI u)), (4, .int (nI f)), (5, .int 1)]) d_MO_node_48 (by decide) rfl ?_
  refine fr_aload_n (pc := 50) d_MO_node_50 rfl rfl ?_
  refine fr_iload (pc := 51) d_MO_node_51 rfl ?_
  refine fr_iload (pc := 53) d_MO_node_53 rfl ?_
  refine fr_if_eq (pc := 55) (tgt := 71) d_MO_node_55 (by decide) (fun q => absurd q (by decide)) (fun _ => ?_)
  refine fr_aload_n (pc := 58) d_MO_node_58 rfl rfl ?_
  refine fr_get (pc := 59) (v := .ref (ar 5)) d_MO_node_59 fg_MO_29 fm_mo rfl ?_
  refine fr_iload_n (pc := 62) d_MO_node_62 rfl rfl ?_
  refine fr_mzld (pc := 63) (j := 5) (k := k) d_MO_node_63 hA (by decide) rfl (by show k < 150; omega) ?_
  refine fr_st (st2 := [.int 1, .int 1, .ref mo]) (by rw [c5, hfo]; rfl) ?_
  refine fr_if_eq (pc := 64) (tgt := 71) d_MO_node_64 (by decide) (fun q => absurd q (by decide)) (fun _ => ?_)
  refine fr_iconst (pc := 67) (v := 1) d_MO_node_67 (by decide) ?_
  refine fr_goto (pc := 68) (tgt := 72) d_MO_node_68 (by decide) ?_
  refine fr_iload (pc := 72) d_MO_node_72 rfl ?_
  refine fr_if_eq (pc := 74) (tgt := 99) d_MO_node_74 (by decide) (fun q => absurd q (by decide)) (fun _ => ?_)
  refine fr_iload (pc := 77) d_MO_node_77 rfl ?_
  refine fr_sipush (pc := 79) (v := 150) d_MO_node_79 (by decide) ?_
  refine fr_icmp_geN (pc := 82) (tgt := 99) (a := f) (b := 150) d_MO_node_82 (by decide) (by omega) (by omega) (fun q => absurd q (by omega)) (fun _ => ?_)
  refine fr_aload_n (pc := 85) d_MO_node_85 rfl rfl ?_
  refine fr_iload_n (pc := 86) d_MO_node_86 rfl rfl ?_
  refine fr_callv_p (pc := 87) (nc := nc) (ns := ns) (N := m_MO_depth) (rest := [.int 1, .int 1, .ref mo]) (as := [.int (nI k)]) d_MO_node_87 vc_MO_94 ⟨by decide, by decide, Nat.le_of_ble_eq_true rfl⟩ (Nat.le_of_ble_eq_true rfl) fm_mo (c_MO_depth hA (fm_p_c hc hok) hch) rfl ?_
  refine fr_bipush (pc := 90) (v := 20) d_MO_node_90 (by decide) ?_
  refine fr_icmp_geN (pc := 92) (tgt := 99) (a := (fs_ab nd k).length) (b := 20) d_MO_node_92 (by decide) (by omega) (by omega) (fun _ => ?_) (fun q => absurd q (by omega))
  refine fr_iconst (pc := 99) (v := 0) d_MO_node_99 (by decide) ?_
  refine fr_callv_p (pc := 100) (nc := nc) (ns := ns) (N := m_MO_goes) (rest := []) (as := [.int 1, .int 1, .int 0]) d_MO_node_100 vc_MO_69 ⟨by decide, by decide, Nat.le_of_ble_eq_true rfl⟩ (Nat.le_of_ble_eq_true rfl) fm_mo (c_MO_goes3 hA) rfl ?_
  refine fr_if_ne (pc := 103) (tgt := 108) d_MO_node_103 (by decide) (fun q => absurd q (by decide)) (fun _ => ?_)
  refine fr_iconst (pc := 106) (v := 0) d_MO_node_106 (by decide) ?_
  exact fr_iret rfl d_MO_node_107 ⟨rfl, _, _, _, _, rfl, hc⟩
theorem p_MO_node_ok {g : fw_G} {nc ns : Nat} {w0 : fw_W} {mo : Nat} {ar : Nat → Nat} (hA : fm_ad mo ar) {th so pl po : Int32} {us n : Nat} {F : fm_F} {hu hg : Nat → Nat → Bool} {nd : fs_D} (hc : fm_c us n hu hg nd F) (hs : fm_S us n hu hg nd) {k : Nat} {N : fs_N} (hk : nd k = some N) {b : Bool} {u : Nat} (hu2 : u < us) (hfo : N.1 = true) {f : Nat} (hf : fs_frn nd = some f) (hd : (fs_ab nd k).length < 20) : fw_R g m_MO_node (fm_P g w0 mo ar (.int (nI f)) 0 (us, n, hu, hg, va_up nd f (some (b, some k, u, false, true, [])))) nc ns (fm_W g w0 mo ar (th, us, n, so, pl, po) F) 0 [(0, .ref mo), (1, .int (nI k)), (2, .int (bI b)), (3, .int (nI u))] [] := by
  obtain ⟨hok, hub, hgb⟩ := id hs
  have hus := hok.2.1
  have hn := hok.2.2.1
  have hk150 := fm_k hok hk
  obtain ⟨c5, c6, c8, c9, c10⟩ := hc.2.2.2.2.2.1 k N hk
  obtain ⟨-, hk0, how, hlen, hes, hch, hdep⟩ := hok.2.2.2.2 k N hk
  obtain ⟨hff, hf150⟩ := fs_frn_at hf
  refine fr_iconst (pc := 0) (v := 0) d_MO_node_0 (by decide) ?_
  refine fr_istore (pc := 1) (L2 := [(0, .ref mo), (1, .int (nI k)), (2, .int (bI b)), (3, .int (nI u)), (4, .int 0)]) d_MO_node_1 (by decide) rfl ?_
  refine c_MO_least hA hc hs (lv := f) 150 0 rfl (by show (fs_frn nd).getD 150 = f; rw [hf]; rfl) ?_
  refine fr_aload_n (pc := 27) d_MO_node_27 rfl rfl ?_
  refine fr_iload_n (pc := 28) d_MO_node_28 rfl rfl ?_
  refine fr_callv_p (pc := 29) (nc := nc) (ns := ns) (N := m_MO_isNode) (rest := []) (as := [.int (nI k)]) d_MO_node_29 vc_MO_91 ⟨by decide, by decide, Nat.le_of_ble_eq_true rfl⟩ (Nat.le_of_ble_eq_true rfl) fm_mo (c_MO_isNode_y hA hk150 (fm_th hc hok hk)) rfl ?_
  refine fr_if_eq (pc := 32) (tgt := 47) d_MO_node_32 (by decide) (fun q => absurd q (by decide)) (fun _ => ?_)
  refine fr_aload_n (pc := 35) d_MO_node_35 rfl rfl ?_
  refine fr_iload_n (pc := 36) d_MO_node_36 rfl rfl ?_
  refine fr_callv_p (pc := 37) (nc := nc) (ns := ns) (N := m_MO_isUser) (rest := []) (as := [.int (nI u)]) d_MO_node_37 vc_MO_77 ⟨by decide, by decide, Nat.le_of_ble_eq_true rfl⟩ (Nat.le_of_ble_eq_true rfl) fm_mo (c_MO_isUser_y hA hu2 (by omega)) rfl ?_
  refine fr_if_eq (pc := 40) (tgt := 47) d_MO_node_40 (by decide) (fun q => absurd q (by decide)) (fun _ => ?_)
  refine fr_iconst (pc := 43) (v := 1) d_MO_node_43 (by decide) ?_
  refine fr_goto (pc := 44) (tgt := 48) d_MO_node_44 (by decide) ?_
  refine fr_istore (pc := 48) (L2 := [(0, .ref mo), (1, .int (nI k)), (2, .int (bI b)), (3, .int (nI u)), (4, .int (nI f)), (5, .int 1)]) d_MO_node_48 (by decide) rfl ?_
  refine fr_aload_n (pc := 50) d_MO_node_50 rfl rfl ?_
  refine fr_iload (pc := 51) d_MO_node_51 rfl ?_
  refine fr_iload (pc := 53) d_MO_node_53 rfl ?_
  refine fr_if_eq (pc := 55) (tgt := 71) d_MO_node_55 (by decide) (fun q => absurd q (by decide)) (fun _ => ?_)
  refine fr_aload_n (pc := 58) d_MO_node_58 rfl rfl ?_
  refine fr_get (pc := 59) (v := .ref (ar 5)) d_MO_node_59 fg_MO_29 fm_mo rfl ?_
  refine fr_iload_n (pc := 62) d_MO_node_62 rfl rfl ?_
  refine fr_mzld (pc := 63) (j := 5) (k := k) d_MO_node_63 hA (by decide) rfl (by show k < 150; omega) ?_
  refine fr_st (st2 := [.int 1, .int 1, .ref mo]) (by rw [c5, hfo]; rfl) ?_
  refine fr_if_eq (pc := 64) (tgt := 71) d_MO_node_64 (by decide) (fun q => absurd q (by decide)) (fun _ => ?_)
  refine fr_iconst (pc := 67) (v := 1) d_MO_node_67 (by decide) ?_
  refine fr_goto (pc := 68) (tgt := 72) d_MO_node_68 (by decide) ?_
  refine fr_iload (pc := 72) d_MO_node_72 rfl ?_
  refine fr_if_eq (pc := 74) (tgt := 99) d_MO_node_74 (by decide) (fun q => absurd q (by decide)) (fun _ => ?_)
  refine fr_iload (pc := 77) d_MO_node_77 rfl ?_
  refine fr_sipush (pc := 79) (v := 150) d_MO_node_79 (by decide) ?_
  refine fr_icmp_geN (pc := 82) (tgt := 99) (a := f) (b := 150) d_MO_node_82 (by decide) (by omega) (by omega) (fun q => absurd q (by omega)) (fun _ => ?_)
  refine fr_aload_n (pc := 85) d_MO_node_85 rfl rfl ?_
  refine fr_iload_n (pc := 86) d_MO_node_86 rfl rfl ?_
  refine fr_callv_p (pc := 87) (nc := nc) (ns := ns) (N := m_MO_depth) (rest := [.int 1, .int 1, .ref mo]) (as := [.int (nI k)]) d_MO_node_87 vc_MO_94 ⟨by decide, by decide, Nat.le_of_ble_eq_true rfl⟩ (Nat.le_of_ble_eq_true rfl) fm_mo (c_MO_depth hA (fm_p_c hc hok) hch) rfl ?_
  refine fr_bipush (pc := 90) (v := 20) d_MO_node_90 (by decide) ?_
  refine fr_icmp_geN (pc := 92) (tgt := 99) (a := (fs_ab nd k).length) (b := 20) d_MO_node_92 (by decide) (by omega) (by omega) (fun q => absurd q (by omega)) (fun _ => ?_)
  refine fr_iconst (pc := 95) (v := 1) d_MO_node_95 (by decide) ?_
  refine fr_goto (pc := 96) (tgt := 100) d_MO_node_96 (by decide) ?_
  refine fr_callv_p (pc := 100) (nc := nc) (ns := ns) (N := m_MO_goes) (rest := []) (as := [.int 1, .int 1, .int 1]) d_MO_node_100 vc_MO_69 ⟨by decide, by decide, Nat.le_of_ble_eq_true rfl⟩ (Nat.le_of_ble_eq_true rfl) fm_mo (c_MO_goes0 hA) rfl ?_
  refine fr_if_ne (pc := 103) (tgt := 108) d_MO_node_103 (by decide) (fun _ => ?_) (fun q => absurd q (by decide))
  refine fr_aload_n (pc := 108) d_MO_node_108 rfl rfl ?_
  refine fr_get (pc := 109) (v := .ref (ar 4)) d_MO_node_109 fg_MO_26 fm_mo rfl ?_
  refine fr_iload (pc := 112) d_MO_node_112 rfl ?_
  refine fr_iconst (pc := 114) (v := 1) d_MO_node_114 (by decide) ?_
  refine fr_mzst (pc := 115) (j := 4) (k := f) (x := 1) d_MO_node_115 hA (by decide) rfl (by show f < 150; omega) (Or.inr rfl) ?_
  refine fr_aload_n (pc := 116) d_MO_node_116 rfl rfl ?_
  refine fr_get (pc := 117) (v := .ref (ar 5)) d_MO_node_117 fg_MO_29 fm_mo rfl ?_
  refine fr_iload (pc := 120) d_MO_node_120 rfl ?_
  refine fr_iload_n (pc := 122) d_MO_node_122 rfl rfl ?_
  refine fr_mzst (pc := 123) (j := 5) (k := f) (x := (bI b)) d_MO_node_123 hA (by decide) rfl (by show f < 150; omega) (bI_01 _) ?_
  refine fr_aload_n (pc := 124) d_MO_node_124 rfl rfl ?_
  refine fr_get (pc := 125) (v := .ref (ar 6)) d_MO_node_125 fg_MO_32 fm_mo rfl ?_
  refine fr_iload (pc := 128) d_MO_node_128 rfl ?_
  refine fr_iconst (pc := 130) (v := 0) d_MO_node_130 (by decide) ?_
  refine fr_mzst (pc := 131) (j := 6) (k := f) (x := 0) d_MO_node_131 hA (by decide) rfl (by show f < 150; omega) (Or.inl rfl) ?_
  refine fr_aload_n (pc := 132) d_MO_node_132 rfl rfl ?_
  refine fr_get (pc := 133) (v := .ref (ar 7)) d_MO_node_133 fg_MO_35 fm_mo rfl ?_
  refine fr_iload (pc := 136) d_MO_node_136 rfl ?_
  refine fr_iconst (pc := 138) (v := 1) d_MO_node_138 (by decide) ?_
  refine fr_mzst (pc := 139) (j := 7) (k := f) (x := 1) d_MO_node_139 hA (by decide) rfl (by show f < 150; omega) (Or.inr rfl) ?_
  refine fr_aload_n (pc := 140) d_MO_node_140 rfl rfl ?_
  refine fr_get (pc := 141) (v := .ref (ar 8)) d_MO_node_141 fg_MO_38 fm_mo rfl ?_
  refine fr_iload (pc := 144) d_MO_node_144 rfl ?_
  refine fr_iload_n (pc := 146) d_MO_node_146 rfl rfl ?_
  refine fr_mist (pc := 147) (j := 8) (k := f) (x := (nI k)) d_MO_node_147 hA (by decide) rfl (by show f < 150; omega) ?_
  refine fr_aload_n (pc := 148) d_MO_node_148 rfl rfl ?_
  refine fr_get (pc := 149) (v := .ref (ar 9)) d_MO_node_149 fg_MO_42 fm_mo rfl ?_
  refine fr_iload (pc := 152) d_MO_node_152 rfl ?_
  refine fr_iload_n (pc := 154) d_MO_node_154 rfl rfl ?_
  refine fr_mist (pc := 155) (j := 9) (k := f) (x := (nI u)) d_MO_node_155 hA (by decide) rfl (by show f < 150; omega) ?_
  refine fr_aload_n (pc := 156) d_MO_node_156 rfl rfl ?_
  refine fr_get (pc := 157) (v := .ref (ar 10)) d_MO_node_157 fg_MO_45 fm_mo rfl ?_
  refine fr_iload (pc := 160) d_MO_node_160 rfl ?_
  refine fr_iconst (pc := 162) (v := 0) d_MO_node_162 (by decide) ?_
  refine fr_mist (pc := 163) (j := 10) (k := f) (x := 0) d_MO_node_163 hA (by decide) rfl (by show f < 150; omega) ?_
  refine fr_iload (pc := 164) d_MO_node_164 rfl ?_
  exact fr_iret rfl d_MO_node_166 ⟨rfl, _, _, _, _, rfl, fm_c_new hc (fun j hj => by repeat rw [fm_e_ne (by omega)]) (fun j m hm => by repeat rw [fm_e_hm _ _ hm]) (by repeat first | rw [fm_e_self] | rw [fm_e_ne (by decide)]) (by repeat first | rw [fm_e_self] | rw [fm_e_ne (by decide)]) (by repeat first | rw [fm_e_self] | rw [fm_e_ne (by decide)]) (by repeat first | rw [fm_e_self] | rw [fm_e_ne (by decide)]) (by repeat first | rw [fm_e_self] | rw [fm_e_ne (by decide)]) (by repeat first | rw [fm_e_self] | rw [fm_e_ne (by decide)]) (by repeat first | rw [fm_e_self] | rw [fm_e_ne (by decide)])⟩

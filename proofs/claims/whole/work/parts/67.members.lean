theorem pc_bb {x : Int64} {h : Nat → Bool} (hb : ∀ i, bb x i = h i) : ∃ X, X < 2 ^ 64 ∧ x = lN X ∧ pc_n 8 X = fs_sum (fun i => if h i = true then 1 else 0) 64 0 := by
  obtain ⟨X, h1, h2⟩ := wb_of x
  refine ⟨X, h1, h2, ?_⟩
  rw [pc_n_t]
  refine fs_sum_ext 64 0 (fun j _ hj => ?_)
  unfold pc_t
  rw [← hb j, h2, bb_N X j (by omega)]
def fs_cm (hu hg : Nat → Nat → Bool) (i : Nat) : Nat := fs_sum (fun u => if hu i u = true then 1 else 0) 64 0 + fs_sum (fun j => if hg i j = true then 1 else 0) 64 0
theorem c_GR_cm_l {g : fw_G} {nc ns : Nat} {w : fw_W} {a a1 a2 a3 a4 n us : Nat} {f1 f2 f3 f4 : Nat → Int64} {hu hg : Nat → Nat → Bool} (hG : gr_at g w a a1 a2 a3 a4 n f1 f2 f3 f4) (hR : gr_rep hu hg n us f1 f2 f3 f4) : ∀ m i c, i + m = n → fw_R g m_GR_countMembers (fw_pv (.int (nI (c + fs_sum (fs_cm hu hg) m i))) w) nc ns w 4 [(0, .ref a), (1, .int (nI c)), (2, .int (nI i))] [] := by
  obtain ⟨h0, q1, q2, q3, q4, hn, -⟩ := id hG
  intro m
  induction m with
  | zero =>
    intro i c hi
    refine fr_iload_n (pc := 4) d_GR_countMembers_4 rfl rfl ?_
    refine fr_aload_n (pc := 5) d_GR_countMembers_5 rfl rfl ?_
    refine fr_get (pc := 6) (v := .int (nI n)) d_GR_countMembers_6 fg_GR_34 h0 rfl ?_
    refine fr_icmp_ge (pc := 9) (tgt := 40) d_GR_countMembers_9 (by decide) (fun q => ?_) (fun q => ?_)
    · refine fr_iload_n (pc := 40) d_GR_countMembers_40 rfl rfl ?_
      exact fr_iret rfl d_GR_countMembers_41 ⟨rfl, rfl⟩
    · exact absurd ((ni_le (by omega) (by omega)).mpr (by omega)) q
  | succ m ih =>
    intro i c hi
    obtain ⟨X1, b1, e1, p1⟩ := pc_bb (h := hu i) (hR.1 i)
    obtain ⟨X2, b2, e2, p2⟩ := pc_bb (h := hg i) (hR.2.1 i)
    refine fr_iload_n (pc := 4) d_GR_countMembers_4 rfl rfl ?_
    refine fr_aload_n (pc := 5) d_GR_countMembers_5 rfl rfl ?_
    refine fr_get (pc := 6) (v := .int (nI n)) d_GR_countMembers_6 fg_GR_34 h0 rfl ?_
    refine fr_icmp_ge (pc := 9) (tgt := 40) d_GR_countMembers_9 (by decide) (fun q => ?_) (fun q => ?_)
    · exact absurd ((ni_le (by omega) (by omega)).mp q) (by omega)
    · refine fr_iload_n (pc := 12) d_GR_countMembers_12 rfl rfl ?_
      refine fr_aload_n (pc := 13) d_GR_countMembers_13 rfl rfl ?_
      refine fr_get (pc := 14) (v := .ref a1) d_GR_countMembers_14 fg_GR_9 h0 rfl ?_
      refine fr_iload_n (pc := 17) d_GR_countMembers_17 rfl rfl ?_
      refine fr_laldN (pc := 18) d_GR_countMembers_18 q1 (k := i) (by omega) (by omega) ?_
      refine fr_st (st2 := [.long (lN X1), .int (nI c)]) (by rw [e1]) ?_
      refine fr_calls_p (pc := 19) (nc := nc) (ns := ns) (N := m_LO_bitCount) (rest := [.int (nI c)]) (as := [.long (lN X1)]) d_GR_countMembers_19 k_LO_bitCount lk_GR_38 sc_LO_bitCount np_LO_bitCount ⟨by decide, by decide, Nat.le_of_ble_eq_true rfl⟩ (Nat.le_of_ble_eq_true rfl) (c_LO_bitCount b1) rfl ?_
      refine fr_aload_n (pc := 22) d_GR_countMembers_22 rfl rfl ?_
      refine fr_get (pc := 23) (v := .ref a2) d_GR_countMembers_23 fg_GR_15 h0 rfl ?_
      refine fr_iload_n (pc := 26) d_GR_countMembers_26 rfl rfl ?_
      refine fr_laldN (pc := 27) d_GR_countMembers_27 q2 (k := i) (by omega) (by omega) ?_
      refine fr_st (st2 := [.long (lN X2), .int (nI (pc_n 8 X1)), .int (nI c)]) (by rw [e2]) ?_
      refine fr_calls_p (pc := 28) (nc := nc) (ns := ns) (N := m_LO_bitCount) (rest := [.int (nI (pc_n 8 X1)), .int (nI c)]) (as := [.long (lN X2)]) d_GR_countMembers_28 k_LO_bitCount lk_GR_38 sc_LO_bitCount np_LO_bitCount ⟨by decide, by decide, Nat.le_of_ble_eq_true rfl⟩ (Nat.le_of_ble_eq_true rfl) (c_LO_bitCount b2) rfl ?_
      refine fr_iadd (pc := 31) d_GR_countMembers_31 ?_
      refine fr_st (st2 := [.int (nI (pc_n 8 X1 + pc_n 8 X2)), .int (nI c)]) (by rw [ni_add]) ?_
      refine fr_iadd (pc := 32) d_GR_countMembers_32 ?_
      refine fr_st (st2 := [.int (nI (c + fs_cm hu hg i))]) (by rw [ni_add, p1, p2]; rfl) ?_
      refine fr_istore_n (pc := 33) (L2 := [(0, .ref a), (1, .int (nI (c + fs_cm hu hg i))), (2, .int (nI i))]) d_GR_countMembers_33 rfl (by decide) rfl ?_
      refine fr_iinc (pc := 34) (v := (nI (i + 1))) (L2 := [(0, .ref a), (1, .int (nI (c + fs_cm hu hg i))), (2, .int (nI (i + 1)))]) d_GR_countMembers_34 rfl (fi_1 _) (by decide) rfl ?_
      refine fr_goto (pc := 37) (tgt := 4) d_GR_countMembers_37 (by decide) ?_
      have e : c + fs_sum (fs_cm hu hg) (m + 1) i = (c + fs_cm hu hg i) + fs_sum (fs_cm hu hg) m (i + 1) := by rw [fs_sum]; omega
      rw [e]
      exact ih (i + 1) _ (by omega)
theorem c_GR_cm {g : fw_G} {nc ns : Nat} {w : fw_W} {a a1 a2 a3 a4 n us : Nat} {f1 f2 f3 f4 : Nat → Int64} {hu hg : Nat → Nat → Bool} (hG : gr_at g w a a1 a2 a3 a4 n f1 f2 f3 f4) (hR : gr_rep hu hg n us f1 f2 f3 f4) : fw_R g m_GR_countMembers (fw_pv (.int (nI (fs_sum (fs_cm hu hg) n 0))) w) nc ns w 0 [(0, .ref a)] [] := by
  refine fr_iconst (pc := 0) (v := 0) d_GR_countMembers_0 (by decide) ?_
  refine fr_istore_n (pc := 1) (L2 := [(0, .ref a), (1, .int 0)]) d_GR_countMembers_1 rfl (by decide) rfl ?_
  refine fr_iconst (pc := 2) (v := 0) d_GR_countMembers_2 (by decide) ?_
  refine fr_istore_n (pc := 3) (L2 := [(0, .ref a), (1, .int 0), (2, .int 0)]) d_GR_countMembers_3 rfl (by decide) rfl ?_
  have hh := c_GR_cm_l (nc := nc) (ns := ns) hG hR n 0 0 (Nat.zero_add _)
  rw [Nat.zero_add] at hh
  exact hh
theorem p_FR_count_4 {g : fw_G} {w : fw_W} {o gr a1 a2 a3 a4 na us n : Nat} {hu hg : Nat → Nat → Bool} {nd : fs_D} (hX : fs_X g (o, gr, a1, a2, a3, a4, na) (us, n, hu, hg, nd) w) : fw_R g m_FR_count (fs_P g (o, gr, a1, a2, a3, a4, na) w (.inl (some (.int (nI (fs_sum (fs_cm hu hg) n 0))))) (us, n, hu, hg, nd)) 1 6 w 0 [(0, .ref o), (1, .int (nI 4))] [] := by
  obtain ⟨f1, f2, f3, f4, ad, lq, ld, lc, lt, hok, h0, hG, hR, hN, hr⟩ := fs_X_el hX
  refine fr_iload_n (pc := 0) d_FR_count_0 rfl rfl ?_
  refine fr_tableIn (pc := 1) (off := 58) (tgt := 59) d_FR_count_1 (by decide) (by decide) (by decide) (by decide) ?_
  refine fr_aload_n (pc := 59) d_FR_count_59 rfl rfl ?_
  refine fr_get (pc := 60) (v := .ref gr) d_FR_count_60 fg_FR_10 h0 rfl ?_
  refine fr_callv_p (pc := 63) (nc := 1) (ns := 6) (N := m_GR_countMembers) (rest := []) (as := []) d_FR_count_63 vc_FR_211 ⟨by decide, by decide, Nat.le_of_ble_eq_true rfl⟩ (Nat.le_of_ble_eq_true rfl) hG.1 (c_GR_cm hG hR) rfl ?_
  exact fr_iret rfl d_FR_count_66 ⟨rfl, hX, fs_Fr_id⟩

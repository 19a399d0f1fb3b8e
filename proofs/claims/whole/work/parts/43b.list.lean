abbrev li_o (g : fw_G) (n : Nat) (f : Nat → Option Nat) : va_E := .inl (fw_c g 4, n, .inr (.inr (.inr (.inr f))))
def li_f (ts : List Nat) : Nat → Option Nat := fun i => ts[i]?
def li_at (g : fw_G) (w : fw_W) (a d cap : Nat) (ts : List Nat) : Prop := ∃ mc : Int32, w a = some (.inr (4, [.int mc, .ref d, .int (nI ts.length)])) ∧ ts.length ≤ 12 ∧ (∀ y ∈ ts, ∃ fs, w y = some (.inr (3, fs))) ∧
  ((d = fw_df g ∧ ts = []) ∨ (w d = some (li_o g cap (li_f ts)) ∧ ts.length ≤ cap ∧ (cap = 10 ∨ cap = 15)))
theorem c_AL_size {g : fw_G} {nc ns : Nat} {w : fw_W} {a d cap : Nat} {ts : List Nat} (h : li_at g w a d cap ts) : fw_R g m_AL_size (fw_pv (.int (nI ts.length)) w) nc ns w 0 [(0, .ref a)] [] := by
  obtain ⟨mc, h1, -⟩ := h
  refine fr_aload_n (pc := 0) d_AL_size_0 rfl rfl ?_
  refine fr_get (pc := 1) (v := .int (nI ts.length)) d_AL_size_1 fg_AL_48 h1 rfl ?_
  exact fr_iret rfl d_AL_size_4 ⟨rfl, rfl⟩
theorem c_PC_chk {g : fw_G} {nc ns : Nat} {w : fw_W} {i n : Nat} (h : i < n) (hn : n < 2 ^ 31) : fw_R g m_PC_checkIndex (fw_pv (.int (nI i)) w) nc ns w 0 [(0, .int (nI i)), (1, .int (nI n)), (2, .null)] [] := by
  refine fr_iload_n (pc := 0) d_PC_checkIndex_0 rfl rfl ?_
  refine fr_if_lt (pc := 1) (tgt := 9) d_PC_checkIndex_1 (by decide) (fun b => absurd b (nI_pos (by omega))) (fun _ => ?_)
  refine fr_iload_n (pc := 4) d_PC_checkIndex_4 rfl rfl ?_
  refine fr_iload_n (pc := 5) d_PC_checkIndex_5 rfl rfl ?_
  refine fr_icmp_lt (pc := 6) (tgt := 16) d_PC_checkIndex_6 (by decide) (fun _ => ?_) (fun b => absurd ((ni_lt (by omega) (by omega)).mpr h) b)
  refine fr_iload_n (pc := 16) d_PC_checkIndex_16 rfl rfl ?_
  exact fr_iret rfl d_PC_checkIndex_17 ⟨rfl, rfl⟩
theorem c_OB_chk {g : fw_G} {nc ns : Nat} {w : fw_W} {i n : Nat} (h : i < n) (hn : n < 2 ^ 31) : fw_R g m_OB_checkIndex (fw_pv (.int (nI i)) w) nc ns w 0 [(0, .int (nI i)), (1, .int (nI n))] [] := by
  refine fr_iload_n (pc := 0) d_OB_checkIndex_0 rfl rfl ?_
  refine fr_iload_n (pc := 1) d_OB_checkIndex_1 rfl rfl ?_
  refine fr_null (pc := 2) d_OB_checkIndex_2 ?_
  refine fr_calls_p (pc := 3) (nc := nc) (ns := ns) (N := m_PC_checkIndex) (rest := []) (as := [.int (nI i), .int (nI n), .null]) (v := .int (nI i)) d_OB_checkIndex_3 k_PC_checkIndex lk_OB_105 sc_PC_checkIndex np_PC_checkIndex ⟨by decide, by decide, Nat.le_of_ble_eq_true rfl⟩ (Nat.le_of_ble_eq_true rfl) (c_PC_chk h hn) rfl ?_
  exact fr_iret rfl d_OB_checkIndex_6 ⟨rfl, rfl⟩
theorem c_AL_eld {g : fw_G} {nc ns : Nat} {w : fw_W} {a d cap i y : Nat} {ts : List Nat} (h : li_at g w a d cap ts) (hy : ts[i]? = some y) : fw_R g m_AL_elementData (fw_pv (.ref y) w) nc ns w 0 [(0, .ref a), (1, .int (nI i))] [] := by
  have hi : i < ts.length := (List.getElem?_eq_some_iff.mp hy).1
  obtain ⟨mc, h1, h12, -, ⟨-, h0⟩ | ⟨h2, h3, h4⟩⟩ := h
  · subst h0; exact absurd hi (Nat.not_lt_zero _)
  · refine fr_aload_n (pc := 0) d_AL_elementData_0 rfl rfl ?_
    refine fr_get (pc := 1) (v := .ref d) d_AL_elementData_1 fg_AL_9 h1 rfl ?_
    refine fr_iload_n (pc := 4) d_AL_elementData_4 rfl rfl ?_
    refine fr_aaldN (pc := 5) (t := 4) (k := i) (n := cap) d_AL_elementData_5 rfl h2 (by omega) (by omega) ?_
    rw [show li_f ts i = some y from hy]
    exact fr_aret rfl (by first | exact Or.inl ⟨_, rfl⟩ | exact Or.inr ⟨_, rfl⟩) (by first | exact Or.inl rfl | exact Or.inr ⟨_, rfl⟩) d_AL_elementData_6 ⟨rfl, rfl⟩
theorem c_AL_get {g : fw_G} {nc ns : Nat} {w : fw_W} {a d cap i y : Nat} {ts : List Nat} (h : li_at g w a d cap ts) (hy : ts[i]? = some y) : fw_R g m_AL_get (fw_pv (.ref y) w) nc ns w 0 [(0, .ref a), (1, .int (nI i))] [] := by
  have hi : i < ts.length := (List.getElem?_eq_some_iff.mp hy).1
  obtain ⟨mc, h1, h12, -⟩ := id h
  refine fr_iload_n (pc := 0) d_AL_get_0 rfl rfl ?_
  refine fr_aload_n (pc := 1) d_AL_get_1 rfl rfl ?_
  refine fr_get (pc := 2) (v := .int (nI ts.length)) d_AL_get_2 fg_AL_48 h1 rfl ?_
  refine fr_calls_p (pc := 5) (nc := nc) (ns := ns) (N := m_OB_checkIndex) (rest := []) (as := [.int (nI i), .int (nI ts.length)]) (v := .int (nI i)) d_AL_get_5 k_OB_checkIndex lk_AL_118 sc_OB_checkIndex np_OB_checkIndex ⟨by decide, by decide, Nat.le_of_ble_eq_true rfl⟩ (Nat.le_of_ble_eq_true rfl) (c_OB_chk hi (by omega)) rfl ?_
  refine fr_pop (pc := 8) d_AL_get_8 rfl ?_
  refine fr_aload_n (pc := 9) d_AL_get_9 rfl rfl ?_
  refine fr_iload_n (pc := 10) d_AL_get_10 rfl rfl ?_
  refine fr_callv_p (pc := 11) (nc := nc) (ns := ns) (N := m_AL_elementData) (rest := []) (as := [.int (nI i)]) (v := .ref y) d_AL_get_11 vc_AL_123 ⟨by decide, by decide, Nat.le_of_ble_eq_true rfl⟩ (Nat.le_of_ble_eq_true rfl) h1 (c_AL_eld h hy) rfl ?_
  exact fr_aret rfl (by first | exact Or.inl ⟨_, rfl⟩ | exact Or.inr ⟨_, rfl⟩) (by first | exact Or.inl rfl | exact Or.inr ⟨_, rfl⟩) d_AL_get_14 ⟨rfl, rfl⟩
theorem c_AL_rng {g : fw_G} {nc ns : Nat} {w : fw_W} {a i : Nat} {n : Nat} {fs : List Value} (h1 : w a = some (.inr (4, fs))) (h2 : fs[2]? = some (.int (nI n))) (hi : i ≤ n) (hn : n < 2 ^ 31) : fw_R g m_AL_rangeCheckForAdd (fw_pn w) nc ns w 0 [(0, .ref a), (1, .int (nI i))] [] := by
  refine fr_iload_n (pc := 0) d_AL_rangeCheckForAdd_0 rfl rfl ?_
  refine fr_aload_n (pc := 1) d_AL_rangeCheckForAdd_1 rfl rfl ?_
  refine fr_get (pc := 2) (v := .int (nI n)) d_AL_rangeCheckForAdd_2 fg_AL_48 h1 h2 ?_
  refine fr_icmp_gt (pc := 5) (tgt := 12) d_AL_rangeCheckForAdd_5 (by decide) (fun b => absurd ((ni_lt (by omega) (by omega)).mp b) (by omega)) (fun _ => ?_)
  refine fr_iload_n (pc := 8) d_AL_rangeCheckForAdd_8 rfl rfl ?_
  refine fr_if_ge (pc := 9) (tgt := 25) d_AL_rangeCheckForAdd_9 (by decide) (fun _ => ?_) (fun b => absurd (nI_pos' (by omega)) b)
  exact fr_vret rfl d_AL_rangeCheckForAdd_25 ⟨rfl, rfl⟩
theorem c_MA_max {g : fw_G} {nc ns : Nat} {w : fw_W} {i j : Nat} (hi : i < 2 ^ 31) (hj : j < 2 ^ 31) : fw_R g m_MA_max (fw_pv (.int (nI (max i j))) w) nc ns w 0 [(0, .int (nI i)), (1, .int (nI j))] [] := by
  refine fr_iload_n (pc := 0) d_MA_max_0 rfl rfl ?_
  refine fr_iload_n (pc := 1) d_MA_max_1 rfl rfl ?_
  refine fr_icmp_lt (pc := 2) (tgt := 9) d_MA_max_2 (by decide) (fun b => ?_) (fun b => ?_)
  · have b1 := (ni_lt hi hj).mp b
    refine fr_iload_n (pc := 9) d_MA_max_9 rfl rfl ?_
    refine fr_st (st2 := [.int (nI (max i j))]) (by rw [show max i j = j by omega]) ?_
    exact fr_iret rfl d_MA_max_10 ⟨rfl, rfl⟩
  · have b1 := (show ¬ i < j from fun q => b ((ni_lt hi hj).mpr q))
    refine fr_iload_n (pc := 5) d_MA_max_5 rfl rfl ?_
    refine fr_goto (pc := 6) (tgt := 10) d_MA_max_6 (by decide) ?_
    refine fr_st (st2 := [.int (nI (max i j))]) (by rw [show max i j = i by omega]) ?_
    exact fr_iret rfl d_MA_max_10 ⟨rfl, rfl⟩
theorem c_MA_min {g : fw_G} {nc ns : Nat} {w : fw_W} {i j : Nat} (hi : i < 2 ^ 31) (hj : j < 2 ^ 31) : fw_R g m_MA_min (fw_pv (.int (nI (min i j))) w) nc ns w 0 [(0, .int (nI i)), (1, .int (nI j))] [] := by
  refine fr_iload_n (pc := 0) d_MA_min_0 rfl rfl ?_
  refine fr_iload_n (pc := 1) d_MA_min_1 rfl rfl ?_
  refine fr_icmp_gt (pc := 2) (tgt := 9) d_MA_min_2 (by decide) (fun b => ?_) (fun b => ?_)
  · have b1 := (ni_lt hj hi).mp b
    refine fr_iload_n (pc := 9) d_MA_min_9 rfl rfl ?_
    refine fr_st (st2 := [.int (nI (min i j))]) (by rw [show min i j = j by omega]) ?_
    exact fr_iret rfl d_MA_min_10 ⟨rfl, rfl⟩
  · have b1 := (show ¬ j < i from fun q => b ((ni_lt hj hi).mpr q))
    refine fr_iload_n (pc := 5) d_MA_min_5 rfl rfl ?_
    refine fr_goto (pc := 6) (tgt := 10) d_MA_min_6 (by decide) ?_
    refine fr_st (st2 := [.int (nI (min i j))]) (by rw [show min i j = i by omega]) ?_
    exact fr_iret rfl d_MA_min_10 ⟨rfl, rfl⟩
theorem c_AP_newLen {g : fw_G} {nc ns : Nat} {w : fw_W} : fw_R g m_AP_newLength (fw_pv (.int (nI 15)) w) nc ns w 0 [(0, .int (nI 10)), (1, .int (nI 1)), (2, .int (nI 5))] [] := by
  refine fr_iload_n (pc := 0) d_AP_newLength_0 rfl rfl ?_
  refine fr_iload_n (pc := 1) d_AP_newLength_1 rfl rfl ?_
  refine fr_iload_n (pc := 2) d_AP_newLength_2 rfl rfl ?_
  refine fr_calls_p (pc := 3) (nc := nc) (ns := ns) (N := m_MA_max) (rest := [.int (nI 10)]) (as := [.int (nI 1), .int (nI 5)]) (v := .int (nI 5)) d_AP_newLength_3 k_MA_max lk_AP_194 sc_MA_max np_MA_max ⟨by decide, by decide, Nat.le_of_ble_eq_true rfl⟩ (Nat.le_of_ble_eq_true rfl) (c_MA_max (i := 1) (j := 5) (by decide) (by decide)) rfl ?_
  refine fr_iadd (pc := 6) d_AP_newLength_6 ?_
  refine fr_st (st2 := [.int (nI 15)]) (by rw [nI_add]) ?_
  refine fr_istore_n (pc := 7) (L2 := [(0, .int (nI 10)), (1, .int (nI 1)), (2, .int (nI 5)), (3, .int (nI 15))]) d_AP_newLength_7 rfl (by decide) rfl ?_
  refine fr_iconst (pc := 8) (v := 0) d_AP_newLength_8 (by decide) ?_
  refine fr_iload_n (pc := 9) d_AP_newLength_9 rfl rfl ?_
  refine fr_icmp_ge (pc := 10) (tgt := 21) d_AP_newLength_10 (by decide) (fun b => absurd b (by decide)) (fun _ => ?_)
  refine fr_iload_n (pc := 13) d_AP_newLength_13 rfl rfl ?_
  refine fr_ldc (pc := 14) (v := 2147483639) d_AP_newLength_14 (fw_t 431 (by decide +kernel)) ?_
  refine fr_icmp_gt (pc := 16) (tgt := 21) d_AP_newLength_16 (by decide) (fun b => absurd b (by decide)) (fun _ => ?_)
  refine fr_iload_n (pc := 19) d_AP_newLength_19 rfl rfl ?_
  exact fr_iret rfl d_AP_newLength_20 ⟨rfl, rfl⟩
theorem li_cp {ts : List Nat} {n : Nat} (h : ts.length ≤ n) : va_cpy (li_f ts) (fun _ => none) 0 0 n = li_f ts := by
  funext j
  unfold va_cpy li_f
  by_cases hj : j < n
  · rw [if_pos ⟨Nat.zero_le _, by omega⟩]; simp
  · rw [if_neg (fun q => hj (by omega))]
    rw [List.getElem?_eq_none (by omega)]
theorem c_AS_cp2 {g : fw_G} {w : fw_W} {d : Nat} {ts : List Nat} (h1 : w d = some (li_o g 10 (li_f ts))) (h2 : ts.length = 10) (h3 : ∀ y ∈ ts, ∃ fs, w y = some (.inr (3, fs))) : fw_R g m_AS_copyOf2 (fun r u => ∃ q, w q = none ∧ r = .inl (some (.ref q)) ∧ u = fw_up w q (li_o g 15 (li_f ts))) 1 15 w 0 [(0, .ref d), (1, .int (nI 15)), (2, .ref (fw_mi g))] [] := by
  refine fr_aload_n (pc := 0) d_AS_copyOf2_0 rfl rfl ?_
  refine fr_ldcM (pc := 1) d_AS_copyOf2_1 (fw_t 454 (by decide +kernel)) ?_
  refine fr_acmp_ne (pc := 3) (tgt := 13) (ry := some (fw_mi g)) (rx := some (fw_mi g)) d_AS_copyOf2_3 (by decide) (fun b => absurd rfl b) (fun _ => ?_)
  refine fr_iload_n (pc := 6) d_AS_copyOf2_6 rfl rfl ?_
  refine fr_newq (pc := 7) (nc := 0) (ns := 0) (N := 15) (t := 4) (C := "java/lang/Object") d_AS_copyOf2_7 (fw_t 456 (by decide +kernel)) (fw_t 455 (by decide +kernel)) rfl (by decide) (by decide) (by decide) (fun q hq => ?_)
  have hdq : d ≠ q := fun e => by rw [e, hq] at h1; cases h1
  refine fr_goto (pc := 10) (tgt := 24) d_AS_copyOf2_10 (by decide) ?_
  refine fr_astore_n (pc := 24) (L2 := [(0, .ref d), (1, .int (nI 15)), (2, .ref (fw_mi g)), (3, .ref q)]) d_AS_copyOf2_24 rfl (by decide) rfl ?_
  refine fr_aload_n (pc := 25) d_AS_copyOf2_25 rfl rfl ?_
  refine fr_iconst (pc := 26) (v := 0) d_AS_copyOf2_26 (by decide) ?_
  refine fr_aload_n (pc := 27) d_AS_copyOf2_27 rfl rfl ?_
  refine fr_iconst (pc := 28) (v := 0) d_AS_copyOf2_28 (by decide) ?_
  refine fr_aload_n (pc := 29) d_AS_copyOf2_29 rfl rfl ?_
  refine fr_alen (pc := 30) (t := 4) (ty := .object "java/lang/Object") (v := nI 10) d_AS_copyOf2_30 rfl (fw_up_at h1 hdq) rfl ?_
  refine fr_iload_n (pc := 31) d_AS_copyOf2_31 rfl rfl ?_
  refine fr_calls_p (pc := 32) (nc := 0) (ns := 0) (N := m_MA_min) (rest := [.int 0, .ref q, .int 0, .ref d]) (as := [.int (nI 10), .int (nI 15)]) (v := .int (nI 10)) d_AS_copyOf2_32 k_MA_min lk_AS_304 sc_MA_min np_MA_min ⟨by decide, by decide, Nat.le_of_ble_eq_true rfl⟩ (Nat.le_of_ble_eq_true rfl) (c_MA_min (i := 10) (j := 15) (by decide) (by decide)) rfl ?_
  refine fr_st (st2 := [.int (nI 10), .int (nI 0), .ref q, .int (nI 0), .ref d]) rfl ?_
  refine fr_copy (pc := 35) (n0 := 10) (n1 := 15) (sp := 0) (dp := 0) (k := 10) (f := (li_f ts)) (f1 := (fun _ => none)) (f2 := (li_f ts)) d_AS_copyOf2_35 (fw_t 460 (by decide +kernel)) (fw_t 462 (by decide +kernel)) (fw_t 461 (by decide +kernel)) (fw_t 18 (by decide +kernel)) (fw_t 884 (by decide +kernel)) (fw_up_at h1 hdq) fw_up_self (by omega) (by omega) (by omega) (by omega) (fun i hi y hy => by rw [Nat.zero_add] at hy; obtain ⟨fs, e⟩ := h3 y (List.mem_of_getElem? hy); exact ⟨fs, fw_up_at e (fun z => by rw [z, hq] at e; cases e)⟩) (li_cp (by omega)) (by decide) (by decide +kernel) ?_
  rw [fw_uu]
  refine fr_aload_n (pc := 38) d_AS_copyOf2_38 rfl rfl ?_
  exact fr_aret rfl (by first | exact Or.inl ⟨_, rfl⟩ | exact Or.inr ⟨_, rfl⟩) (by first | exact Or.inl rfl | exact Or.inr ⟨_, rfl⟩) d_AS_copyOf2_39 ⟨q, hq, rfl, rfl⟩
theorem c_AS_cp1 {g : fw_G} {w : fw_W} {d : Nat} {ts : List Nat} (h1 : w d = some (li_o g 10 (li_f ts))) (h2 : ts.length = 10) (h3 : ∀ y ∈ ts, ∃ fs, w y = some (.inr (3, fs))) : fw_R g m_AS_copyOf1 (fun r u => ∃ q, w q = none ∧ r = .inl (some (.ref q)) ∧ u = fw_up w q (li_o g 15 (li_f ts))) 1 15 w 0 [(0, .ref d), (1, .int (nI 15))] [] := by
  refine fr_aload_n (pc := 0) d_AS_copyOf1_0 rfl rfl ?_
  refine fr_iload_n (pc := 1) d_AS_copyOf1_1 rfl rfl ?_
  refine fr_aload_n (pc := 2) d_AS_copyOf1_2 rfl rfl ?_
  refine fr_getC (pc := 3) (n := 10) d_AS_copyOf1_3 (fw_t 438 (by decide +kernel)) (fw_t 879 (by decide +kernel)) (fw_t 878 (by decide +kernel)) (fw_t 439 (by decide +kernel)) (fw_t 450 (by decide +kernel)) h1 (by decide) (Nat.le_of_ble_eq_true rfl) ?_
  refine fr_calls (pc := 6) (nc := 0) (ns := 0) (N := m_AS_copyOf2) (rest := []) (as := [.ref d, .int (nI 15), .ref (fw_mi g)]) d_AS_copyOf1_6 k_AS_copyOf2 lk_AS_300 sc_AS_copyOf2 np_AS_copyOf2 ⟨by decide, by decide, Nat.le_of_ble_eq_true rfl⟩ (Nat.le_of_ble_eq_true rfl) (c_AS_cp2 h1 h2 h3) (fun v w1 hp => ?_) (fun C w1 hp => ?_) rfl
  · obtain ⟨q, hq, e1, e2⟩ := hp
    cases e1
    subst e2
    exact fr_aret rfl (by first | exact Or.inl ⟨_, rfl⟩ | exact Or.inr ⟨_, rfl⟩) (by first | exact Or.inl rfl | exact Or.inr ⟨_, rfl⟩) d_AS_copyOf1_9 ⟨q, hq, rfl, rfl⟩
  · obtain ⟨q, hq, e1, e2⟩ := hp
    cases e1
theorem c_AL_grow2_A {g : fw_G} {w : fw_W} {a : Nat} {mc : Int32} {ts : List Nat} (h1 : w a = some (.inr (4, [.int mc, .ref (fw_df g), .int (nI ts.length)]))) (h2 : ts = []) : fw_R g m_AL_grow2 (fun r u => ∃ q cp, w q = none ∧ r = .inl (some (.ref q)) ∧ u = fw_up (fw_up w q (li_o g cp (li_f ts))) a (.inr (4, [.int mc, .ref q, .int (nI ts.length)])) ∧ ts.length < cp ∧ (cp = 10 ∨ cp = 15)) 2 25 w 0 [(0, .ref a), (1, .int (nI (ts.length + 1)))] [] := by
  subst h2
  refine fr_aload_n (pc := 0) d_AL_grow2_0 rfl rfl ?_
  refine fr_get (pc := 1) (v := .ref (fw_df g)) d_AL_grow2_1 fg_AL_9 h1 rfl ?_
  refine fr_alenD (pc := 4) d_AL_grow2_4 ?_
  refine fr_istore_n (pc := 5) (L2 := [(0, .ref a), (1, .int (nI (([] : List Nat).length + 1))), (2, .int 0)]) d_AL_grow2_5 rfl (by decide) rfl ?_
  refine fr_iload_n (pc := 6) d_AL_grow2_6 rfl rfl ?_
  refine fr_if_gt (pc := 7) (tgt := 20) d_AL_grow2_7 (by decide) (fun b => absurd b (by decide)) (fun _ => ?_)
  refine fr_aload_n (pc := 10) d_AL_grow2_10 rfl rfl ?_
  refine fr_get (pc := 11) (v := .ref (fw_df g)) d_AL_grow2_11 fg_AL_9 h1 rfl ?_
  refine fr_dflt (pc := 14) d_AL_grow2_14 (fw_t 74 (by decide +kernel)) ?_
  refine fr_acmp_eq (pc := 17) (tgt := 45) (ry := some (fw_df g)) (rx := some (fw_df g)) d_AL_grow2_17 (by decide) (fun _ => ?_) (fun b => absurd rfl b)
  refine fr_aload_n (pc := 45) d_AL_grow2_45 rfl rfl ?_
  refine fr_bipush (pc := 46) (v := 10) d_AL_grow2_46 (by decide) ?_
  refine fr_iload_n (pc := 48) d_AL_grow2_48 rfl rfl ?_
  refine fr_st (st2 := [.int (nI 1), .int (nI 10), .ref a]) rfl ?_
  refine fr_calls_p (pc := 49) (nc := 2) (ns := 25) (N := m_MA_max) (rest := [.ref a]) (as := [.int (nI 10), .int (nI 1)]) (v := .int (nI 10)) d_AL_grow2_49 k_MA_max lk_AL_79 sc_MA_max np_MA_max ⟨by decide, by decide, Nat.le_of_ble_eq_true rfl⟩ (Nat.le_of_ble_eq_true rfl) (c_MA_max (i := 10) (j := 1) (by decide) (by decide)) rfl ?_
  refine fr_nc (nc2 := 0 + 1) (ns2 := 0 + 10) (by decide) (by decide) ?_
  refine fr_newq (pc := 52) (nc := 0) (ns := 0) (N := 10) (t := 4) (C := "java/lang/Object") d_AL_grow2_52 (fw_t 464 (by decide +kernel)) (fw_t 455 (by decide +kernel)) rfl (by decide) (by decide) (by decide) (fun q hq => ?_)
  have haq : a ≠ q := fun e => by rw [e, hq] at h1; cases h1
  refine fr_dup_x1 (pc := 55) d_AL_grow2_55 rfl rfl ?_
  refine fr_put (pc := 56) (fs2 := [.int mc, .ref q, .int (nI ([] : List Nat).length)]) d_AL_grow2_56 fp_AL_grow2_9 (fw_up_at h1 haq) (Nat.le_of_ble_eq_true rfl) rfl rfl rfl ?_
  exact fr_aret rfl (by first | exact Or.inl ⟨_, rfl⟩ | exact Or.inr ⟨_, rfl⟩) (by first | exact Or.inl rfl | exact Or.inr ⟨_, rfl⟩) d_AL_grow2_59 ⟨q, 10, hq, rfl, rfl, by decide, Or.inl rfl⟩
theorem c_AL_grow2_B {g : fw_G} {w : fw_W} {a d : Nat} {mc : Int32} {ts : List Nat} (h1 : w a = some (.inr (4, [.int mc, .ref d, .int (nI ts.length)]))) (h2 : w d = some (li_o g 10 (li_f ts))) (h3 : ts.length = 10) (h4 : ∀ y ∈ ts, ∃ fs, w y = some (.inr (3, fs))) : fw_R g m_AL_grow2 (fun r u => ∃ q cp, w q = none ∧ r = .inl (some (.ref q)) ∧ u = fw_up (fw_up w q (li_o g cp (li_f ts))) a (.inr (4, [.int mc, .ref q, .int (nI ts.length)])) ∧ ts.length < cp ∧ (cp = 10 ∨ cp = 15)) 2 25 w 0 [(0, .ref a), (1, .int (nI (ts.length + 1)))] [] := by
  refine fr_aload_n (pc := 0) d_AL_grow2_0 rfl rfl ?_
  refine fr_get (pc := 1) (v := .ref d) d_AL_grow2_1 fg_AL_9 h1 rfl ?_
  refine fr_alen (pc := 4) (t := 4) (ty := .object "java/lang/Object") (v := nI 10) d_AL_grow2_4 rfl h2 rfl ?_
  refine fr_istore_n (pc := 5) (L2 := [(0, .ref a), (1, .int (nI (ts.length + 1))), (2, .int (nI 10))]) d_AL_grow2_5 rfl (by decide) rfl ?_
  refine fr_iload_n (pc := 6) d_AL_grow2_6 rfl rfl ?_
  refine fr_if_gt (pc := 7) (tgt := 20) d_AL_grow2_7 (by decide) (fun _ => ?_) (fun b => absurd (by decide) b)
  refine fr_iload_n (pc := 20) d_AL_grow2_20 rfl rfl ?_
  refine fr_iload_n (pc := 21) d_AL_grow2_21 rfl rfl ?_
  refine fr_iload_n (pc := 22) d_AL_grow2_22 rfl rfl ?_
  refine fr_isub (pc := 23) d_AL_grow2_23 ?_
  refine fr_iload_n (pc := 24) d_AL_grow2_24 rfl rfl ?_
  refine fr_iconst (pc := 25) (v := 1) d_AL_grow2_25 (by decide) ?_
  refine fr_ishr (pc := 26) d_AL_grow2_26 ?_
  refine fr_st (st2 := [.int (nI 5), .int (nI 1), .int (nI 10)]) (by rw [h3]; rfl) ?_
  refine fr_calls_p (pc := 27) (nc := 2) (ns := 25) (N := m_AP_newLength) (rest := []) (as := [.int (nI 10), .int (nI 1), .int (nI 5)]) (v := .int (nI 15)) d_AL_grow2_27 k_AP_newLength lk_AL_73 sc_AP_newLength np_AP_newLength ⟨by decide, by decide, Nat.le_of_ble_eq_true rfl⟩ (Nat.le_of_ble_eq_true rfl) c_AP_newLen rfl ?_
  refine fr_istore_n (pc := 30) (L2 := [(0, .ref a), (1, .int (nI (ts.length + 1))), (2, .int (nI 10)), (3, .int (nI 15))]) d_AL_grow2_30 rfl (by decide) rfl ?_
  refine fr_aload_n (pc := 31) d_AL_grow2_31 rfl rfl ?_
  refine fr_aload_n (pc := 32) d_AL_grow2_32 rfl rfl ?_
  refine fr_get (pc := 33) (v := .ref d) d_AL_grow2_33 fg_AL_9 h1 rfl ?_
  refine fr_iload_n (pc := 36) d_AL_grow2_36 rfl rfl ?_
  refine fr_nc (nc2 := 0 + 1) (ns2 := 0 + 15) (by decide) (by decide) ?_
  refine fr_calls (pc := 37) (nc := 0) (ns := 0) (N := m_AS_copyOf1) (rest := [.ref a]) (as := [.ref d, .int (nI 15)]) d_AL_grow2_37 k_AS_copyOf1 lk_AL_66 sc_AS_copyOf1 np_AS_copyOf1 ⟨by decide, by decide, Nat.le_of_ble_eq_true rfl⟩ (Nat.le_of_ble_eq_true rfl) (c_AS_cp1 h2 h3 h4) (fun v w1 hp => ?_) (fun C w1 hp => ?_) rfl
  · obtain ⟨q, hq, e1, e2⟩ := hp
    cases e1
    subst e2
    refine fr_st (st2 := [.ref q, .ref a]) rfl ?_
    have haq : a ≠ q := fun e => by rw [e, hq] at h1; cases h1
    refine fr_dup_x1 (pc := 40) d_AL_grow2_40 rfl rfl ?_
    refine fr_put (pc := 41) (fs2 := [.int mc, .ref q, .int (nI ts.length)]) d_AL_grow2_41 fp_AL_grow2_9 (fw_up_at h1 haq) (Nat.le_of_ble_eq_true rfl) rfl rfl rfl ?_
    exact fr_aret rfl (by first | exact Or.inl ⟨_, rfl⟩ | exact Or.inr ⟨_, rfl⟩) (by first | exact Or.inl rfl | exact Or.inr ⟨_, rfl⟩) d_AL_grow2_44 ⟨q, 15, hq, rfl, rfl, by omega, Or.inr rfl⟩
  · obtain ⟨q, hq, e1, e2⟩ := hp
    cases e1
theorem c_AL_grow1 {g : fw_G} {w : fw_W} {a : Nat} {mc : Int32} {d : Nat} {ts : List Nat} (h1 : w a = some (.inr (4, [.int mc, .ref d, .int (nI ts.length)]))) (h2 : (d = fw_df g ∧ ts = []) ∨ (w d = some (li_o g 10 (li_f ts)) ∧ ts.length = 10)) (h4 : ∀ y ∈ ts, ∃ fs, w y = some (.inr (3, fs))) : fw_R g m_AL_grow1 (fun r u => ∃ q cp, w q = none ∧ r = .inl (some (.ref q)) ∧ u = fw_up (fw_up w q (li_o g cp (li_f ts))) a (.inr (4, [.int mc, .ref q, .int (nI ts.length)])) ∧ ts.length < cp ∧ (cp = 10 ∨ cp = 15)) 2 25 w 0 [(0, .ref a)] [] := by
  have hN : fw_R g m_AL_grow2 (fun r u => ∃ q cp, w q = none ∧ r = .inl (some (.ref q)) ∧ u = fw_up (fw_up w q (li_o g cp (li_f ts))) a (.inr (4, [.int mc, .ref q, .int (nI ts.length)])) ∧ ts.length < cp ∧ (cp = 10 ∨ cp = 15)) 2 25 w 0 [(0, .ref a), (1, .int (nI (ts.length + 1)))] [] := by
    rcases h2 with ⟨e1, e2⟩ | ⟨e1, e2⟩
    · subst e1; exact c_AL_grow2_A h1 e2
    · exact c_AL_grow2_B h1 e1 e2 h4
  refine fr_aload_n (pc := 0) d_AL_grow1_0 rfl rfl ?_
  refine fr_aload_n (pc := 1) d_AL_grow1_1 rfl rfl ?_
  refine fr_get (pc := 2) (v := .int (nI ts.length)) d_AL_grow1_2 fg_AL_48 h1 rfl ?_
  refine fr_iconst (pc := 5) (v := 1) d_AL_grow1_5 (by decide) ?_
  refine fr_iadd (pc := 6) d_AL_grow1_6 ?_
  refine fr_st (st2 := [.int (nI (ts.length + 1)), .ref a]) (by rw [nI_succ]) ?_
  refine fr_callV (pc := 7) (nc := 0) (ns := 0) (N := m_AL_grow2) (rest := []) (as := [.int (nI (ts.length + 1))]) d_AL_grow1_7 vc_AL_69 ⟨by decide, by decide, Nat.le_of_ble_eq_true rfl⟩ (Nat.le_of_ble_eq_true rfl) h1 hN rfl (fun v w1 hp => ?_) (fun C w1 hp => ?_)
  · obtain ⟨q, cp, hq, e1, e2, e3⟩ := hp
    cases e1
    subst e2
    exact fr_aret rfl (by first | exact Or.inl ⟨_, rfl⟩ | exact Or.inr ⟨_, rfl⟩) (by first | exact Or.inl rfl | exact Or.inr ⟨_, rfl⟩) d_AL_grow1_10 ⟨q, cp, hq, rfl, rfl, e3⟩
  · obtain ⟨q, cp, hq, e1, e2, e3⟩ := hp
    cases e1

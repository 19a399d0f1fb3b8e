abbrev m_ND_init : fw_M := (⟨"FolderRights$Node", "<init>", "(ILFolderRights$Node;ZI)V"⟩, prog_4_method_1_code, 5, none, { frames := 4, cells := 1, slots := 3, locals := 80 }, [])
theorem d_ND_init_0 : decode m_ND_init.2.1 0 = .ok (.aload_n 0, 1) := by decide +kernel
theorem d_ND_init_1 : decode m_ND_init.2.1 1 = .ok (.invokespecial 1, 3) := by decide +kernel
theorem d_ND_init_4 : decode m_ND_init.2.1 4 = .ok (.aload_n 0, 1) := by decide +kernel
theorem d_ND_init_5 : decode m_ND_init.2.1 5 = .ok (.iload_n 1, 1) := by decide +kernel
theorem d_ND_init_6 : decode m_ND_init.2.1 6 = .ok (.putfield 7, 3) := by decide +kernel
theorem d_ND_init_9 : decode m_ND_init.2.1 9 = .ok (.aload_n 0, 1) := by decide +kernel
theorem d_ND_init_10 : decode m_ND_init.2.1 10 = .ok (.aload_n 2, 1) := by decide +kernel
theorem d_ND_init_11 : decode m_ND_init.2.1 11 = .ok (.putfield 13, 3) := by decide +kernel
theorem d_ND_init_14 : decode m_ND_init.2.1 14 = .ok (.aload_n 0, 1) := by decide +kernel
theorem d_ND_init_15 : decode m_ND_init.2.1 15 = .ok (.iload_n 3, 1) := by decide +kernel
theorem d_ND_init_16 : decode m_ND_init.2.1 16 = .ok (.putfield 17, 3) := by decide +kernel
theorem d_ND_init_19 : decode m_ND_init.2.1 19 = .ok (.aload_n 0, 1) := by decide +kernel
theorem d_ND_init_20 : decode m_ND_init.2.1 20 = .ok (.iload 4, 2) := by decide +kernel
theorem d_ND_init_22 : decode m_ND_init.2.1 22 = .ok (.putfield 21, 3) := by decide +kernel
theorem d_ND_init_25 : decode m_ND_init.2.1 25 = .ok (.aload_n 0, 1) := by decide +kernel
theorem d_ND_init_26 : decode m_ND_init.2.1 26 = .ok (.new 24, 3) := by decide +kernel
theorem d_ND_init_29 : decode m_ND_init.2.1 29 = .ok (.dup, 1) := by decide +kernel
theorem d_ND_init_30 : decode m_ND_init.2.1 30 = .ok (.invokespecial 26, 3) := by decide +kernel
theorem d_ND_init_33 : decode m_ND_init.2.1 33 = .ok (.putfield 27, 3) := by decide +kernel
theorem d_ND_init_36 : decode m_ND_init.2.1 36 = .ok (.aload_n 0, 1) := by decide +kernel
theorem d_ND_init_37 : decode m_ND_init.2.1 37 = .ok (.iconst 1, 1) := by decide +kernel
theorem d_ND_init_38 : decode m_ND_init.2.1 38 = .ok (.putfield 31, 3) := by decide +kernel
theorem d_ND_init_41 : decode m_ND_init.2.1 41 = .ok (.return_, 1) := by decide +kernel
theorem k_ND_init : fw_cal m_ND_init := ⟨by decide +kernel, by decide +kernel, (fw_t 3 (by decide +kernel)), Or.inl ⟨rfl, fw_t 60 (by decide +kernel)⟩⟩
abbrev m_FR_init : fw_M := (⟨"FolderRights", "<init>", "()V"⟩, prog_1_method_1_code, 1, none, { frames := 5, cells := 8, slots := 261, locals := 104 }, [])
theorem d_FR_init_0 : decode m_FR_init.2.1 0 = .ok (.aload_n 0, 1) := by decide +kernel
theorem d_FR_init_1 : decode m_FR_init.2.1 1 = .ok (.invokespecial 1, 3) := by decide +kernel
theorem d_FR_init_4 : decode m_FR_init.2.1 4 = .ok (.aload_n 0, 1) := by decide +kernel
theorem d_FR_init_5 : decode m_FR_init.2.1 5 = .ok (.new 7, 3) := by decide +kernel
theorem d_FR_init_8 : decode m_FR_init.2.1 8 = .ok (.dup, 1) := by decide +kernel
theorem d_FR_init_9 : decode m_FR_init.2.1 9 = .ok (.invokespecial 9, 3) := by decide +kernel
theorem d_FR_init_12 : decode m_FR_init.2.1 12 = .ok (.putfield 10, 3) := by decide +kernel
theorem d_FR_init_15 : decode m_FR_init.2.1 15 = .ok (.aload_n 0, 1) := by decide +kernel
theorem d_FR_init_16 : decode m_FR_init.2.1 16 = .ok (.sipush 150, 3) := by decide +kernel
theorem d_FR_init_19 : decode m_FR_init.2.1 19 = .ok (.anewarray 16, 3) := by decide +kernel
theorem d_FR_init_22 : decode m_FR_init.2.1 22 = .ok (.putfield 18, 3) := by decide +kernel
theorem d_FR_init_25 : decode m_FR_init.2.1 25 = .ok (.aload_n 0, 1) := by decide +kernel
theorem d_FR_init_26 : decode m_FR_init.2.1 26 = .ok (.getfield 18, 3) := by decide +kernel
theorem d_FR_init_29 : decode m_FR_init.2.1 29 = .ok (.iconst 0, 1) := by decide +kernel
theorem d_FR_init_30 : decode m_FR_init.2.1 30 = .ok (.new 16, 3) := by decide +kernel
theorem d_FR_init_33 : decode m_FR_init.2.1 33 = .ok (.dup, 1) := by decide +kernel
theorem d_FR_init_34 : decode m_FR_init.2.1 34 = .ok (.iconst 0, 1) := by decide +kernel
theorem d_FR_init_35 : decode m_FR_init.2.1 35 = .ok (.aconst_null, 1) := by decide +kernel
theorem d_FR_init_36 : decode m_FR_init.2.1 36 = .ok (.iconst 1, 1) := by decide +kernel
theorem d_FR_init_37 : decode m_FR_init.2.1 37 = .ok (.iconst 0, 1) := by decide +kernel
theorem d_FR_init_38 : decode m_FR_init.2.1 38 = .ok (.invokespecial 22, 3) := by decide +kernel
theorem d_FR_init_41 : decode m_FR_init.2.1 41 = .ok (.aastore, 1) := by decide +kernel
theorem d_FR_init_42 : decode m_FR_init.2.1 42 = .ok (.aload_n 0, 1) := by decide +kernel
theorem d_FR_init_43 : decode m_FR_init.2.1 43 = .ok (.iconst 1, 1) := by decide +kernel
theorem d_FR_init_44 : decode m_FR_init.2.1 44 = .ok (.putfield 25, 3) := by decide +kernel
theorem d_FR_init_47 : decode m_FR_init.2.1 47 = .ok (.return_, 1) := by decide +kernel
theorem k_FR_init : fw_cal m_FR_init := ⟨by decide +kernel, by decide +kernel, (fw_t 1 (by decide +kernel)), Or.inl ⟨rfl, fw_t 26 (by decide +kernel)⟩⟩
theorem fp_BL_init_7 : fw_fpt m_BL_init 7 4 0 .int := ⟨_, _, _, "java/util/AbstractList", rfl, by decide, fw_i4, Or.inl rfl, ⟨fw_y4, fw_k4⟩, fw_n4, by decide +kernel, Or.inl ⟨rfl, Or.inl (fw_t 78 (by decide +kernel))⟩⟩
theorem fp_ND_init_7 : fw_fpt m_ND_init 7 2 0 .int := ⟨_, _, _, "FolderRights$Node", rfl, by decide, fw_i2, Or.inl rfl, ⟨fw_y2, fw_k2⟩, fw_n2, by decide +kernel, Or.inr ⟨rfl, rfl, rfl, (fw_t 88 (by decide +kernel))⟩⟩
theorem fp_ND_init_13 : fw_fpt m_ND_init 13 2 3 (.object "FolderRights$Node") := ⟨_, _, _, "FolderRights$Node", rfl, by decide, fw_i2, Or.inl rfl, ⟨fw_y2, fw_k2⟩, fw_n2, by decide +kernel, Or.inl ⟨rfl, Or.inl (fw_t 95 (by decide +kernel))⟩⟩
theorem fp_ND_init_17 : fw_fpt m_ND_init 17 2 1 .boolean := ⟨_, _, _, "FolderRights$Node", rfl, by decide, fw_i2, Or.inl rfl, ⟨fw_y2, fw_k2⟩, fw_n2, by decide +kernel, Or.inr ⟨rfl, rfl, rfl, (fw_t 90 (by decide +kernel))⟩⟩
theorem fp_ND_init_21 : fw_fpt m_ND_init 21 2 4 .int := ⟨_, _, _, "FolderRights$Node", rfl, by decide, fw_i2, Or.inl rfl, ⟨fw_y2, fw_k2⟩, fw_n2, by decide +kernel, Or.inl ⟨rfl, Or.inl (fw_t 98 (by decide +kernel))⟩⟩
theorem lk_ND_26 : fw_lk "FolderRights$Node" 26 ⟨"java/util/ArrayList", "<init>", "()V"⟩ := Or.inl (fw_t 64 (by decide +kernel))
theorem np_AL_init : fw_np ⟨"java/util/ArrayList", "<init>", "()V"⟩ 0 := by unfold fw_np; decide +kernel
theorem im_AL_init : Cond.instanceMethod ⟨"java/util/ArrayList", "<init>", "()V"⟩ ∈ lw_tbl := (fw_t 65 (by decide +kernel))
theorem fp_ND_init_27 : fw_fpt m_ND_init 27 2 2 (.object "java/util/ArrayList") := ⟨_, _, _, "FolderRights$Node", rfl, by decide, fw_i2, Or.inl rfl, ⟨fw_y2, fw_k2⟩, fw_n2, by decide +kernel, Or.inr ⟨rfl, rfl, rfl, (fw_t 93 (by decide +kernel))⟩⟩
theorem fp_ND_init_31 : fw_fpt m_ND_init 31 2 6 .boolean := ⟨_, _, _, "FolderRights$Node", rfl, by decide, fw_i2, Or.inl rfl, ⟨fw_y2, fw_k2⟩, fw_n2, by decide +kernel, Or.inl ⟨rfl, Or.inl (fw_t 102 (by decide +kernel))⟩⟩
theorem lk_FR_9 : fw_lk "FolderRights" 9 ⟨"FolderRights$Groups", "<init>", "()V"⟩ := Or.inl (fw_t 32 (by decide +kernel))
theorem np_GR_init : fw_np ⟨"FolderRights$Groups", "<init>", "()V"⟩ 0 := by unfold fw_np; decide +kernel
theorem im_GR_init : Cond.instanceMethod ⟨"FolderRights$Groups", "<init>", "()V"⟩ ∈ lw_tbl := (fw_t 33 (by decide +kernel))
theorem fp_FR_init_10 : fw_fpt m_FR_init 10 0 0 (.object "FolderRights$Groups") := ⟨_, _, _, "FolderRights", rfl, by decide, fw_i0, Or.inl rfl, ⟨fw_y0, fw_k0⟩, fw_n0, by decide +kernel, Or.inr ⟨rfl, rfl, rfl, (fw_t 119 (by decide +kernel))⟩⟩
theorem fp_FR_init_18 : fw_fpt m_FR_init 18 0 1 (.array (.object "FolderRights$Node")) := ⟨_, _, _, "FolderRights", rfl, by decide, fw_i0, Or.inl rfl, ⟨fw_y0, fw_k0⟩, fw_n0, by decide +kernel, Or.inr ⟨rfl, rfl, rfl, (fw_t 120 (by decide +kernel))⟩⟩
theorem fg_FR_18 : fw_fld "FolderRights" 18 0 1 := ⟨_, _, _, "FolderRights", rfl, by decide, fw_i0, Or.inl rfl, Or.inl (fw_t 120 (by decide +kernel))⟩
theorem lk_FR_22 : fw_lk "FolderRights" 22 ⟨"FolderRights$Node", "<init>", "(ILFolderRights$Node;ZI)V"⟩ := Or.inl (fw_t 58 (by decide +kernel))
theorem np_ND_init : fw_np ⟨"FolderRights$Node", "<init>", "(ILFolderRights$Node;ZI)V"⟩ 4 := by unfold fw_np; decide +kernel
theorem im_ND_init : Cond.instanceMethod ⟨"FolderRights$Node", "<init>", "(ILFolderRights$Node;ZI)V"⟩ ∈ lw_tbl := (fw_t 59 (by decide +kernel))
theorem fp_FR_init_25 : fw_fpt m_FR_init 25 0 2 .int := ⟨_, _, _, "FolderRights", rfl, by decide, fw_i0, Or.inl rfl, ⟨fw_y0, fw_k0⟩, fw_n0, by decide +kernel, Or.inl ⟨rfl, Or.inl (fw_t 121 (by decide +kernel))⟩⟩
theorem fr_calli_n {g : fw_G} {M N : fw_M} {Post : fw_O → fw_W → Prop} {nc ns : Nat} {w w2 : fw_W} {pc : Nat} {L : List (Nat × Value)} {rest : List Value} {idx a : Nat} {as : List Value} (hd : decode M.2.1 pc = .ok (.invokespecial idx, 3)) (hcal : fw_cal N) (hini : N.1.name = "<init>") (hh : N.2.2.2.2.2 = []) (hret : N.2.2.2.1 = none) (hcode : Cond.code N.1 N.2.1 N.2.2.1 N.2.2.2.1 ∈ lw_tbl) (hlk : fw_lk M.1.cls idx N.1) (hin : Cond.instanceMethod N.1 ∈ lw_tbl) (hnp : fw_np N.1 as.length) (hrm : fw_rm M N (.ref a :: as)) (hrest : (rest.map fun v => v.category).sum ≤ 8)
    (hN : fw_R g N (fw_pn w2) N.2.2.2.2.1.cells N.2.2.2.2.1.slots w 0 (lv_args 0 (.ref a :: as)) []) {st : List Value} (he : st = as.reverse ++ .ref a :: rest) (kk : fw_R g M Post nc ns w2 (pc + 3) L rest) : fw_R g M Post (nc + N.2.2.2.2.1.cells) (ns + N.2.2.2.2.1.slots) w pc L st :=
  fr_calli hd hcal hini hh hret hcode hlk hin hnp hrm hrest hN (fun v1 w1 h => by obtain ⟨h1, h2⟩ := h; cases h1; subst h2; exact kk) (fun C w1 h => by obtain ⟨h1, -⟩ := h; cases h1) he
theorem c_BC_init {g : fw_G} {nc ns : Nat} {w : fw_W} {a : Nat} : fw_R g m_BC_init (fw_pn w) nc ns w 0 [(0, .ref a)] [] := by
  refine fr_aload_n (pc := 0) d_BC_init_0 rfl rfl ?_
  refine fr_objInit (pc := 1) d_BC_init_1 (fw_t 73 (by decide +kernel)) (fw_t 28 (by decide +kernel)) (fw_t 29 (by decide +kernel)) (by decide) (Nat.le_of_ble_eq_true rfl) ?_
  exact fr_vret rfl d_BC_init_4 ⟨rfl, rfl⟩
theorem c_BL_init {g : fw_G} {nc ns : Nat} {w : fw_W} {a : Nat} (h : w a = some (.inr (4, [.int 0, .null, .int 0]))) : fw_R g m_BL_init (fw_pn w) nc ns w 0 [(0, .ref a)] [] := by
  refine fr_aload_n (pc := 0) d_BL_init_0 rfl rfl ?_
  refine fr_calli_n (pc := 1) (nc := nc) (ns := ns) (N := m_BC_init) (rest := []) (as := []) d_BL_init_1 k_BC_init rfl rfl rfl (fw_t 72 (by decide +kernel)) lk_BL_1 im_BC_init np_BC_init ⟨by decide, by decide, Nat.le_of_ble_eq_true rfl⟩ (Nat.le_of_ble_eq_true rfl) c_BC_init rfl ?_
  refine fr_aload_n (pc := 4) d_BL_init_4 rfl rfl ?_
  refine fr_iconst (pc := 5) (v := 0) d_BL_init_5 (by decide) ?_
  refine fr_put (pc := 6) (fs2 := [.int 0, .null, .int 0]) d_BL_init_6 fp_BL_init_7 h (Nat.le_of_ble_eq_true rfl) rfl rfl rfl ?_
  rw [fw_up_id h]
  exact fr_vret rfl d_BL_init_9 ⟨rfl, rfl⟩
theorem c_AL_init {g : fw_G} {nc ns : Nat} {w : fw_W} {a : Nat} (h : w a = some (.inr (4, [.int 0, .null, .int 0]))) : fw_R g m_AL_init (fw_pn (fw_up w a (.inr (4, [.int 0, .ref (fw_df g), .int 0])))) nc ns w 0 [(0, .ref a)] [] := by
  refine fr_aload_n (pc := 0) d_AL_init_0 rfl rfl ?_
  refine fr_calli_n (pc := 1) (nc := nc) (ns := ns) (N := m_BL_init) (rest := []) (as := []) d_AL_init_1 k_BL_init rfl rfl rfl (fw_t 69 (by decide +kernel)) lk_AL_1 im_BL_init np_BL_init ⟨by decide, by decide, Nat.le_of_ble_eq_true rfl⟩ (Nat.le_of_ble_eq_true rfl) (c_BL_init h) rfl ?_
  refine fr_aload_n (pc := 4) d_AL_init_4 rfl rfl ?_
  refine fr_dflt (pc := 5) d_AL_init_5 (fw_t 74 (by decide +kernel)) ?_
  refine fr_put (pc := 8) (fs2 := [.int 0, .ref (fw_df g), .int 0]) d_AL_init_8 fp_AL_init_9 h (Nat.le_of_ble_eq_true rfl) rfl rfl rfl ?_
  exact fr_vret rfl d_AL_init_11 ⟨rfl, rfl⟩
theorem nw_AL_ND : fw_nw "FolderRights$Node" 24 4 3 [.int 0, .null, .int 0] := ⟨"java/util/ArrayList", fw_T4, rfl, fw_i4, (fw_t 62 (by decide +kernel)), (fw_t 63 (by decide +kernel)), (fw_t 6 (by decide +kernel)), fw_y4, fw_k4, by decide⟩
theorem nw_GR_FR : fw_nw "FolderRights" 7 1 5 [.int 0, .null, .null, .null, .null] := ⟨"FolderRights$Groups", fw_T1, rfl, fw_i1, (fw_t 30 (by decide +kernel)), (fw_t 31 (by decide +kernel)), (fw_t 2 (by decide +kernel)), fw_y1, fw_k1, by decide⟩
theorem nw_ND_FR : fw_nw "FolderRights" 16 2 7 [.int 0, .int 0, .null, .null, .int 0, .int 0, .int 0] := ⟨"FolderRights$Node", fw_T2, rfl, fw_i2, (fw_t 55 (by decide +kernel)), (fw_t 57 (by decide +kernel)), (fw_t 3 (by decide +kernel)), fw_y2, fw_k2, by decide⟩
theorem fw_ue {w : fw_W} {a b : Nat} {x y z : va_E} (h : a ≠ b) : fw_up (fw_up (fw_up w a x) b y) a z = fw_up (fw_up w a z) b y := by
  funext c
  by_cases h2 : c = b
  · subst h2; rw [fw_up_ne (Ne.symm h), fw_up_self, fw_up_self]
  · by_cases h1 : c = a
    · subst h1; rw [fw_up_self, fw_up_ne h2, fw_up_self]
    · rw [fw_up_ne h1, fw_up_ne h2, fw_up_ne h1, fw_up_ne h2, fw_up_ne h1]
theorem c_ND_init {g : fw_G} {w : fw_W} {a n ow : Nat} {pr : Option Nat} {fo : Bool} (h : w a = some (.inr (2, [.int 0, .int 0, .null, .null, .int 0, .int 0, .int 0]))) : fw_R g m_ND_init (fun r u => r = .inl none ∧ ∃ q, w q = none ∧ q ≠ a ∧ u = fw_up (fw_up w a (.inr (2, [.int (nI n), .int (bI fo), .ref q, va_rf pr, .int (nI ow), .int (bI false), .int (bI true)]))) q (.inr (4, [.int 0, .ref (fw_df g), .int 0]))) 1 3 w 0 [(0, .ref a), (1, .int (nI n)), (2, va_rf pr), (3, .int (bI fo)), (4, .int (nI ow))] [] := by
  have key : ∀ v : Value, v = .null ∨ (∃ x, v = .ref x) → fw_R g m_ND_init (fun r u => r = .inl none ∧ ∃ q, w q = none ∧ q ≠ a ∧ u = fw_up (fw_up w a (.inr (2, [.int (nI n), .int (bI fo), .ref q, v, .int (nI ow), .int (bI false), .int (bI true)]))) q (.inr (4, [.int 0, .ref (fw_df g), .int 0]))) 1 3 w 0 [(0, .ref a), (1, .int (nI n)), (2, v), (3, .int (bI fo)), (4, .int (nI ow))] [] := by
    intro v hv
    rcases hv with rfl | ⟨x, rfl⟩
    · refine fr_aload_n (pc := 0) d_ND_init_0 rfl rfl ?_
      refine fr_objInit (pc := 1) d_ND_init_1 (fw_t 61 (by decide +kernel)) (fw_t 28 (by decide +kernel)) (fw_t 29 (by decide +kernel)) (by decide) (Nat.le_of_ble_eq_true rfl) ?_
      refine fr_aload_n (pc := 4) d_ND_init_4 rfl rfl ?_
      refine fr_iload_n (pc := 5) d_ND_init_5 rfl rfl ?_
      refine fr_put (pc := 6) (fs2 := [.int (nI n), .int 0, .null, .null, .int 0, .int 0, .int 0]) d_ND_init_6 fp_ND_init_7 h (Nat.le_of_ble_eq_true rfl) rfl rfl rfl ?_
      refine fr_aload_n (pc := 9) d_ND_init_9 rfl rfl ?_
      refine fr_aload_nN (pc := 10) d_ND_init_10 rfl rfl ?_
      refine fr_put (pc := 11) (fs2 := [.int (nI n), .int 0, .null, .null, .int 0, .int 0, .int 0]) d_ND_init_11 fp_ND_init_13 fw_up_self (Nat.le_of_ble_eq_true rfl) rfl rfl rfl ?_
      refine fr_aload_n (pc := 14) d_ND_init_14 rfl rfl ?_
      refine fr_iload_n (pc := 15) d_ND_init_15 rfl rfl ?_
      refine fr_put (pc := 16) (fs2 := [.int (nI n), .int (bI fo), .null, .null, .int 0, .int 0, .int 0]) d_ND_init_16 fp_ND_init_17 fw_up_self (Nat.le_of_ble_eq_true rfl) (bI_nar _) (bI_fit _) rfl ?_
      refine fr_aload_n (pc := 19) d_ND_init_19 rfl rfl ?_
      refine fr_iload (pc := 20) d_ND_init_20 rfl ?_
      refine fr_put (pc := 22) (fs2 := [.int (nI n), .int (bI fo), .null, .null, .int (nI ow), .int 0, .int 0]) d_ND_init_22 fp_ND_init_21 fw_up_self (Nat.le_of_ble_eq_true rfl) rfl rfl rfl ?_
      rw [fw_uu, fw_uu, fw_uu]
      refine fr_aload_n (pc := 25) d_ND_init_25 rfl rfl ?_
      refine fr_new (pc := 26) (nc := 0) (ns := 0) (ci := 4) (N := 3) (fs := [.int 0, .null, .int 0]) d_ND_init_26 nw_AL_ND (fun q hq => ?_)
      have hqa : q ≠ a := fun z => by rw [z, fw_up_self] at hq; cases hq
      have hq0 : w q = none := (fw_up_ne hqa).symm.trans hq
      refine fr_dup (pc := 29) d_ND_init_29 rfl ?_
      refine fr_calli_n (pc := 30) (nc := 0) (ns := 0) (N := m_AL_init) (rest := [.ref q, .ref a]) (as := []) d_ND_init_30 k_AL_init rfl rfl rfl (fw_t 66 (by decide +kernel)) lk_ND_26 im_AL_init np_AL_init ⟨by decide, by decide, Nat.le_of_ble_eq_true rfl⟩ (Nat.le_of_ble_eq_true rfl) (c_AL_init fw_up_self) rfl ?_
      rw [fw_uu]
      refine fr_st (st2 := [.ref q, .ref a]) rfl ?_
      refine fr_put (pc := 33) (fs2 := [.int (nI n), .int (bI fo), .ref q, .null, .int (nI ow), .int 0, .int 0]) d_ND_init_33 fp_ND_init_27 (fw_up_at fw_up_self (Ne.symm hqa)) (Nat.le_of_ble_eq_true rfl) rfl rfl rfl ?_
      refine fr_aload_n (pc := 36) d_ND_init_36 rfl rfl ?_
      refine fr_iconst (pc := 37) (v := 1) d_ND_init_37 (by decide) ?_
      refine fr_put (pc := 38) (fs2 := [.int (nI n), .int (bI fo), .ref q, .null, .int (nI ow), .int 0, .int 1]) d_ND_init_38 fp_ND_init_31 fw_up_self (Nat.le_of_ble_eq_true rfl) rfl rfl rfl ?_
      exact fr_vret rfl d_ND_init_41 ⟨rfl, q, hq0, hqa, by rw [fw_uu]; exact fw_ue (Ne.symm hqa)⟩
    · refine fr_aload_n (pc := 0) d_ND_init_0 rfl rfl ?_
      refine fr_objInit (pc := 1) d_ND_init_1 (fw_t 61 (by decide +kernel)) (fw_t 28 (by decide +kernel)) (fw_t 29 (by decide +kernel)) (by decide) (Nat.le_of_ble_eq_true rfl) ?_
      refine fr_aload_n (pc := 4) d_ND_init_4 rfl rfl ?_
      refine fr_iload_n (pc := 5) d_ND_init_5 rfl rfl ?_
      refine fr_put (pc := 6) (fs2 := [.int (nI n), .int 0, .null, .null, .int 0, .int 0, .int 0]) d_ND_init_6 fp_ND_init_7 h (Nat.le_of_ble_eq_true rfl) rfl rfl rfl ?_
      refine fr_aload_n (pc := 9) d_ND_init_9 rfl rfl ?_
      refine fr_aload_n (pc := 10) d_ND_init_10 rfl rfl ?_
      refine fr_put (pc := 11) (fs2 := [.int (nI n), .int 0, .null, .ref x, .int 0, .int 0, .int 0]) d_ND_init_11 fp_ND_init_13 fw_up_self (Nat.le_of_ble_eq_true rfl) rfl rfl rfl ?_
      refine fr_aload_n (pc := 14) d_ND_init_14 rfl rfl ?_
      refine fr_iload_n (pc := 15) d_ND_init_15 rfl rfl ?_
      refine fr_put (pc := 16) (fs2 := [.int (nI n), .int (bI fo), .null, .ref x, .int 0, .int 0, .int 0]) d_ND_init_16 fp_ND_init_17 fw_up_self (Nat.le_of_ble_eq_true rfl) (bI_nar _) (bI_fit _) rfl ?_
      refine fr_aload_n (pc := 19) d_ND_init_19 rfl rfl ?_
      refine fr_iload (pc := 20) d_ND_init_20 rfl ?_
      refine fr_put (pc := 22) (fs2 := [.int (nI n), .int (bI fo), .null, .ref x, .int (nI ow), .int 0, .int 0]) d_ND_init_22 fp_ND_init_21 fw_up_self (Nat.le_of_ble_eq_true rfl) rfl rfl rfl ?_
      rw [fw_uu, fw_uu, fw_uu]
      refine fr_aload_n (pc := 25) d_ND_init_25 rfl rfl ?_
      refine fr_new (pc := 26) (nc := 0) (ns := 0) (ci := 4) (N := 3) (fs := [.int 0, .null, .int 0]) d_ND_init_26 nw_AL_ND (fun q hq => ?_)
      have hqa : q ≠ a := fun z => by rw [z, fw_up_self] at hq; cases hq
      have hq0 : w q = none := (fw_up_ne hqa).symm.trans hq
      refine fr_dup (pc := 29) d_ND_init_29 rfl ?_
      refine fr_calli_n (pc := 30) (nc := 0) (ns := 0) (N := m_AL_init) (rest := [.ref q, .ref a]) (as := []) d_ND_init_30 k_AL_init rfl rfl rfl (fw_t 66 (by decide +kernel)) lk_ND_26 im_AL_init np_AL_init ⟨by decide, by decide, Nat.le_of_ble_eq_true rfl⟩ (Nat.le_of_ble_eq_true rfl) (c_AL_init fw_up_self) rfl ?_
      rw [fw_uu]
      refine fr_st (st2 := [.ref q, .ref a]) rfl ?_
      refine fr_put (pc := 33) (fs2 := [.int (nI n), .int (bI fo), .ref q, .ref x, .int (nI ow), .int 0, .int 0]) d_ND_init_33 fp_ND_init_27 (fw_up_at fw_up_self (Ne.symm hqa)) (Nat.le_of_ble_eq_true rfl) rfl rfl rfl ?_
      refine fr_aload_n (pc := 36) d_ND_init_36 rfl rfl ?_
      refine fr_iconst (pc := 37) (v := 1) d_ND_init_37 (by decide) ?_
      refine fr_put (pc := 38) (fs2 := [.int (nI n), .int (bI fo), .ref q, .ref x, .int (nI ow), .int 0, .int 1]) d_ND_init_38 fp_ND_init_31 fw_up_self (Nat.le_of_ble_eq_true rfl) rfl rfl rfl ?_
      exact fr_vret rfl d_ND_init_41 ⟨rfl, q, hq0, hqa, by rw [fw_uu]; exact fw_ue (Ne.symm hqa)⟩
  exact key (va_rf pr) (by cases pr; exact Or.inl rfl; exact Or.inr ⟨_, rfl⟩)
theorem c_GR_init {g : fw_G} {w : fw_W} {a : Nat} (h : w a = some (.inr (1, [.int 0, .null, .null, .null, .null]))) : fw_R g m_GR_init (fun r u => r = .inl none ∧ ∃ a1 a2 a3 a4, gr_at g u a a1 a2 a3 a4 0 (fun _ => 0) (fun _ => 0) (fun _ => 0) (fun _ => 0) ∧ w a1 = none ∧ w a2 = none ∧ w a3 = none ∧ w a4 = none ∧ ∀ b, w b ≠ none → b ≠ a → u b = w b) 4 96 w 0 [(0, .ref a)] [] := by
  refine fr_aload_n (pc := 0) d_GR_init_0 rfl rfl ?_
  refine fr_objInit (pc := 1) d_GR_init_1 (fw_t 35 (by decide +kernel)) (fw_t 28 (by decide +kernel)) (fw_t 29 (by decide +kernel)) (by decide) (Nat.le_of_ble_eq_true rfl) ?_
  refine fr_aload_n (pc := 4) d_GR_init_4 rfl rfl ?_
  refine fr_bipush (pc := 5) (v := 24) d_GR_init_5 (by decide) ?_
  refine fr_newa (pc := 7) (nc := 3) (ns := 72) (N := 24) (t := 2) (a0 := (24, .inr (.inl (fun _ => 0)))) d_GR_init_7 rfl (fw_t 54 (by decide +kernel)) rfl (fun cA => rfl) (by decide) (by decide) (by decide) (fun a1 q1 => ?_)
  have n1 : a ≠ a1 := fun e => by rw [← e] at q1; first | (rw [h] at q1; cases q1) | (rw [fw_up_self] at q1; cases q1)
  refine fr_put (pc := 9) (fs2 := [.int 0, .ref a1, .null, .null, .null]) d_GR_init_9 fp_GR_init_9 (fw_up_at h n1) (Nat.le_of_ble_eq_true rfl) rfl rfl rfl ?_
  refine fr_aload_n (pc := 12) d_GR_init_12 rfl rfl ?_
  refine fr_bipush (pc := 13) (v := 24) d_GR_init_13 (by decide) ?_
  refine fr_newa (pc := 15) (nc := 2) (ns := 48) (N := 24) (t := 2) (a0 := (24, .inr (.inl (fun _ => 0)))) d_GR_init_15 rfl (fw_t 54 (by decide +kernel)) rfl (fun cA => rfl) (by decide) (by decide) (by decide) (fun a2 q2 => ?_)
  have n2 : a ≠ a2 := fun e => by rw [← e] at q2; first | (rw [h] at q2; cases q2) | (rw [fw_up_self] at q2; cases q2)
  refine fr_put (pc := 17) (fs2 := [.int 0, .ref a1, .ref a2, .null, .null]) d_GR_init_17 fp_GR_init_15 (fw_up_at fw_up_self n2) (Nat.le_of_ble_eq_true rfl) rfl rfl rfl ?_
  refine fr_aload_n (pc := 20) d_GR_init_20 rfl rfl ?_
  refine fr_bipush (pc := 21) (v := 24) d_GR_init_21 (by decide) ?_
  refine fr_newa (pc := 23) (nc := 1) (ns := 24) (N := 24) (t := 2) (a0 := (24, .inr (.inl (fun _ => 0)))) d_GR_init_23 rfl (fw_t 54 (by decide +kernel)) rfl (fun cA => rfl) (by decide) (by decide) (by decide) (fun a3 q3 => ?_)
  have n3 : a ≠ a3 := fun e => by rw [← e] at q3; first | (rw [h] at q3; cases q3) | (rw [fw_up_self] at q3; cases q3)
  refine fr_put (pc := 25) (fs2 := [.int 0, .ref a1, .ref a2, .ref a3, .null]) d_GR_init_25 fp_GR_init_18 (fw_up_at fw_up_self n3) (Nat.le_of_ble_eq_true rfl) rfl rfl rfl ?_
  refine fr_aload_n (pc := 28) d_GR_init_28 rfl rfl ?_
  refine fr_bipush (pc := 29) (v := 24) d_GR_init_29 (by decide) ?_
  refine fr_newa (pc := 31) (nc := 0) (ns := 0) (N := 24) (t := 2) (a0 := (24, .inr (.inl (fun _ => 0)))) d_GR_init_31 rfl (fw_t 54 (by decide +kernel)) rfl (fun cA => rfl) (by decide) (by decide) (by decide) (fun a4 q4 => ?_)
  have n4 : a ≠ a4 := fun e => by rw [← e] at q4; first | (rw [h] at q4; cases q4) | (rw [fw_up_self] at q4; cases q4)
  refine fr_put (pc := 33) (fs2 := [.int 0, .ref a1, .ref a2, .ref a3, .ref a4]) d_GR_init_33 fp_GR_init_21 (fw_up_at fw_up_self n4) (Nat.le_of_ble_eq_true rfl) rfl rfl rfl ?_
  have k12 : a2 ≠ a1 := fun e => by rw [e, fw_up_ne (Ne.symm n1), fw_up_self] at q2; cases q2
  have k13 : a3 ≠ a1 := fun e => by rw [e, fw_up_ne (Ne.symm n1), fw_up_ne (Ne.symm k12), fw_up_ne (Ne.symm n1), fw_up_self] at q3; cases q3
  have k23 : a3 ≠ a2 := fun e => by rw [e, fw_up_ne (Ne.symm n2), fw_up_self] at q3; cases q3
  have k14 : a4 ≠ a1 := fun e => by rw [e, fw_up_ne (Ne.symm n1), fw_up_ne (Ne.symm k13), fw_up_ne (Ne.symm n1), fw_up_ne (Ne.symm k12), fw_up_ne (Ne.symm n1), fw_up_self] at q4; cases q4
  have k24 : a4 ≠ a2 := fun e => by rw [e, fw_up_ne (Ne.symm n2), fw_up_ne (Ne.symm k23), fw_up_ne (Ne.symm n2), fw_up_self] at q4; cases q4
  have k34 : a4 ≠ a3 := fun e => by rw [e, fw_up_ne (Ne.symm n3), fw_up_self] at q4; cases q4
  refine fr_vret rfl d_GR_init_36 ⟨rfl, a1, a2, a3, a4, ⟨fw_up_self, ?_, ?_, ?_, ?_, by decide, Ne.symm k12, Ne.symm k13, Ne.symm k14, Ne.symm k23, Ne.symm k24, Ne.symm k34, n1, n2, n3, n4⟩, q1, ?_, ?_, ?_, fun b hb hba => ?_⟩
  · rw [fw_up_ne (Ne.symm n1), fw_up_ne (Ne.symm k14), fw_up_ne (Ne.symm n1), fw_up_ne (Ne.symm k13), fw_up_ne (Ne.symm n1), fw_up_ne (Ne.symm k12), fw_up_ne (Ne.symm n1), fw_up_self]
  · rw [fw_up_ne (Ne.symm n2), fw_up_ne (Ne.symm k24), fw_up_ne (Ne.symm n2), fw_up_ne (Ne.symm k23), fw_up_ne (Ne.symm n2), fw_up_self]
  · rw [fw_up_ne (Ne.symm n3), fw_up_ne (Ne.symm k34), fw_up_ne (Ne.symm n3), fw_up_self]
  · rw [fw_up_ne (Ne.symm n4), fw_up_self]
  · rwa [fw_up_ne (Ne.symm n2), fw_up_ne k12] at q2
  · rwa [fw_up_ne (Ne.symm n3), fw_up_ne k23, fw_up_ne (Ne.symm n3), fw_up_ne k13] at q3
  · rwa [fw_up_ne (Ne.symm n4), fw_up_ne k34, fw_up_ne (Ne.symm n4), fw_up_ne k24, fw_up_ne (Ne.symm n4), fw_up_ne k14] at q4
  · have e2 : w a2 = none := by rwa [fw_up_ne (Ne.symm n2), fw_up_ne k12] at q2
    have e3 : w a3 = none := by rwa [fw_up_ne (Ne.symm n3), fw_up_ne k23, fw_up_ne (Ne.symm n3), fw_up_ne k13] at q3
    have e4 : w a4 = none := by rwa [fw_up_ne (Ne.symm n4), fw_up_ne k34, fw_up_ne (Ne.symm n4), fw_up_ne k24, fw_up_ne (Ne.symm n4), fw_up_ne k14] at q4
    have b1 : b ≠ a1 := fun e => hb (by rw [e]; exact q1)
    have b2 : b ≠ a2 := fun e => hb (by rw [e]; exact e2)
    have b3 : b ≠ a3 := fun e => hb (by rw [e]; exact e3)
    have b4 : b ≠ a4 := fun e => hb (by rw [e]; exact e4)
    rw [fw_up_ne hba, fw_up_ne b4, fw_up_ne hba, fw_up_ne b3, fw_up_ne hba, fw_up_ne b2, fw_up_ne hba, fw_up_ne b1]

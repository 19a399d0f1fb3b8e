abbrev m_FR_isSet : fw_M := (⟨"FolderRights", "isSet", "(JI)Z"⟩, prog_1_method_42_code, 3, (some .boolean), { frames := 0, cells := 0, slots := 0, locals := 0 }, [])
theorem d_FR_isSet_0 : decode m_FR_isSet.2.1 0 = .ok (.lload_n 0, 1) := by decide +kernel
theorem d_FR_isSet_1 : decode m_FR_isSet.2.1 1 = .ok (.iload_n 2, 1) := by decide +kernel
theorem d_FR_isSet_2 : decode m_FR_isSet.2.1 2 = .ok (.lushr, 1) := by decide +kernel
theorem d_FR_isSet_3 : decode m_FR_isSet.2.1 3 = .ok (.lconst 1, 1) := by decide +kernel
theorem d_FR_isSet_4 : decode m_FR_isSet.2.1 4 = .ok (.land, 1) := by decide +kernel
theorem d_FR_isSet_5 : decode m_FR_isSet.2.1 5 = .ok (.lconst 0, 1) := by decide +kernel
theorem d_FR_isSet_6 : decode m_FR_isSet.2.1 6 = .ok (.lcmp, 1) := by decide +kernel
theorem d_FR_isSet_7 : decode m_FR_isSet.2.1 7 = .ok (.ifCond .eq 7, 3) := by decide +kernel
theorem d_FR_isSet_10 : decode m_FR_isSet.2.1 10 = .ok (.iconst 1, 1) := by decide +kernel
theorem d_FR_isSet_11 : decode m_FR_isSet.2.1 11 = .ok (.goto 4, 3) := by decide +kernel
theorem d_FR_isSet_14 : decode m_FR_isSet.2.1 14 = .ok (.iconst 0, 1) := by decide +kernel
theorem d_FR_isSet_15 : decode m_FR_isSet.2.1 15 = .ok (.ireturn, 1) := by decide +kernel
theorem k_FR_isSet : fw_cal m_FR_isSet := ⟨by decide +kernel, by decide +kernel, (fw_t 1 (by decide +kernel)), Or.inl ⟨rfl, fw_t 264 (by decide +kernel)⟩⟩
abbrev m_ND_depth : fw_M := (⟨"FolderRights$Node", "depth", "()I"⟩, prog_4_method_3_code, 3, (some .int), { frames := 0, cells := 0, slots := 0, locals := 0 }, [])
theorem d_ND_depth_0 : decode m_ND_depth.2.1 0 = .ok (.iconst 0, 1) := by decide +kernel
theorem d_ND_depth_1 : decode m_ND_depth.2.1 1 = .ok (.istore_n 1, 1) := by decide +kernel
theorem d_ND_depth_2 : decode m_ND_depth.2.1 2 = .ok (.aload_n 0, 1) := by decide +kernel
theorem d_ND_depth_3 : decode m_ND_depth.2.1 3 = .ok (.getfield 13, 3) := by decide +kernel
theorem d_ND_depth_6 : decode m_ND_depth.2.1 6 = .ok (.astore_n 2, 1) := by decide +kernel
theorem d_ND_depth_7 : decode m_ND_depth.2.1 7 = .ok (.aload_n 2, 1) := by decide +kernel
theorem d_ND_depth_8 : decode m_ND_depth.2.1 8 = .ok (.ifnull 14, 3) := by decide +kernel
theorem d_ND_depth_11 : decode m_ND_depth.2.1 11 = .ok (.iinc 1 1, 3) := by decide +kernel
theorem d_ND_depth_14 : decode m_ND_depth.2.1 14 = .ok (.aload_n 2, 1) := by decide +kernel
theorem d_ND_depth_15 : decode m_ND_depth.2.1 15 = .ok (.getfield 13, 3) := by decide +kernel
theorem d_ND_depth_18 : decode m_ND_depth.2.1 18 = .ok (.astore_n 2, 1) := by decide +kernel
theorem d_ND_depth_19 : decode m_ND_depth.2.1 19 = .ok (.goto (-12), 3) := by decide +kernel
theorem d_ND_depth_22 : decode m_ND_depth.2.1 22 = .ok (.iload_n 1, 1) := by decide +kernel
theorem d_ND_depth_23 : decode m_ND_depth.2.1 23 = .ok (.ireturn, 1) := by decide +kernel
theorem k_ND_depth : fw_cal m_ND_depth := ⟨by decide +kernel, by decide +kernel, (fw_t 3 (by decide +kernel)), Or.inl ⟨rfl, fw_t 329 (by decide +kernel)⟩⟩
abbrev m_ND_nextLevel : fw_M := (⟨"FolderRights$Node", "nextLevel", "()LFolderRights$Node;"⟩, prog_4_method_2_code, 1, (some (.object "FolderRights$Node")), { frames := 0, cells := 0, slots := 0, locals := 0 }, [])
theorem d_ND_nextLevel_0 : decode m_ND_nextLevel.2.1 0 = .ok (.aload_n 0, 1) := by decide +kernel
theorem d_ND_nextLevel_1 : decode m_ND_nextLevel.2.1 1 = .ok (.getfield 34, 3) := by decide +kernel
theorem d_ND_nextLevel_4 : decode m_ND_nextLevel.2.1 4 = .ok (.ifCond .eq 7, 3) := by decide +kernel
theorem d_ND_nextLevel_7 : decode m_ND_nextLevel.2.1 7 = .ok (.aconst_null, 1) := by decide +kernel
theorem d_ND_nextLevel_8 : decode m_ND_nextLevel.2.1 8 = .ok (.goto 7, 3) := by decide +kernel
theorem d_ND_nextLevel_11 : decode m_ND_nextLevel.2.1 11 = .ok (.aload_n 0, 1) := by decide +kernel
theorem d_ND_nextLevel_12 : decode m_ND_nextLevel.2.1 12 = .ok (.getfield 13, 3) := by decide +kernel
theorem d_ND_nextLevel_15 : decode m_ND_nextLevel.2.1 15 = .ok (.areturn, 1) := by decide +kernel
theorem k_ND_nextLevel : fw_cal m_ND_nextLevel := ⟨by decide +kernel, by decide +kernel, (fw_t 3 (by decide +kernel)), Or.inl ⟨rfl, fw_t 542 (by decide +kernel)⟩⟩
abbrev m_ND_liesWithin : fw_M := (⟨"FolderRights$Node", "liesWithin", "(LFolderRights$Node;)Z"⟩, prog_4_method_4_code, 3, (some .boolean), { frames := 0, cells := 0, slots := 0, locals := 0 }, [])
theorem d_ND_liesWithin_0 : decode m_ND_liesWithin.2.1 0 = .ok (.aload_n 0, 1) := by decide +kernel
theorem d_ND_liesWithin_1 : decode m_ND_liesWithin.2.1 1 = .ok (.astore_n 2, 1) := by decide +kernel
theorem d_ND_liesWithin_2 : decode m_ND_liesWithin.2.1 2 = .ok (.aload_n 2, 1) := by decide +kernel
theorem d_ND_liesWithin_3 : decode m_ND_liesWithin.2.1 3 = .ok (.ifnull 18, 3) := by decide +kernel
theorem d_ND_liesWithin_6 : decode m_ND_liesWithin.2.1 6 = .ok (.aload_n 2, 1) := by decide +kernel
theorem d_ND_liesWithin_7 : decode m_ND_liesWithin.2.1 7 = .ok (.aload_n 1, 1) := by decide +kernel
theorem d_ND_liesWithin_8 : decode m_ND_liesWithin.2.1 8 = .ok (.if_acmp .ne 5, 3) := by decide +kernel
theorem d_ND_liesWithin_11 : decode m_ND_liesWithin.2.1 11 = .ok (.iconst 1, 1) := by decide +kernel
theorem d_ND_liesWithin_12 : decode m_ND_liesWithin.2.1 12 = .ok (.ireturn, 1) := by decide +kernel
theorem d_ND_liesWithin_13 : decode m_ND_liesWithin.2.1 13 = .ok (.aload_n 2, 1) := by decide +kernel
theorem d_ND_liesWithin_14 : decode m_ND_liesWithin.2.1 14 = .ok (.getfield 13, 3) := by decide +kernel
theorem d_ND_liesWithin_17 : decode m_ND_liesWithin.2.1 17 = .ok (.astore_n 2, 1) := by decide +kernel
theorem d_ND_liesWithin_18 : decode m_ND_liesWithin.2.1 18 = .ok (.goto (-16), 3) := by decide +kernel
theorem d_ND_liesWithin_21 : decode m_ND_liesWithin.2.1 21 = .ok (.iconst 0, 1) := by decide +kernel
theorem d_ND_liesWithin_22 : decode m_ND_liesWithin.2.1 22 = .ok (.ireturn, 1) := by decide +kernel
theorem k_ND_liesWithin : fw_cal m_ND_liesWithin := ⟨by decide +kernel, by decide +kernel, (fw_t 3 (by decide +kernel)), Or.inl ⟨rfl, fw_t 345 (by decide +kernel)⟩⟩
abbrev m_EN_gives : fw_M := (⟨"FolderRights$Entry", "gives", "(I)Z"⟩, prog_2_method_2_code, 2, (some .boolean), { frames := 1, cells := 0, slots := 0, locals := 22 }, [])
theorem d_EN_gives_0 : decode m_EN_gives.2.1 0 = .ok (.aload_n 0, 1) := by decide +kernel
theorem d_EN_gives_1 : decode m_EN_gives.2.1 1 = .ok (.getfield 22, 3) := by decide +kernel
theorem d_EN_gives_4 : decode m_EN_gives.2.1 4 = .ok (.i2l, 1) := by decide +kernel
theorem d_EN_gives_5 : decode m_EN_gives.2.1 5 = .ok (.iload_n 1, 1) := by decide +kernel
theorem d_EN_gives_6 : decode m_EN_gives.2.1 6 = .ok (.invokestatic 28, 3) := by decide +kernel
theorem d_EN_gives_9 : decode m_EN_gives.2.1 9 = .ok (.ireturn, 1) := by decide +kernel
theorem k_EN_gives : fw_cal m_EN_gives := ⟨by decide +kernel, by decide +kernel, (fw_t 15 (by decide +kernel)), Or.inl ⟨rfl, fw_t 528 (by decide +kernel)⟩⟩
abbrev m_EN_reaches : fw_M := (⟨"FolderRights$Entry", "reaches", "(LFolderRights$Node;LFolderRights$Node;)Z"⟩, prog_2_method_3_code, 4, (some .boolean), { frames := 0, cells := 0, slots := 0, locals := 0 }, [])
theorem d_EN_reaches_0 : decode m_EN_reaches.2.1 0 = .ok (.aload_n 2, 1) := by decide +kernel
theorem d_EN_reaches_1 : decode m_EN_reaches.2.1 1 = .ok (.aload_n 1, 1) := by decide +kernel
theorem d_EN_reaches_2 : decode m_EN_reaches.2.1 2 = .ok (.if_acmp .ne 18, 3) := by decide +kernel
theorem d_EN_reaches_5 : decode m_EN_reaches.2.1 5 = .ok (.aload_n 0, 1) := by decide +kernel
theorem d_EN_reaches_6 : decode m_EN_reaches.2.1 6 = .ok (.getfield 25, 3) := by decide +kernel
theorem d_EN_reaches_9 : decode m_EN_reaches.2.1 9 = .ok (.iconst 1, 1) := by decide +kernel
theorem d_EN_reaches_10 : decode m_EN_reaches.2.1 10 = .ok (.iand, 1) := by decide +kernel
theorem d_EN_reaches_11 : decode m_EN_reaches.2.1 11 = .ok (.ifCond .eq 7, 3) := by decide +kernel
theorem d_EN_reaches_14 : decode m_EN_reaches.2.1 14 = .ok (.iconst 1, 1) := by decide +kernel
theorem d_EN_reaches_15 : decode m_EN_reaches.2.1 15 = .ok (.goto 4, 3) := by decide +kernel
theorem d_EN_reaches_18 : decode m_EN_reaches.2.1 18 = .ok (.iconst 0, 1) := by decide +kernel
theorem d_EN_reaches_19 : decode m_EN_reaches.2.1 19 = .ok (.ireturn, 1) := by decide +kernel
theorem d_EN_reaches_20 : decode m_EN_reaches.2.1 20 = .ok (.aload_n 2, 1) := by decide +kernel
theorem d_EN_reaches_21 : decode m_EN_reaches.2.1 21 = .ok (.getfield 32, 3) := by decide +kernel
theorem d_EN_reaches_24 : decode m_EN_reaches.2.1 24 = .ok (.ifCond .eq 7, 3) := by decide +kernel
theorem d_EN_reaches_27 : decode m_EN_reaches.2.1 27 = .ok (.iconst 2, 1) := by decide +kernel
theorem d_EN_reaches_28 : decode m_EN_reaches.2.1 28 = .ok (.goto 4, 3) := by decide +kernel
theorem d_EN_reaches_31 : decode m_EN_reaches.2.1 31 = .ok (.iconst 4, 1) := by decide +kernel
theorem d_EN_reaches_32 : decode m_EN_reaches.2.1 32 = .ok (.istore_n 3, 1) := by decide +kernel
theorem d_EN_reaches_33 : decode m_EN_reaches.2.1 33 = .ok (.aload_n 0, 1) := by decide +kernel
theorem d_EN_reaches_34 : decode m_EN_reaches.2.1 34 = .ok (.getfield 25, 3) := by decide +kernel
theorem d_EN_reaches_37 : decode m_EN_reaches.2.1 37 = .ok (.iload_n 3, 1) := by decide +kernel
theorem d_EN_reaches_38 : decode m_EN_reaches.2.1 38 = .ok (.iand, 1) := by decide +kernel
theorem d_EN_reaches_39 : decode m_EN_reaches.2.1 39 = .ok (.ifCond .eq 25, 3) := by decide +kernel
theorem d_EN_reaches_42 : decode m_EN_reaches.2.1 42 = .ok (.aload_n 0, 1) := by decide +kernel
theorem d_EN_reaches_43 : decode m_EN_reaches.2.1 43 = .ok (.getfield 25, 3) := by decide +kernel
theorem d_EN_reaches_46 : decode m_EN_reaches.2.1 46 = .ok (.bipush 8, 2) := by decide +kernel
theorem d_EN_reaches_48 : decode m_EN_reaches.2.1 48 = .ok (.iand, 1) := by decide +kernel
theorem d_EN_reaches_49 : decode m_EN_reaches.2.1 49 = .ok (.ifCond .eq 11, 3) := by decide +kernel
theorem d_EN_reaches_52 : decode m_EN_reaches.2.1 52 = .ok (.aload_n 2, 1) := by decide +kernel
theorem d_EN_reaches_53 : decode m_EN_reaches.2.1 53 = .ok (.getfield 37, 3) := by decide +kernel
theorem d_EN_reaches_56 : decode m_EN_reaches.2.1 56 = .ok (.aload_n 1, 1) := by decide +kernel
theorem d_EN_reaches_57 : decode m_EN_reaches.2.1 57 = .ok (.if_acmp .ne 7, 3) := by decide +kernel
theorem d_EN_reaches_60 : decode m_EN_reaches.2.1 60 = .ok (.iconst 1, 1) := by decide +kernel
theorem d_EN_reaches_61 : decode m_EN_reaches.2.1 61 = .ok (.goto 4, 3) := by decide +kernel
theorem d_EN_reaches_64 : decode m_EN_reaches.2.1 64 = .ok (.iconst 0, 1) := by decide +kernel
theorem d_EN_reaches_65 : decode m_EN_reaches.2.1 65 = .ok (.ireturn, 1) := by decide +kernel
theorem k_EN_reaches : fw_cal m_EN_reaches := ⟨by decide +kernel, by decide +kernel, (fw_t 15 (by decide +kernel)), Or.inl ⟨rfl, fw_t 533 (by decide +kernel)⟩⟩
abbrev m_EN_init : fw_M := (⟨"FolderRights$Entry", "<init>", "(ZIZII)V"⟩, prog_2_method_1_code, 6, none, { frames := 1, cells := 0, slots := 0, locals := 20 }, [])
theorem d_EN_init_0 : decode m_EN_init.2.1 0 = .ok (.aload_n 0, 1) := by decide +kernel
theorem d_EN_init_1 : decode m_EN_init.2.1 1 = .ok (.invokespecial 3, 3) := by decide +kernel
theorem d_EN_init_4 : decode m_EN_init.2.1 4 = .ok (.aload_n 0, 1) := by decide +kernel
theorem d_EN_init_5 : decode m_EN_init.2.1 5 = .ok (.iload_n 1, 1) := by decide +kernel
theorem d_EN_init_6 : decode m_EN_init.2.1 6 = .ok (.putfield 9, 3) := by decide +kernel
theorem d_EN_init_9 : decode m_EN_init.2.1 9 = .ok (.aload_n 0, 1) := by decide +kernel
theorem d_EN_init_10 : decode m_EN_init.2.1 10 = .ok (.iload_n 2, 1) := by decide +kernel
theorem d_EN_init_11 : decode m_EN_init.2.1 11 = .ok (.putfield 15, 3) := by decide +kernel
theorem d_EN_init_14 : decode m_EN_init.2.1 14 = .ok (.aload_n 0, 1) := by decide +kernel
theorem d_EN_init_15 : decode m_EN_init.2.1 15 = .ok (.iload_n 3, 1) := by decide +kernel
theorem d_EN_init_16 : decode m_EN_init.2.1 16 = .ok (.putfield 19, 3) := by decide +kernel
theorem d_EN_init_19 : decode m_EN_init.2.1 19 = .ok (.aload_n 0, 1) := by decide +kernel
theorem d_EN_init_20 : decode m_EN_init.2.1 20 = .ok (.iload 4, 2) := by decide +kernel
theorem d_EN_init_22 : decode m_EN_init.2.1 22 = .ok (.putfield 22, 3) := by decide +kernel
theorem d_EN_init_25 : decode m_EN_init.2.1 25 = .ok (.aload_n 0, 1) := by decide +kernel
theorem d_EN_init_26 : decode m_EN_init.2.1 26 = .ok (.iload 5, 2) := by decide +kernel
theorem d_EN_init_28 : decode m_EN_init.2.1 28 = .ok (.putfield 25, 3) := by decide +kernel
theorem d_EN_init_31 : decode m_EN_init.2.1 31 = .ok (.return_, 1) := by decide +kernel
theorem k_EN_init : fw_cal m_EN_init := ⟨by decide +kernel, by decide +kernel, (fw_t 15 (by decide +kernel)), Or.inl ⟨rfl, fw_t 390 (by decide +kernel)⟩⟩
theorem fg_ND_13 : fw_fld "FolderRights$Node" 13 2 3 := ⟨_, _, _, "FolderRights$Node", rfl, by decide, fw_i2, Or.inl rfl, Or.inl (fw_t 95 (by decide +kernel))⟩
theorem fg_ND_34 : fw_fld "FolderRights$Node" 34 2 5 := ⟨_, _, _, "FolderRights$Node", rfl, by decide, fw_i2, Or.inl rfl, Or.inl (fw_t 100 (by decide +kernel))⟩
theorem fg_EN_22 : fw_fld "FolderRights$Entry" 22 3 3 := ⟨_, _, _, "FolderRights$Entry", rfl, by decide, fw_i3, Or.inl rfl, Or.inl (fw_t 398 (by decide +kernel))⟩
theorem lk_EN_28 : fw_lk "FolderRights$Entry" 28 ⟨"FolderRights", "isSet", "(JI)Z"⟩ := Or.inr ⟨"FolderRights", (fw_t 529 (by decide +kernel))⟩
theorem np_FR_isSet : fw_np ⟨"FolderRights", "isSet", "(JI)Z"⟩ 2 := by unfold fw_np; decide +kernel
theorem sc_FR_isSet : Cond.static ⟨"FolderRights", "isSet", "(JI)Z"⟩ ∈ lw_tbl := (fw_t 263 (by decide +kernel))
theorem fg_EN_25 : fw_fld "FolderRights$Entry" 25 3 4 := ⟨_, _, _, "FolderRights$Entry", rfl, by decide, fw_i3, Or.inl rfl, Or.inl (fw_t 399 (by decide +kernel))⟩
theorem fg_EN_32 : fw_fld "FolderRights$Entry" 32 2 1 := ⟨_, _, _, "FolderRights$Node", rfl, by decide, fw_i2, Or.inl rfl, Or.inl (fw_t 91 (by decide +kernel))⟩
theorem fg_EN_37 : fw_fld "FolderRights$Entry" 37 2 3 := ⟨_, _, _, "FolderRights$Node", rfl, by decide, fw_i2, Or.inl rfl, Or.inl (fw_t 96 (by decide +kernel))⟩
theorem fp_EN_init_9 : fw_fpt m_EN_init 9 3 0 .boolean := ⟨_, _, _, "FolderRights$Entry", rfl, by decide, fw_i3, Or.inl rfl, ⟨fw_y3, fw_k3⟩, fw_n3, by decide +kernel, Or.inr ⟨rfl, rfl, rfl, (fw_t 392 (by decide +kernel))⟩⟩
theorem fp_EN_init_15 : fw_fpt m_EN_init 15 3 1 .int := ⟨_, _, _, "FolderRights$Entry", rfl, by decide, fw_i3, Or.inl rfl, ⟨fw_y3, fw_k3⟩, fw_n3, by decide +kernel, Or.inr ⟨rfl, rfl, rfl, (fw_t 394 (by decide +kernel))⟩⟩
theorem fp_EN_init_19 : fw_fpt m_EN_init 19 3 2 .boolean := ⟨_, _, _, "FolderRights$Entry", rfl, by decide, fw_i3, Or.inl rfl, ⟨fw_y3, fw_k3⟩, fw_n3, by decide +kernel, Or.inr ⟨rfl, rfl, rfl, (fw_t 396 (by decide +kernel))⟩⟩
theorem fp_EN_init_22 : fw_fpt m_EN_init 22 3 3 .int := ⟨_, _, _, "FolderRights$Entry", rfl, by decide, fw_i3, Or.inl rfl, ⟨fw_y3, fw_k3⟩, fw_n3, by decide +kernel, Or.inr ⟨rfl, rfl, rfl, (fw_t 398 (by decide +kernel))⟩⟩
theorem fp_EN_init_25 : fw_fpt m_EN_init 25 3 4 .int := ⟨_, _, _, "FolderRights$Entry", rfl, by decide, fw_i3, Or.inl rfl, ⟨fw_y3, fw_k3⟩, fw_n3, by decide +kernel, Or.inr ⟨rfl, rfl, rfl, (fw_t 399 (by decide +kernel))⟩⟩
theorem c_FR_isSet {g : fw_G} {nc ns : Nat} {w : fw_W} {x : Int64} {k : Nat} (hk : k < 64) : fw_R g m_FR_isSet (fw_pv (.int (bI (bb x k))) w) nc ns w 0 [(0, .long x), (2, .int (nI k))] [] := by
  refine fr_lload_n (pc := 0) d_FR_isSet_0 rfl rfl ?_
  refine fr_iload_n (pc := 1) d_FR_isSet_1 rfl rfl ?_
  refine fr_lushr (pc := 2) d_FR_isSet_2 rfl ?_
  refine fr_lconst (pc := 3) (v := 1) d_FR_isSet_3 (by decide) ?_
  refine fr_land (pc := 4) d_FR_isSet_4 ?_
  refine fr_lconst (pc := 5) (v := 0) d_FR_isSet_5 (by decide) ?_
  refine fr_lcmp (pc := 6) d_FR_isSet_6 ?_
  refine fr_if_eq (pc := 7) (tgt := 14) d_FR_isSet_7 (by decide) (fun h => ?_) (fun h => ?_)
  · have hb := (bb_set x hk).mp h
    refine fr_iconst (pc := 14) (v := 0) d_FR_isSet_14 (by decide) ?_
    refine fr_st (st2 := [.int (bI (bb x k))]) (by rw [hb]; rfl) ?_
    exact fr_zret rfl (by first | exact bI_01 _ | exact Or.inl rfl | exact Or.inr rfl) d_FR_isSet_15 ⟨rfl, rfl⟩
  · have hb := ts_nf (fun q => h ((bb_set x hk).mpr q))
    refine fr_iconst (pc := 10) (v := 1) d_FR_isSet_10 (by decide) ?_
    refine fr_goto (pc := 11) (tgt := 15) d_FR_isSet_11 (by decide) ?_
    refine fr_st (st2 := [.int (bI (bb x k))]) (by rw [hb]; rfl) ?_
    exact fr_zret rfl (by first | exact bI_01 _ | exact Or.inl rfl | exact Or.inr rfl) d_FR_isSet_15 ⟨rfl, rfl⟩
def nd_cl (w : fw_W) : Nat → List Nat → Prop
  | a, [] => ∃ fs, w a = some (.inr (2, fs)) ∧ fs[3]? = some .null
  | a, p :: t => (∃ fs, w a = some (.inr (2, fs)) ∧ fs[3]? = some (.ref p)) ∧ nd_cl w p t
theorem c_ND_depth_l {g : fw_G} {nc ns : Nat} {w : fw_W} {a : Nat} : ∀ (l : List Nat) (x k : Nat), nd_cl w x l → fw_R g m_ND_depth (fw_pv (.int (nI (k + 1 + l.length))) w) nc ns w 7 [(0, .ref a), (1, .int (nI k)), (2, .ref x)] [] := by
  intro l
  induction l with
  | nil =>
    intro x k h
    obtain ⟨fs, h1, h2⟩ := h
    refine fr_aload_n (pc := 7) d_ND_depth_7 rfl rfl ?_
    refine fr_ifnull (pc := 8) d_ND_depth_8 ?_
    refine fr_iinc (pc := 11) (v := (nI (k + 1))) (L2 := [(0, .ref a), (1, .int (nI (k + 1))), (2, .ref x)]) d_ND_depth_11 rfl (fi_1 _) (by decide) rfl ?_
    refine fr_aload_n (pc := 14) d_ND_depth_14 rfl rfl ?_
    refine fr_get (pc := 15) d_ND_depth_15 fg_ND_13 h1 h2 ?_
    refine fr_astore_nN (pc := 18) (L2 := [(0, .ref a), (1, .int (nI (k + 1))), (2, .null)]) d_ND_depth_18 rfl (by decide) rfl ?_
    refine fr_goto (pc := 19) (tgt := 7) d_ND_depth_19 (by decide) ?_
    refine fr_aload_nN (pc := 7) d_ND_depth_7 rfl rfl ?_
    refine fr_ifnullN (pc := 8) (tgt := 22) d_ND_depth_8 (by decide) ?_
    refine fr_iload_n (pc := 22) d_ND_depth_22 rfl rfl ?_
    exact fr_iret rfl d_ND_depth_23 ⟨rfl, rfl⟩
  | cons p t ih =>
    intro x k h
    obtain ⟨⟨fs, h1, h2⟩, h3⟩ := h
    refine fr_aload_n (pc := 7) d_ND_depth_7 rfl rfl ?_
    refine fr_ifnull (pc := 8) d_ND_depth_8 ?_
    refine fr_iinc (pc := 11) (v := (nI (k + 1))) (L2 := [(0, .ref a), (1, .int (nI (k + 1))), (2, .ref x)]) d_ND_depth_11 rfl (fi_1 _) (by decide) rfl ?_
    refine fr_aload_n (pc := 14) d_ND_depth_14 rfl rfl ?_
    refine fr_get (pc := 15) d_ND_depth_15 fg_ND_13 h1 h2 ?_
    refine fr_astore_n (pc := 18) (L2 := [(0, .ref a), (1, .int (nI (k + 1))), (2, .ref p)]) d_ND_depth_18 rfl (by decide) rfl ?_
    refine fr_goto (pc := 19) (tgt := 7) d_ND_depth_19 (by decide) ?_
    rw [show k + 1 + (p :: t).length = (k + 1) + 1 + t.length by rw [List.length_cons]; omega]
    exact ih p (k + 1) h3
theorem c_ND_depth {g : fw_G} {nc ns : Nat} {w : fw_W} {a : Nat} {l : List Nat} (h : nd_cl w a l) : fw_R g m_ND_depth (fw_pv (.int (nI l.length)) w) nc ns w 0 [(0, .ref a)] [] := by
  cases l with
  | nil =>
    obtain ⟨fs, h1, h2⟩ := h
    refine fr_iconst (pc := 0) (v := 0) d_ND_depth_0 (by decide) ?_
    refine fr_istore_n (pc := 1) (L2 := [(0, .ref a), (1, .int 0)]) d_ND_depth_1 rfl (by decide) rfl ?_
    refine fr_aload_n (pc := 2) d_ND_depth_2 rfl rfl ?_
    refine fr_get (pc := 3) d_ND_depth_3 fg_ND_13 h1 h2 ?_
    refine fr_astore_nN (pc := 6) (L2 := [(0, .ref a), (1, .int 0), (2, .null)]) d_ND_depth_6 rfl (by decide) rfl ?_
    refine fr_aload_nN (pc := 7) d_ND_depth_7 rfl rfl ?_
    refine fr_ifnullN (pc := 8) (tgt := 22) d_ND_depth_8 (by decide) ?_
    refine fr_iload_n (pc := 22) d_ND_depth_22 rfl rfl ?_
    exact fr_iret rfl d_ND_depth_23 ⟨rfl, rfl⟩
  | cons p t =>
    obtain ⟨⟨fs, h1, h2⟩, h3⟩ := h
    refine fr_iconst (pc := 0) (v := 0) d_ND_depth_0 (by decide) ?_
    refine fr_istore_n (pc := 1) (L2 := [(0, .ref a), (1, .int 0)]) d_ND_depth_1 rfl (by decide) rfl ?_
    refine fr_aload_n (pc := 2) d_ND_depth_2 rfl rfl ?_
    refine fr_get (pc := 3) d_ND_depth_3 fg_ND_13 h1 h2 ?_
    refine fr_astore_n (pc := 6) (L2 := [(0, .ref a), (1, .int 0), (2, .ref p)]) d_ND_depth_6 rfl (by decide) rfl ?_
    rw [show (p :: t).length = 0 + 1 + t.length by rw [List.length_cons]; omega]
    exact c_ND_depth_l t p 0 h3
theorem c_ND_lies_l {g : fw_G} {nc ns : Nat} {w : fw_W} {a b : Nat} : ∀ (l : List Nat) (x : Nat), nd_cl w x l → fw_R g m_ND_liesWithin (fw_pv (.int (bI (decide (b = x ∨ b ∈ l)))) w) nc ns w 2 [(0, .ref a), (1, .ref b), (2, .ref x)] [] := by
  intro l
  induction l with
  | nil =>
    intro x h
    obtain ⟨fs, h1, h2⟩ := h
    refine fr_aload_n (pc := 2) d_ND_liesWithin_2 rfl rfl ?_
    refine fr_ifnull (pc := 3) d_ND_liesWithin_3 ?_
    refine fr_aload_n (pc := 6) d_ND_liesWithin_6 rfl rfl ?_
    refine fr_aload_n (pc := 7) d_ND_liesWithin_7 rfl rfl ?_
    refine fr_acmp_ne (pc := 8) (tgt := 13) (rx := some x) (ry := some b) d_ND_liesWithin_8 (by decide) (fun h9 => ?_) (fun h9 => ?_)
    · have hne : ¬ b = x := fun q => h9 (by rw [q])
      refine fr_aload_n (pc := 13) d_ND_liesWithin_13 rfl rfl ?_
      refine fr_get (pc := 14) d_ND_liesWithin_14 fg_ND_13 h1 h2 ?_
      refine fr_astore_nN (pc := 17) (L2 := [(0, .ref a), (1, .ref b), (2, .null)]) d_ND_liesWithin_17 rfl (by decide) rfl ?_
      refine fr_goto (pc := 18) (tgt := 2) d_ND_liesWithin_18 (by decide) ?_
      refine fr_aload_nN (pc := 2) d_ND_liesWithin_2 rfl rfl ?_
      refine fr_ifnullN (pc := 3) (tgt := 21) d_ND_liesWithin_3 (by decide) ?_
      refine fr_iconst (pc := 21) (v := 0) d_ND_liesWithin_21 (by decide) ?_
      refine fr_st (st2 := [.int (bI (decide (b = x ∨ b ∈ ([] : List Nat))))]) (by rw [decide_eq_false (by rintro (q | q); exact hne q; cases q)]; rfl) ?_
      exact fr_zret rfl (by first | exact bI_01 _ | exact Or.inl rfl | exact Or.inr rfl) d_ND_liesWithin_22 ⟨rfl, rfl⟩
    · have heq : b = x := (Option.some.inj h9).symm
      refine fr_iconst (pc := 11) (v := 1) d_ND_liesWithin_11 (by decide) ?_
      refine fr_st (st2 := [.int (bI (decide (b = x ∨ b ∈ ([] : List Nat))))]) (by rw [decide_eq_true (Or.inl heq)]; rfl) ?_
      exact fr_zret rfl (by first | exact bI_01 _ | exact Or.inl rfl | exact Or.inr rfl) d_ND_liesWithin_12 ⟨rfl, rfl⟩
  | cons p t ih =>
    intro x h
    obtain ⟨⟨fs, h1, h2⟩, h3⟩ := h
    refine fr_aload_n (pc := 2) d_ND_liesWithin_2 rfl rfl ?_
    refine fr_ifnull (pc := 3) d_ND_liesWithin_3 ?_
    refine fr_aload_n (pc := 6) d_ND_liesWithin_6 rfl rfl ?_
    refine fr_aload_n (pc := 7) d_ND_liesWithin_7 rfl rfl ?_
    refine fr_acmp_ne (pc := 8) (tgt := 13) (rx := some x) (ry := some b) d_ND_liesWithin_8 (by decide) (fun h9 => ?_) (fun h9 => ?_)
    · have hne : ¬ b = x := fun q => h9 (by rw [q])
      refine fr_aload_n (pc := 13) d_ND_liesWithin_13 rfl rfl ?_
      refine fr_get (pc := 14) d_ND_liesWithin_14 fg_ND_13 h1 h2 ?_
      refine fr_astore_n (pc := 17) (L2 := [(0, .ref a), (1, .ref b), (2, .ref p)]) d_ND_liesWithin_17 rfl (by decide) rfl ?_
      refine fr_goto (pc := 18) (tgt := 2) d_ND_liesWithin_18 (by decide) ?_
      rw [show decide (b = x ∨ b ∈ p :: t) = decide (b = p ∨ b ∈ t) by rw [decide_eq_decide, List.mem_cons]; simp [hne]]
      exact ih p h3
    · have heq : b = x := (Option.some.inj h9).symm
      refine fr_iconst (pc := 11) (v := 1) d_ND_liesWithin_11 (by decide) ?_
      refine fr_st (st2 := [.int (bI (decide (b = x ∨ b ∈ (p :: t))))]) (by rw [decide_eq_true (Or.inl heq)]; rfl) ?_
      exact fr_zret rfl (by first | exact bI_01 _ | exact Or.inl rfl | exact Or.inr rfl) d_ND_liesWithin_12 ⟨rfl, rfl⟩
theorem c_ND_lies {g : fw_G} {nc ns : Nat} {w : fw_W} {a b : Nat} {l : List Nat} (h : nd_cl w a l) : fw_R g m_ND_liesWithin (fw_pv (.int (bI (decide (b = a ∨ b ∈ l)))) w) nc ns w 0 [(0, .ref a), (1, .ref b)] [] := by
  refine fr_aload_n (pc := 0) d_ND_liesWithin_0 rfl rfl ?_
  refine fr_astore_n (pc := 1) (L2 := [(0, .ref a), (1, .ref b), (2, .ref a)]) d_ND_liesWithin_1 rfl (by decide) rfl ?_
  exact c_ND_lies_l l a h
theorem c_ND_next {g : fw_G} {nc ns : Nat} {w : fw_W} {a : Nat} {fs : List Value} {bl : Bool} {pr : Option Nat} (h1 : w a = some (.inr (2, fs))) (h2 : fs[5]? = some (.int (bI bl))) (h3 : fs[3]? = some (va_rf pr)) : fw_R g m_ND_nextLevel (fw_pv (va_rf (if bl then none else pr)) w) nc ns w 0 [(0, .ref a)] [] := by
  refine fr_aload_n (pc := 0) d_ND_nextLevel_0 rfl rfl ?_
  refine fr_get (pc := 1) d_ND_nextLevel_1 fg_ND_34 h1 h2 ?_
  refine fr_if_eq (pc := 4) (tgt := 11) d_ND_nextLevel_4 (by decide) (fun h => ?_) (fun h => ?_)
  · have hb := bI_0.mp h
    subst hb
    refine fr_aload_n (pc := 11) d_ND_nextLevel_11 rfl rfl ?_
    refine fr_get (pc := 12) d_ND_nextLevel_12 fg_ND_13 h1 h3 ?_
    exact fr_aret rfl (Or.inl ⟨_, rfl⟩) (by cases pr <;> first | exact Or.inl rfl | exact Or.inr ⟨_, rfl⟩) d_ND_nextLevel_15 ⟨rfl, rfl⟩
  · have hb : bl = true := ts_nf (fun q => h (bI_0.mpr q))
    subst hb
    refine fr_null (pc := 7) d_ND_nextLevel_7 ?_
    refine fr_goto (pc := 8) (tgt := 15) d_ND_nextLevel_8 (by decide) ?_
    exact fr_aret rfl (Or.inl ⟨_, rfl⟩) (by first | exact Or.inl rfl | exact Or.inr ⟨_, rfl⟩) d_ND_nextLevel_15 ⟨rfl, rfl⟩
theorem c_EN_gives {g : fw_G} {nc ns : Nat} {w : fw_W} {a b r : Nat} {fs : List Value} (h1 : w a = some (.inr (3, fs))) (h2 : fs[3]? = some (.int (nI b))) (hb : b < 2 ^ 31) (hr : r < 64) : fw_R g m_EN_gives (fw_pv (.int (bI (b.testBit r))) w) nc ns w 0 [(0, .ref a), (1, .int (nI r))] [] := by
  refine fr_aload_n (pc := 0) d_EN_gives_0 rfl rfl ?_
  refine fr_get (pc := 1) d_EN_gives_1 fg_EN_22 h1 h2 ?_
  refine fr_i2l (pc := 4) d_EN_gives_4 rfl ?_
  refine fr_iload_n (pc := 5) d_EN_gives_5 rfl rfl ?_
  rw [← bb_i2l hb hr]
  refine fr_calls_p (pc := 6) (nc := nc) (ns := ns) (N := m_FR_isSet) (rest := []) (as := [.long (nI b).toInt64, .int (nI r)]) d_EN_gives_6 k_FR_isSet lk_EN_28 sc_FR_isSet np_FR_isSet ⟨by decide, by decide, Nat.le_of_ble_eq_true rfl⟩ (Nat.le_of_ble_eq_true rfl) (c_FR_isSet hr) rfl ?_
  exact fr_zret rfl (by first | exact bI_01 _ | exact Or.inl rfl | exact Or.inr rfl) d_EN_gives_9 ⟨rfl, rfl⟩
def er (fl : Nat) (same fo par : Bool) : Bool := if same then fl.testBit 0 else (if fo then fl.testBit 1 else fl.testBit 2) && (!fl.testBit 3 || par)
theorem fl_and : ∀ fl, fl < 16 → ((nI fl &&& 1 = 0 ↔ fl.testBit 0 = false) ∧ (nI fl &&& 2 = 0 ↔ fl.testBit 1 = false) ∧ (nI fl &&& 4 = 0 ↔ fl.testBit 2 = false) ∧ (nI fl &&& 8 = 0 ↔ fl.testBit 3 = false)) := by decide +kernel
theorem c_EN_reaches {g : fw_G} {nc ns : Nat} {w : fw_W} {e h n fl : Nat} {fs ps : List Value} {fo : Bool} {pr : Option Nat} (h1 : w e = some (.inr (3, fs))) (h2 : fs[4]? = some (.int (nI fl))) (hfl : fl < 16) (h3 : w n = some (.inr (2, ps))) (h4 : ps[1]? = some (.int (bI fo))) (h5 : ps[3]? = some (va_rf pr)) :
    fw_R g m_EN_reaches (fw_pv (.int (bI (er fl (decide (n = h)) fo (decide (pr = some h))))) w) nc ns w 0 [(0, .ref e), (1, .ref h), (2, .ref n)] [] := by
  obtain ⟨q0, q1, q2, q3⟩ := fl_and fl hfl
  refine fr_aload_n (pc := 0) d_EN_reaches_0 rfl rfl ?_
  refine fr_aload_n (pc := 1) d_EN_reaches_1 rfl rfl ?_
  refine fr_acmp_ne (pc := 2) (tgt := 20) (ry := (some h)) (rx := (some n)) d_EN_reaches_2 (by decide) (fun b2 => ?_) (fun b2 => ?_)
  · refine fr_aload_n (pc := 20) d_EN_reaches_20 rfl rfl ?_
    refine fr_get (pc := 21) (v := .int (bI fo)) d_EN_reaches_21 fg_EN_32 h3 h4 ?_
    refine fr_if_eq (pc := 24) (tgt := 31) d_EN_reaches_24 (by decide) (fun b24 => ?_) (fun b24 => ?_)
    · refine fr_iconst (pc := 31) (v := 4) d_EN_reaches_31 (by decide) ?_
      refine fr_istore_n (pc := 32) (L2 := [(0, .ref e), (1, .ref h), (2, .ref n), (3, .int 4)]) d_EN_reaches_32 rfl (by decide) rfl ?_
      refine fr_aload_n (pc := 33) d_EN_reaches_33 rfl rfl ?_
      refine fr_get (pc := 34) (v := .int (nI fl)) d_EN_reaches_34 fg_EN_25 h1 h2 ?_
      refine fr_iload_n (pc := 37) d_EN_reaches_37 rfl rfl ?_
      refine fr_iand (pc := 38) d_EN_reaches_38 ?_
      refine fr_if_eq (pc := 39) (tgt := 64) d_EN_reaches_39 (by decide) (fun b39 => ?_) (fun b39 => ?_)
      · refine fr_iconst (pc := 64) (v := 0) d_EN_reaches_64 (by decide) ?_
        refine fr_st (st2 := [.int (bI (er fl (decide (n = h)) fo (decide (pr = some h))))]) (by rw [show er fl (decide (n = h)) fo (decide (pr = some h)) = false from by simp_all [er, bI_0]]; rfl) ?_
        exact fr_zret rfl (by first | exact bI_01 _ | exact Or.inl rfl | exact Or.inr rfl) d_EN_reaches_65 ⟨rfl, rfl⟩
      · refine fr_aload_n (pc := 42) d_EN_reaches_42 rfl rfl ?_
        refine fr_get (pc := 43) (v := .int (nI fl)) d_EN_reaches_43 fg_EN_25 h1 h2 ?_
        refine fr_bipush (pc := 46) (v := 8) d_EN_reaches_46 (by decide) ?_
        refine fr_iand (pc := 48) d_EN_reaches_48 ?_
        refine fr_if_eq (pc := 49) (tgt := 60) d_EN_reaches_49 (by decide) (fun b49 => ?_) (fun b49 => ?_)
        · refine fr_iconst (pc := 60) (v := 1) d_EN_reaches_60 (by decide) ?_
          refine fr_goto (pc := 61) (tgt := 65) d_EN_reaches_61 (by decide) ?_
          refine fr_st (st2 := [.int (bI (er fl (decide (n = h)) fo (decide (pr = some h))))]) (by rw [show er fl (decide (n = h)) fo (decide (pr = some h)) = true from by simp_all [er, bI_0]]; rfl) ?_
          exact fr_zret rfl (by first | exact bI_01 _ | exact Or.inl rfl | exact Or.inr rfl) d_EN_reaches_65 ⟨rfl, rfl⟩
        · refine fr_aload_n (pc := 52) d_EN_reaches_52 rfl rfl ?_
          refine fr_get (pc := 53) (v := va_rf pr) d_EN_reaches_53 fg_EN_37 h3 h5 ?_
          refine fr_aload_n (pc := 56) d_EN_reaches_56 rfl rfl ?_
          refine fr_acmp_ne (pc := 57) (tgt := 64) (ry := (some h)) (rx := pr) d_EN_reaches_57 (by decide) (fun b57 => ?_) (fun b57 => ?_)
          · refine fr_iconst (pc := 64) (v := 0) d_EN_reaches_64 (by decide) ?_
            refine fr_st (st2 := [.int (bI (er fl (decide (n = h)) fo (decide (pr = some h))))]) (by rw [show er fl (decide (n = h)) fo (decide (pr = some h)) = false from by simp_all [er, bI_0]]; rfl) ?_
            exact fr_zret rfl (by first | exact bI_01 _ | exact Or.inl rfl | exact Or.inr rfl) d_EN_reaches_65 ⟨rfl, rfl⟩
          · refine fr_iconst (pc := 60) (v := 1) d_EN_reaches_60 (by decide) ?_
            refine fr_goto (pc := 61) (tgt := 65) d_EN_reaches_61 (by decide) ?_
            refine fr_st (st2 := [.int (bI (er fl (decide (n = h)) fo (decide (pr = some h))))]) (by rw [show er fl (decide (n = h)) fo (decide (pr = some h)) = true from by simp_all [er, bI_0]]; rfl) ?_
            exact fr_zret rfl (by first | exact bI_01 _ | exact Or.inl rfl | exact Or.inr rfl) d_EN_reaches_65 ⟨rfl, rfl⟩
    · refine fr_iconst (pc := 27) (v := 2) d_EN_reaches_27 (by decide) ?_
      refine fr_goto (pc := 28) (tgt := 32) d_EN_reaches_28 (by decide) ?_
      refine fr_istore_n (pc := 32) (L2 := [(0, .ref e), (1, .ref h), (2, .ref n), (3, .int 2)]) d_EN_reaches_32 rfl (by decide) rfl ?_
      refine fr_aload_n (pc := 33) d_EN_reaches_33 rfl rfl ?_
      refine fr_get (pc := 34) (v := .int (nI fl)) d_EN_reaches_34 fg_EN_25 h1 h2 ?_
      refine fr_iload_n (pc := 37) d_EN_reaches_37 rfl rfl ?_
      refine fr_iand (pc := 38) d_EN_reaches_38 ?_
      refine fr_if_eq (pc := 39) (tgt := 64) d_EN_reaches_39 (by decide) (fun b39 => ?_) (fun b39 => ?_)
      · refine fr_iconst (pc := 64) (v := 0) d_EN_reaches_64 (by decide) ?_
        refine fr_st (st2 := [.int (bI (er fl (decide (n = h)) fo (decide (pr = some h))))]) (by rw [show er fl (decide (n = h)) fo (decide (pr = some h)) = false from by simp_all [er, bI_0]]; rfl) ?_
        exact fr_zret rfl (by first | exact bI_01 _ | exact Or.inl rfl | exact Or.inr rfl) d_EN_reaches_65 ⟨rfl, rfl⟩
      · refine fr_aload_n (pc := 42) d_EN_reaches_42 rfl rfl ?_
        refine fr_get (pc := 43) (v := .int (nI fl)) d_EN_reaches_43 fg_EN_25 h1 h2 ?_
        refine fr_bipush (pc := 46) (v := 8) d_EN_reaches_46 (by decide) ?_
        refine fr_iand (pc := 48) d_EN_reaches_48 ?_
        refine fr_if_eq (pc := 49) (tgt := 60) d_EN_reaches_49 (by decide) (fun b49 => ?_) (fun b49 => ?_)
        · refine fr_iconst (pc := 60) (v := 1) d_EN_reaches_60 (by decide) ?_
          refine fr_goto (pc := 61) (tgt := 65) d_EN_reaches_61 (by decide) ?_
          refine fr_st (st2 := [.int (bI (er fl (decide (n = h)) fo (decide (pr = some h))))]) (by rw [show er fl (decide (n = h)) fo (decide (pr = some h)) = true from by simp_all [er, bI_0]]; rfl) ?_
          exact fr_zret rfl (by first | exact bI_01 _ | exact Or.inl rfl | exact Or.inr rfl) d_EN_reaches_65 ⟨rfl, rfl⟩
        · refine fr_aload_n (pc := 52) d_EN_reaches_52 rfl rfl ?_
          refine fr_get (pc := 53) (v := va_rf pr) d_EN_reaches_53 fg_EN_37 h3 h5 ?_
          refine fr_aload_n (pc := 56) d_EN_reaches_56 rfl rfl ?_
          refine fr_acmp_ne (pc := 57) (tgt := 64) (ry := (some h)) (rx := pr) d_EN_reaches_57 (by decide) (fun b57 => ?_) (fun b57 => ?_)
          · refine fr_iconst (pc := 64) (v := 0) d_EN_reaches_64 (by decide) ?_
            refine fr_st (st2 := [.int (bI (er fl (decide (n = h)) fo (decide (pr = some h))))]) (by rw [show er fl (decide (n = h)) fo (decide (pr = some h)) = false from by simp_all [er, bI_0]]; rfl) ?_
            exact fr_zret rfl (by first | exact bI_01 _ | exact Or.inl rfl | exact Or.inr rfl) d_EN_reaches_65 ⟨rfl, rfl⟩
          · refine fr_iconst (pc := 60) (v := 1) d_EN_reaches_60 (by decide) ?_
            refine fr_goto (pc := 61) (tgt := 65) d_EN_reaches_61 (by decide) ?_
            refine fr_st (st2 := [.int (bI (er fl (decide (n = h)) fo (decide (pr = some h))))]) (by rw [show er fl (decide (n = h)) fo (decide (pr = some h)) = true from by simp_all [er, bI_0]]; rfl) ?_
            exact fr_zret rfl (by first | exact bI_01 _ | exact Or.inl rfl | exact Or.inr rfl) d_EN_reaches_65 ⟨rfl, rfl⟩
  · refine fr_aload_n (pc := 5) d_EN_reaches_5 rfl rfl ?_
    refine fr_get (pc := 6) (v := .int (nI fl)) d_EN_reaches_6 fg_EN_25 h1 h2 ?_
    refine fr_iconst (pc := 9) (v := 1) d_EN_reaches_9 (by decide) ?_
    refine fr_iand (pc := 10) d_EN_reaches_10 ?_
    refine fr_if_eq (pc := 11) (tgt := 18) d_EN_reaches_11 (by decide) (fun b11 => ?_) (fun b11 => ?_)
    · refine fr_iconst (pc := 18) (v := 0) d_EN_reaches_18 (by decide) ?_
      refine fr_st (st2 := [.int (bI (er fl (decide (n = h)) fo (decide (pr = some h))))]) (by rw [show er fl (decide (n = h)) fo (decide (pr = some h)) = false from by simp_all [er, bI_0]]; rfl) ?_
      exact fr_zret rfl (by first | exact bI_01 _ | exact Or.inl rfl | exact Or.inr rfl) d_EN_reaches_19 ⟨rfl, rfl⟩
    · refine fr_iconst (pc := 14) (v := 1) d_EN_reaches_14 (by decide) ?_
      refine fr_goto (pc := 15) (tgt := 19) d_EN_reaches_15 (by decide) ?_
      refine fr_st (st2 := [.int (bI (er fl (decide (n = h)) fo (decide (pr = some h))))]) (by rw [show er fl (decide (n = h)) fo (decide (pr = some h)) = true from by simp_all [er, bI_0]]; rfl) ?_
      exact fr_zret rfl (by first | exact bI_01 _ | exact Or.inl rfl | exact Or.inr rfl) d_EN_reaches_19 ⟨rfl, rfl⟩
theorem c_EN_init {g : fw_G} {nc ns : Nat} {w : fw_W} {e wh rb fl : Nat} {al ig : Bool} (h1 : w e = some (.inr (3, [.int 0, .int 0, .int 0, .int 0, .int 0]))) : fw_R g m_EN_init (fun r u => r = .inl none ∧ u = fw_up w e (.inr (3, [.int (bI al), .int (nI wh), .int (bI ig), .int (nI rb), .int (nI fl)]))) nc ns w 0 [(0, .ref e), (1, .int (bI al)), (2, .int (nI wh)), (3, .int (bI ig)), (4, .int (nI rb)), (5, .int (nI fl))] [] := by
  refine fr_aload_n (pc := 0) d_EN_init_0 rfl rfl ?_
  refine fr_objInit (pc := 1) d_EN_init_1 (fw_t 391 (by decide +kernel)) (fw_t 28 (by decide +kernel)) (fw_t 29 (by decide +kernel)) (by decide) (Nat.le_of_ble_eq_true rfl) ?_
  refine fr_aload_n (pc := 4) d_EN_init_4 rfl rfl ?_
  refine fr_iload_n (pc := 5) d_EN_init_5 rfl rfl ?_
  refine fr_put (pc := 6) (fs2 := [.int (bI al), .int 0, .int 0, .int 0, .int 0]) d_EN_init_6 fp_EN_init_9 h1 (Nat.le_of_ble_eq_true rfl) (bI_nar _) (bI_fit _) rfl ?_
  refine fr_aload_n (pc := 9) d_EN_init_9 rfl rfl ?_
  refine fr_iload_n (pc := 10) d_EN_init_10 rfl rfl ?_
  refine fr_put (pc := 11) (fs2 := [.int (bI al), .int (nI wh), .int 0, .int 0, .int 0]) d_EN_init_11 fp_EN_init_15 fw_up_self (Nat.le_of_ble_eq_true rfl) rfl rfl rfl ?_
  refine fr_aload_n (pc := 14) d_EN_init_14 rfl rfl ?_
  refine fr_iload_n (pc := 15) d_EN_init_15 rfl rfl ?_
  refine fr_put (pc := 16) (fs2 := [.int (bI al), .int (nI wh), .int (bI ig), .int 0, .int 0]) d_EN_init_16 fp_EN_init_19 fw_up_self (Nat.le_of_ble_eq_true rfl) (bI_nar _) (bI_fit _) rfl ?_
  refine fr_aload_n (pc := 19) d_EN_init_19 rfl rfl ?_
  refine fr_iload (pc := 20) d_EN_init_20 rfl ?_
  refine fr_put (pc := 22) (fs2 := [.int (bI al), .int (nI wh), .int (bI ig), .int (nI rb), .int 0]) d_EN_init_22 fp_EN_init_22 fw_up_self (Nat.le_of_ble_eq_true rfl) rfl rfl rfl ?_
  refine fr_aload_n (pc := 25) d_EN_init_25 rfl rfl ?_
  refine fr_iload (pc := 26) d_EN_init_26 rfl ?_
  refine fr_put (pc := 28) (fs2 := [.int (bI al), .int (nI wh), .int (bI ig), .int (nI rb), .int (nI fl)]) d_EN_init_28 fp_EN_init_25 fw_up_self (Nat.le_of_ble_eq_true rfl) rfl rfl rfl ?_
  rw [fw_uu, fw_uu, fw_uu, fw_uu]
  exact fr_vret rfl d_EN_init_31 ⟨rfl, rfl⟩

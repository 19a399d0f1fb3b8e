abbrev m_GR_hasMember : fw_M := (⟨"FolderRights$Groups", "hasMember", "(IIZ)Z"⟩, prog_3_method_2_code, 4, (some .boolean), { frames := 1, cells := 0, slots := 0, locals := 22 }, [])
theorem d_GR_hasMember_0 : decode m_GR_hasMember.2.1 0 = .ok (.iload_n 3, 1) := by decide +kernel
theorem d_GR_hasMember_1 : decode m_GR_hasMember.2.1 1 = .ok (.ifCond .eq 12, 3) := by decide +kernel
theorem d_GR_hasMember_4 : decode m_GR_hasMember.2.1 4 = .ok (.aload_n 0, 1) := by decide +kernel
theorem d_GR_hasMember_5 : decode m_GR_hasMember.2.1 5 = .ok (.getfield 15, 3) := by decide +kernel
theorem d_GR_hasMember_8 : decode m_GR_hasMember.2.1 8 = .ok (.iload_n 1, 1) := by decide +kernel
theorem d_GR_hasMember_9 : decode m_GR_hasMember.2.1 9 = .ok (.laload, 1) := by decide +kernel
theorem d_GR_hasMember_10 : decode m_GR_hasMember.2.1 10 = .ok (.goto 9, 3) := by decide +kernel
theorem d_GR_hasMember_13 : decode m_GR_hasMember.2.1 13 = .ok (.aload_n 0, 1) := by decide +kernel
theorem d_GR_hasMember_14 : decode m_GR_hasMember.2.1 14 = .ok (.getfield 9, 3) := by decide +kernel
theorem d_GR_hasMember_17 : decode m_GR_hasMember.2.1 17 = .ok (.iload_n 1, 1) := by decide +kernel
theorem d_GR_hasMember_18 : decode m_GR_hasMember.2.1 18 = .ok (.laload, 1) := by decide +kernel
theorem d_GR_hasMember_19 : decode m_GR_hasMember.2.1 19 = .ok (.iload_n 2, 1) := by decide +kernel
theorem d_GR_hasMember_20 : decode m_GR_hasMember.2.1 20 = .ok (.invokestatic 24, 3) := by decide +kernel
theorem d_GR_hasMember_23 : decode m_GR_hasMember.2.1 23 = .ok (.ireturn, 1) := by decide +kernel
theorem k_GR_hasMember : fw_cal m_GR_hasMember := ⟨by decide +kernel, by decide +kernel, (fw_t 2 (by decide +kernel)), Or.inl ⟨rfl, fw_t 269 (by decide +kernel)⟩⟩
abbrev m_GR_wouldHoldItself : fw_M := (⟨"FolderRights$Groups", "wouldHoldItself", "(II)Z"⟩, prog_3_method_3_code, 3, (some .boolean), { frames := 1, cells := 0, slots := 0, locals := 22 }, [])
theorem d_GR_wouldHoldItself_0 : decode m_GR_wouldHoldItself.2.1 0 = .ok (.iload_n 1, 1) := by decide +kernel
theorem d_GR_wouldHoldItself_1 : decode m_GR_wouldHoldItself.2.1 1 = .ok (.iload_n 2, 1) := by decide +kernel
theorem d_GR_wouldHoldItself_2 : decode m_GR_wouldHoldItself.2.1 2 = .ok (.if_icmp .eq 16, 3) := by decide +kernel
theorem d_GR_wouldHoldItself_5 : decode m_GR_wouldHoldItself.2.1 5 = .ok (.aload_n 0, 1) := by decide +kernel
theorem d_GR_wouldHoldItself_6 : decode m_GR_wouldHoldItself.2.1 6 = .ok (.getfield 18, 3) := by decide +kernel
theorem d_GR_wouldHoldItself_9 : decode m_GR_wouldHoldItself.2.1 9 = .ok (.iload_n 2, 1) := by decide +kernel
theorem d_GR_wouldHoldItself_10 : decode m_GR_wouldHoldItself.2.1 10 = .ok (.laload, 1) := by decide +kernel
theorem d_GR_wouldHoldItself_11 : decode m_GR_wouldHoldItself.2.1 11 = .ok (.iload_n 1, 1) := by decide +kernel
theorem d_GR_wouldHoldItself_12 : decode m_GR_wouldHoldItself.2.1 12 = .ok (.invokestatic 24, 3) := by decide +kernel
theorem d_GR_wouldHoldItself_15 : decode m_GR_wouldHoldItself.2.1 15 = .ok (.ifCond .eq 7, 3) := by decide +kernel
theorem d_GR_wouldHoldItself_18 : decode m_GR_wouldHoldItself.2.1 18 = .ok (.iconst 1, 1) := by decide +kernel
theorem d_GR_wouldHoldItself_19 : decode m_GR_wouldHoldItself.2.1 19 = .ok (.goto 4, 3) := by decide +kernel
theorem d_GR_wouldHoldItself_22 : decode m_GR_wouldHoldItself.2.1 22 = .ok (.iconst 0, 1) := by decide +kernel
theorem d_GR_wouldHoldItself_23 : decode m_GR_wouldHoldItself.2.1 23 = .ok (.ireturn, 1) := by decide +kernel
theorem k_GR_wouldHoldItself : fw_cal m_GR_wouldHoldItself := ⟨by decide +kernel, by decide +kernel, (fw_t 2 (by decide +kernel)), Or.inl ⟨rfl, fw_t 261 (by decide +kernel)⟩⟩
abbrev m_GR_findGroupsIn : fw_M := (⟨"FolderRights$Groups", "findGroupsIn", "()V"⟩, prog_3_method_6_code, 3, none, { frames := 1, cells := 0, slots := 0, locals := 22 }, [])
theorem d_GR_findGroupsIn_0 : decode m_GR_findGroupsIn.2.1 0 = .ok (.iconst 0, 1) := by decide +kernel
theorem d_GR_findGroupsIn_1 : decode m_GR_findGroupsIn.2.1 1 = .ok (.istore_n 1, 1) := by decide +kernel
theorem d_GR_findGroupsIn_2 : decode m_GR_findGroupsIn.2.1 2 = .ok (.iload_n 1, 1) := by decide +kernel
theorem d_GR_findGroupsIn_3 : decode m_GR_findGroupsIn.2.1 3 = .ok (.aload_n 0, 1) := by decide +kernel
theorem d_GR_findGroupsIn_4 : decode m_GR_findGroupsIn.2.1 4 = .ok (.getfield 34, 3) := by decide +kernel
theorem d_GR_findGroupsIn_7 : decode m_GR_findGroupsIn.2.1 7 = .ok (.if_icmp .ge 21, 3) := by decide +kernel
theorem d_GR_findGroupsIn_10 : decode m_GR_findGroupsIn.2.1 10 = .ok (.aload_n 0, 1) := by decide +kernel
theorem d_GR_findGroupsIn_11 : decode m_GR_findGroupsIn.2.1 11 = .ok (.getfield 18, 3) := by decide +kernel
theorem d_GR_findGroupsIn_14 : decode m_GR_findGroupsIn.2.1 14 = .ok (.iload_n 1, 1) := by decide +kernel
theorem d_GR_findGroupsIn_15 : decode m_GR_findGroupsIn.2.1 15 = .ok (.aload_n 0, 1) := by decide +kernel
theorem d_GR_findGroupsIn_16 : decode m_GR_findGroupsIn.2.1 16 = .ok (.getfield 15, 3) := by decide +kernel
theorem d_GR_findGroupsIn_19 : decode m_GR_findGroupsIn.2.1 19 = .ok (.iload_n 1, 1) := by decide +kernel
theorem d_GR_findGroupsIn_20 : decode m_GR_findGroupsIn.2.1 20 = .ok (.laload, 1) := by decide +kernel
theorem d_GR_findGroupsIn_21 : decode m_GR_findGroupsIn.2.1 21 = .ok (.lastore, 1) := by decide +kernel
theorem d_GR_findGroupsIn_22 : decode m_GR_findGroupsIn.2.1 22 = .ok (.iinc 1 1, 3) := by decide +kernel
theorem d_GR_findGroupsIn_25 : decode m_GR_findGroupsIn.2.1 25 = .ok (.goto (-23), 3) := by decide +kernel
theorem d_GR_findGroupsIn_28 : decode m_GR_findGroupsIn.2.1 28 = .ok (.iconst 0, 1) := by decide +kernel
theorem d_GR_findGroupsIn_29 : decode m_GR_findGroupsIn.2.1 29 = .ok (.istore_n 1, 1) := by decide +kernel
theorem d_GR_findGroupsIn_30 : decode m_GR_findGroupsIn.2.1 30 = .ok (.iload_n 1, 1) := by decide +kernel
theorem d_GR_findGroupsIn_31 : decode m_GR_findGroupsIn.2.1 31 = .ok (.aload_n 0, 1) := by decide +kernel
theorem d_GR_findGroupsIn_32 : decode m_GR_findGroupsIn.2.1 32 = .ok (.getfield 34, 3) := by decide +kernel
theorem d_GR_findGroupsIn_35 : decode m_GR_findGroupsIn.2.1 35 = .ok (.if_icmp .ge 53, 3) := by decide +kernel
theorem d_GR_findGroupsIn_38 : decode m_GR_findGroupsIn.2.1 38 = .ok (.iconst 0, 1) := by decide +kernel
theorem d_GR_findGroupsIn_39 : decode m_GR_findGroupsIn.2.1 39 = .ok (.istore_n 2, 1) := by decide +kernel
theorem d_GR_findGroupsIn_40 : decode m_GR_findGroupsIn.2.1 40 = .ok (.iload_n 2, 1) := by decide +kernel
theorem d_GR_findGroupsIn_41 : decode m_GR_findGroupsIn.2.1 41 = .ok (.aload_n 0, 1) := by decide +kernel
theorem d_GR_findGroupsIn_42 : decode m_GR_findGroupsIn.2.1 42 = .ok (.getfield 34, 3) := by decide +kernel
theorem d_GR_findGroupsIn_45 : decode m_GR_findGroupsIn.2.1 45 = .ok (.if_icmp .ge 37, 3) := by decide +kernel
theorem d_GR_findGroupsIn_48 : decode m_GR_findGroupsIn.2.1 48 = .ok (.aload_n 0, 1) := by decide +kernel
theorem d_GR_findGroupsIn_49 : decode m_GR_findGroupsIn.2.1 49 = .ok (.getfield 18, 3) := by decide +kernel
theorem d_GR_findGroupsIn_52 : decode m_GR_findGroupsIn.2.1 52 = .ok (.iload_n 2, 1) := by decide +kernel
theorem d_GR_findGroupsIn_53 : decode m_GR_findGroupsIn.2.1 53 = .ok (.laload, 1) := by decide +kernel
theorem d_GR_findGroupsIn_54 : decode m_GR_findGroupsIn.2.1 54 = .ok (.iload_n 1, 1) := by decide +kernel
theorem d_GR_findGroupsIn_55 : decode m_GR_findGroupsIn.2.1 55 = .ok (.invokestatic 24, 3) := by decide +kernel
theorem d_GR_findGroupsIn_58 : decode m_GR_findGroupsIn.2.1 58 = .ok (.ifCond .eq 18, 3) := by decide +kernel
theorem d_GR_findGroupsIn_61 : decode m_GR_findGroupsIn.2.1 61 = .ok (.aload_n 0, 1) := by decide +kernel
theorem d_GR_findGroupsIn_62 : decode m_GR_findGroupsIn.2.1 62 = .ok (.getfield 18, 3) := by decide +kernel
theorem d_GR_findGroupsIn_65 : decode m_GR_findGroupsIn.2.1 65 = .ok (.iload_n 2, 1) := by decide +kernel
theorem d_GR_findGroupsIn_66 : decode m_GR_findGroupsIn.2.1 66 = .ok (.dup2, 1) := by decide +kernel
theorem d_GR_findGroupsIn_67 : decode m_GR_findGroupsIn.2.1 67 = .ok (.laload, 1) := by decide +kernel
theorem d_GR_findGroupsIn_68 : decode m_GR_findGroupsIn.2.1 68 = .ok (.aload_n 0, 1) := by decide +kernel
theorem d_GR_findGroupsIn_69 : decode m_GR_findGroupsIn.2.1 69 = .ok (.getfield 18, 3) := by decide +kernel
theorem d_GR_findGroupsIn_72 : decode m_GR_findGroupsIn.2.1 72 = .ok (.iload_n 1, 1) := by decide +kernel
theorem d_GR_findGroupsIn_73 : decode m_GR_findGroupsIn.2.1 73 = .ok (.laload, 1) := by decide +kernel
theorem d_GR_findGroupsIn_74 : decode m_GR_findGroupsIn.2.1 74 = .ok (.lor, 1) := by decide +kernel
theorem d_GR_findGroupsIn_75 : decode m_GR_findGroupsIn.2.1 75 = .ok (.lastore, 1) := by decide +kernel
theorem d_GR_findGroupsIn_76 : decode m_GR_findGroupsIn.2.1 76 = .ok (.iinc 2 1, 3) := by decide +kernel
theorem d_GR_findGroupsIn_79 : decode m_GR_findGroupsIn.2.1 79 = .ok (.goto (-39), 3) := by decide +kernel
theorem d_GR_findGroupsIn_82 : decode m_GR_findGroupsIn.2.1 82 = .ok (.iinc 1 1, 3) := by decide +kernel
theorem d_GR_findGroupsIn_85 : decode m_GR_findGroupsIn.2.1 85 = .ok (.goto (-55), 3) := by decide +kernel
theorem d_GR_findGroupsIn_88 : decode m_GR_findGroupsIn.2.1 88 = .ok (.return_, 1) := by decide +kernel
theorem k_GR_findGroupsIn : fw_cal m_GR_findGroupsIn := ⟨by decide +kernel, by decide +kernel, (fw_t 2 (by decide +kernel)), Or.inl ⟨rfl, fw_t 277 (by decide +kernel)⟩⟩
abbrev m_GR_findUsersIn : fw_M := (⟨"FolderRights$Groups", "findUsersIn", "()V"⟩, prog_3_method_7_code, 3, none, { frames := 1, cells := 0, slots := 0, locals := 22 }, [])
theorem d_GR_findUsersIn_0 : decode m_GR_findUsersIn.2.1 0 = .ok (.iconst 0, 1) := by decide +kernel
theorem d_GR_findUsersIn_1 : decode m_GR_findUsersIn.2.1 1 = .ok (.istore_n 1, 1) := by decide +kernel
theorem d_GR_findUsersIn_2 : decode m_GR_findUsersIn.2.1 2 = .ok (.iload_n 1, 1) := by decide +kernel
theorem d_GR_findUsersIn_3 : decode m_GR_findUsersIn.2.1 3 = .ok (.aload_n 0, 1) := by decide +kernel
theorem d_GR_findUsersIn_4 : decode m_GR_findUsersIn.2.1 4 = .ok (.getfield 34, 3) := by decide +kernel
theorem d_GR_findUsersIn_7 : decode m_GR_findUsersIn.2.1 7 = .ok (.if_icmp .ge 65, 3) := by decide +kernel
theorem d_GR_findUsersIn_10 : decode m_GR_findUsersIn.2.1 10 = .ok (.aload_n 0, 1) := by decide +kernel
theorem d_GR_findUsersIn_11 : decode m_GR_findUsersIn.2.1 11 = .ok (.getfield 21, 3) := by decide +kernel
theorem d_GR_findUsersIn_14 : decode m_GR_findUsersIn.2.1 14 = .ok (.iload_n 1, 1) := by decide +kernel
theorem d_GR_findUsersIn_15 : decode m_GR_findUsersIn.2.1 15 = .ok (.aload_n 0, 1) := by decide +kernel
theorem d_GR_findUsersIn_16 : decode m_GR_findUsersIn.2.1 16 = .ok (.getfield 9, 3) := by decide +kernel
theorem d_GR_findUsersIn_19 : decode m_GR_findUsersIn.2.1 19 = .ok (.iload_n 1, 1) := by decide +kernel
theorem d_GR_findUsersIn_20 : decode m_GR_findUsersIn.2.1 20 = .ok (.laload, 1) := by decide +kernel
theorem d_GR_findUsersIn_21 : decode m_GR_findUsersIn.2.1 21 = .ok (.lastore, 1) := by decide +kernel
theorem d_GR_findUsersIn_22 : decode m_GR_findUsersIn.2.1 22 = .ok (.iconst 0, 1) := by decide +kernel
theorem d_GR_findUsersIn_23 : decode m_GR_findUsersIn.2.1 23 = .ok (.istore_n 2, 1) := by decide +kernel
theorem d_GR_findUsersIn_24 : decode m_GR_findUsersIn.2.1 24 = .ok (.iload_n 2, 1) := by decide +kernel
theorem d_GR_findUsersIn_25 : decode m_GR_findUsersIn.2.1 25 = .ok (.aload_n 0, 1) := by decide +kernel
theorem d_GR_findUsersIn_26 : decode m_GR_findUsersIn.2.1 26 = .ok (.getfield 34, 3) := by decide +kernel
theorem d_GR_findUsersIn_29 : decode m_GR_findUsersIn.2.1 29 = .ok (.if_icmp .ge 37, 3) := by decide +kernel
theorem d_GR_findUsersIn_32 : decode m_GR_findUsersIn.2.1 32 = .ok (.aload_n 0, 1) := by decide +kernel
theorem d_GR_findUsersIn_33 : decode m_GR_findUsersIn.2.1 33 = .ok (.getfield 18, 3) := by decide +kernel
theorem d_GR_findUsersIn_36 : decode m_GR_findUsersIn.2.1 36 = .ok (.iload_n 1, 1) := by decide +kernel
theorem d_GR_findUsersIn_37 : decode m_GR_findUsersIn.2.1 37 = .ok (.laload, 1) := by decide +kernel
theorem d_GR_findUsersIn_38 : decode m_GR_findUsersIn.2.1 38 = .ok (.iload_n 2, 1) := by decide +kernel
theorem d_GR_findUsersIn_39 : decode m_GR_findUsersIn.2.1 39 = .ok (.invokestatic 24, 3) := by decide +kernel
theorem d_GR_findUsersIn_42 : decode m_GR_findUsersIn.2.1 42 = .ok (.ifCond .eq 18, 3) := by decide +kernel
theorem d_GR_findUsersIn_45 : decode m_GR_findUsersIn.2.1 45 = .ok (.aload_n 0, 1) := by decide +kernel
theorem d_GR_findUsersIn_46 : decode m_GR_findUsersIn.2.1 46 = .ok (.getfield 21, 3) := by decide +kernel
theorem d_GR_findUsersIn_49 : decode m_GR_findUsersIn.2.1 49 = .ok (.iload_n 1, 1) := by decide +kernel
theorem d_GR_findUsersIn_50 : decode m_GR_findUsersIn.2.1 50 = .ok (.dup2, 1) := by decide +kernel
theorem d_GR_findUsersIn_51 : decode m_GR_findUsersIn.2.1 51 = .ok (.laload, 1) := by decide +kernel
theorem d_GR_findUsersIn_52 : decode m_GR_findUsersIn.2.1 52 = .ok (.aload_n 0, 1) := by decide +kernel
theorem d_GR_findUsersIn_53 : decode m_GR_findUsersIn.2.1 53 = .ok (.getfield 9, 3) := by decide +kernel
theorem d_GR_findUsersIn_56 : decode m_GR_findUsersIn.2.1 56 = .ok (.iload_n 2, 1) := by decide +kernel
theorem d_GR_findUsersIn_57 : decode m_GR_findUsersIn.2.1 57 = .ok (.laload, 1) := by decide +kernel
theorem d_GR_findUsersIn_58 : decode m_GR_findUsersIn.2.1 58 = .ok (.lor, 1) := by decide +kernel
theorem d_GR_findUsersIn_59 : decode m_GR_findUsersIn.2.1 59 = .ok (.lastore, 1) := by decide +kernel
theorem d_GR_findUsersIn_60 : decode m_GR_findUsersIn.2.1 60 = .ok (.iinc 2 1, 3) := by decide +kernel
theorem d_GR_findUsersIn_63 : decode m_GR_findUsersIn.2.1 63 = .ok (.goto (-39), 3) := by decide +kernel
theorem d_GR_findUsersIn_66 : decode m_GR_findUsersIn.2.1 66 = .ok (.iinc 1 1, 3) := by decide +kernel
theorem d_GR_findUsersIn_69 : decode m_GR_findUsersIn.2.1 69 = .ok (.goto (-67), 3) := by decide +kernel
theorem d_GR_findUsersIn_72 : decode m_GR_findUsersIn.2.1 72 = .ok (.return_, 1) := by decide +kernel
theorem k_GR_findUsersIn : fw_cal m_GR_findUsersIn := ⟨by decide +kernel, by decide +kernel, (fw_t 2 (by decide +kernel)), Or.inl ⟨rfl, fw_t 281 (by decide +kernel)⟩⟩
abbrev m_GR_turnMember : fw_M := (⟨"FolderRights$Groups", "turnMember", "(IIZ)V"⟩, prog_3_method_4_code, 5, none, { frames := 2, cells := 0, slots := 0, locals := 44 }, [])
theorem d_GR_turnMember_0 : decode m_GR_turnMember.2.1 0 = .ok (.iload_n 3, 1) := by decide +kernel
theorem d_GR_turnMember_1 : decode m_GR_turnMember.2.1 1 = .ok (.ifCond .eq 10, 3) := by decide +kernel
theorem d_GR_turnMember_4 : decode m_GR_turnMember.2.1 4 = .ok (.aload_n 0, 1) := by decide +kernel
theorem d_GR_turnMember_5 : decode m_GR_turnMember.2.1 5 = .ok (.getfield 15, 3) := by decide +kernel
theorem d_GR_turnMember_8 : decode m_GR_turnMember.2.1 8 = .ok (.goto 7, 3) := by decide +kernel
theorem d_GR_turnMember_11 : decode m_GR_turnMember.2.1 11 = .ok (.aload_n 0, 1) := by decide +kernel
theorem d_GR_turnMember_12 : decode m_GR_turnMember.2.1 12 = .ok (.getfield 9, 3) := by decide +kernel
theorem d_GR_turnMember_15 : decode m_GR_turnMember.2.1 15 = .ok (.astore 4, 2) := by decide +kernel
theorem d_GR_turnMember_17 : decode m_GR_turnMember.2.1 17 = .ok (.aload 4, 2) := by decide +kernel
theorem d_GR_turnMember_19 : decode m_GR_turnMember.2.1 19 = .ok (.iload_n 1, 1) := by decide +kernel
theorem d_GR_turnMember_20 : decode m_GR_turnMember.2.1 20 = .ok (.dup2, 1) := by decide +kernel
theorem d_GR_turnMember_21 : decode m_GR_turnMember.2.1 21 = .ok (.laload, 1) := by decide +kernel
theorem d_GR_turnMember_22 : decode m_GR_turnMember.2.1 22 = .ok (.lconst 1, 1) := by decide +kernel
theorem d_GR_turnMember_23 : decode m_GR_turnMember.2.1 23 = .ok (.iload_n 2, 1) := by decide +kernel
theorem d_GR_turnMember_24 : decode m_GR_turnMember.2.1 24 = .ok (.lshl, 1) := by decide +kernel
theorem d_GR_turnMember_25 : decode m_GR_turnMember.2.1 25 = .ok (.lxor, 1) := by decide +kernel
theorem d_GR_turnMember_26 : decode m_GR_turnMember.2.1 26 = .ok (.lastore, 1) := by decide +kernel
theorem d_GR_turnMember_27 : decode m_GR_turnMember.2.1 27 = .ok (.aload_n 0, 1) := by decide +kernel
theorem d_GR_turnMember_28 : decode m_GR_turnMember.2.1 28 = .ok (.invokevirtual 28, 3) := by decide +kernel
theorem d_GR_turnMember_31 : decode m_GR_turnMember.2.1 31 = .ok (.aload_n 0, 1) := by decide +kernel
theorem d_GR_turnMember_32 : decode m_GR_turnMember.2.1 32 = .ok (.invokevirtual 31, 3) := by decide +kernel
theorem d_GR_turnMember_35 : decode m_GR_turnMember.2.1 35 = .ok (.return_, 1) := by decide +kernel
theorem k_GR_turnMember : fw_cal m_GR_turnMember := ⟨by decide +kernel, by decide +kernel, (fw_t 2 (by decide +kernel)), Or.inl ⟨rfl, fw_t 273 (by decide +kernel)⟩⟩
abbrev m_GR_init : fw_M := (⟨"FolderRights$Groups", "<init>", "()V"⟩, prog_3_method_1_code, 1, none, { frames := 1, cells := 4, slots := 96, locals := 20 }, [])
theorem d_GR_init_0 : decode m_GR_init.2.1 0 = .ok (.aload_n 0, 1) := by decide +kernel
theorem d_GR_init_1 : decode m_GR_init.2.1 1 = .ok (.invokespecial 3, 3) := by decide +kernel
theorem d_GR_init_4 : decode m_GR_init.2.1 4 = .ok (.aload_n 0, 1) := by decide +kernel
theorem d_GR_init_5 : decode m_GR_init.2.1 5 = .ok (.bipush 24, 2) := by decide +kernel
theorem d_GR_init_7 : decode m_GR_init.2.1 7 = .ok (.newarray .long, 2) := by decide +kernel
theorem d_GR_init_9 : decode m_GR_init.2.1 9 = .ok (.putfield 9, 3) := by decide +kernel
theorem d_GR_init_12 : decode m_GR_init.2.1 12 = .ok (.aload_n 0, 1) := by decide +kernel
theorem d_GR_init_13 : decode m_GR_init.2.1 13 = .ok (.bipush 24, 2) := by decide +kernel
theorem d_GR_init_15 : decode m_GR_init.2.1 15 = .ok (.newarray .long, 2) := by decide +kernel
theorem d_GR_init_17 : decode m_GR_init.2.1 17 = .ok (.putfield 15, 3) := by decide +kernel
theorem d_GR_init_20 : decode m_GR_init.2.1 20 = .ok (.aload_n 0, 1) := by decide +kernel
theorem d_GR_init_21 : decode m_GR_init.2.1 21 = .ok (.bipush 24, 2) := by decide +kernel
theorem d_GR_init_23 : decode m_GR_init.2.1 23 = .ok (.newarray .long, 2) := by decide +kernel
theorem d_GR_init_25 : decode m_GR_init.2.1 25 = .ok (.putfield 18, 3) := by decide +kernel
theorem d_GR_init_28 : decode m_GR_init.2.1 28 = .ok (.aload_n 0, 1) := by decide +kernel
theorem d_GR_init_29 : decode m_GR_init.2.1 29 = .ok (.bipush 24, 2) := by decide +kernel
theorem d_GR_init_31 : decode m_GR_init.2.1 31 = .ok (.newarray .long, 2) := by decide +kernel
theorem d_GR_init_33 : decode m_GR_init.2.1 33 = .ok (.putfield 21, 3) := by decide +kernel
theorem d_GR_init_36 : decode m_GR_init.2.1 36 = .ok (.return_, 1) := by decide +kernel
theorem k_GR_init : fw_cal m_GR_init := ⟨by decide +kernel, by decide +kernel, (fw_t 2 (by decide +kernel)), Or.inl ⟨rfl, fw_t 34 (by decide +kernel)⟩⟩
theorem fg_GR_15 : fw_fld "FolderRights$Groups" 15 1 2 := ⟨_, _, _, "FolderRights$Groups", rfl, by decide, fw_i1, Or.inl rfl, Or.inl (fw_t 39 (by decide +kernel))⟩
theorem fg_GR_9 : fw_fld "FolderRights$Groups" 9 1 1 := ⟨_, _, _, "FolderRights$Groups", rfl, by decide, fw_i1, Or.inl rfl, Or.inl (fw_t 38 (by decide +kernel))⟩
theorem lk_GR_24 : fw_lk "FolderRights$Groups" 24 ⟨"FolderRights", "isSet", "(JI)Z"⟩ := Or.inr ⟨"FolderRights", (fw_t 262 (by decide +kernel))⟩
theorem fg_GR_18 : fw_fld "FolderRights$Groups" 18 1 3 := ⟨_, _, _, "FolderRights$Groups", rfl, by decide, fw_i1, Or.inl rfl, Or.inl (fw_t 40 (by decide +kernel))⟩
theorem fg_GR_34 : fw_fld "FolderRights$Groups" 34 1 0 := ⟨_, _, _, "FolderRights$Groups", rfl, by decide, fw_i1, Or.inl rfl, Or.inl (fw_t 37 (by decide +kernel))⟩
theorem fg_GR_21 : fw_fld "FolderRights$Groups" 21 1 4 := ⟨_, _, _, "FolderRights$Groups", rfl, by decide, fw_i1, Or.inl rfl, Or.inl (fw_t 41 (by decide +kernel))⟩
theorem vc_GR_28 : fw_vc "FolderRights$Groups" 28 1 m_GR_findGroupsIn 0 := ⟨k_GR_findGroupsIn, Or.inl (fw_t 274 (by decide +kernel)), (fw_t 276 (by decide +kernel)), ⟨_, _, _, rfl, (fw_p 4 (by decide +kernel))⟩, by unfold fw_np; decide +kernel⟩
theorem vc_GR_31 : fw_vc "FolderRights$Groups" 31 1 m_GR_findUsersIn 0 := ⟨k_GR_findUsersIn, Or.inl (fw_t 278 (by decide +kernel)), (fw_t 280 (by decide +kernel)), ⟨_, _, _, rfl, (fw_p 5 (by decide +kernel))⟩, by unfold fw_np; decide +kernel⟩
theorem fp_GR_init_9 : fw_fpt m_GR_init 9 1 1 (.array .long) := ⟨_, _, _, "FolderRights$Groups", rfl, by decide, fw_i1, Or.inl rfl, ⟨fw_y1, fw_k1⟩, fw_n1, by decide +kernel, Or.inr ⟨rfl, rfl, rfl, (fw_t 38 (by decide +kernel))⟩⟩
theorem fp_GR_init_15 : fw_fpt m_GR_init 15 1 2 (.array .long) := ⟨_, _, _, "FolderRights$Groups", rfl, by decide, fw_i1, Or.inl rfl, ⟨fw_y1, fw_k1⟩, fw_n1, by decide +kernel, Or.inr ⟨rfl, rfl, rfl, (fw_t 39 (by decide +kernel))⟩⟩
theorem fp_GR_init_18 : fw_fpt m_GR_init 18 1 3 (.array .long) := ⟨_, _, _, "FolderRights$Groups", rfl, by decide, fw_i1, Or.inl rfl, ⟨fw_y1, fw_k1⟩, fw_n1, by decide +kernel, Or.inr ⟨rfl, rfl, rfl, (fw_t 40 (by decide +kernel))⟩⟩
theorem fp_GR_init_21 : fw_fpt m_GR_init 21 1 4 (.array .long) := ⟨_, _, _, "FolderRights$Groups", rfl, by decide, fw_i1, Or.inl rfl, ⟨fw_y1, fw_k1⟩, fw_n1, by decide +kernel, Or.inr ⟨rfl, rfl, rfl, (fw_t 41 (by decide +kernel))⟩⟩
abbrev gr_ar (g : fw_G) (f : Nat → Int64) : va_E := .inl (fw_c g 2, 24, .inr (.inl f))
def gr_at (g : fw_G) (w : fw_W) (a a1 a2 a3 a4 n : Nat) (f1 f2 f3 f4 : Nat → Int64) : Prop :=
  w a = some (.inr (1, [.int (nI n), .ref a1, .ref a2, .ref a3, .ref a4])) ∧ w a1 = some (gr_ar g f1) ∧ w a2 = some (gr_ar g f2) ∧ w a3 = some (gr_ar g f3) ∧ w a4 = some (gr_ar g f4) ∧ n ≤ 24 ∧
  a1 ≠ a2 ∧ a1 ≠ a3 ∧ a1 ≠ a4 ∧ a2 ≠ a3 ∧ a2 ≠ a4 ∧ a3 ≠ a4 ∧ a ≠ a1 ∧ a ≠ a2 ∧ a ≠ a3 ∧ a ≠ a4
theorem c_GR_has {g : fw_G} {nc ns : Nat} {w : fw_W} {a a1 a2 a3 a4 n : Nat} {f1 f2 f3 f4 : Nat → Int64} (h : gr_at g w a a1 a2 a3 a4 n f1 f2 f3 f4) {i j : Nat} {b : Bool} (hi : i < n) (hj : j < 64) : fw_R g m_GR_hasMember (fw_pv (.int (bI (bb ((if b then f2 else f1) i) j))) w) nc ns w 0 [(0, .ref a), (1, .int (nI i)), (2, .int (nI j)), (3, .int (bI b))] [] := by
  obtain ⟨h0, q1, q2, q3, q4, hn, n12, n13, n14, n23, n24, n34, m1, m2, m3, m4⟩ := h
  refine fr_iload_n (pc := 0) d_GR_hasMember_0 rfl rfl ?_
  refine fr_if_eq (pc := 1) (tgt := 13) d_GR_hasMember_1 (by decide) (fun b1 => ?_) (fun b1 => ?_)
  · have hb := bI_0.mp b1
    subst hb
    refine fr_aload_n (pc := 13) d_GR_hasMember_13 rfl rfl ?_
    refine fr_get (pc := 14) (v := .ref a1) d_GR_hasMember_14 fg_GR_9 h0 rfl ?_
    refine fr_iload_n (pc := 17) d_GR_hasMember_17 rfl rfl ?_
    refine fr_laldN (pc := 18) (k := i) (n := 24) (f := f1) d_GR_hasMember_18 q1 (by omega) (by decide) ?_
    refine fr_iload_n (pc := 19) d_GR_hasMember_19 rfl rfl ?_
    refine fr_calls_p (pc := 20) (nc := nc) (ns := ns) (N := m_FR_isSet) (rest := []) (as := [.long (f1 i), .int (nI j)]) (v := .int (bI (bb (f1 i) j))) d_GR_hasMember_20 k_FR_isSet lk_GR_24 sc_FR_isSet np_FR_isSet ⟨by decide, by decide, Nat.le_of_ble_eq_true rfl⟩ (Nat.le_of_ble_eq_true rfl) (c_FR_isSet hj) rfl ?_
    exact fr_zret rfl (by first | exact bI_01 _ | exact Or.inl rfl | exact Or.inr rfl) d_GR_hasMember_23 ⟨rfl, rfl⟩
  · have hb : b = true := ts_nf (fun q => b1 (bI_0.mpr q))
    subst hb
    refine fr_aload_n (pc := 4) d_GR_hasMember_4 rfl rfl ?_
    refine fr_get (pc := 5) (v := .ref a2) d_GR_hasMember_5 fg_GR_15 h0 rfl ?_
    refine fr_iload_n (pc := 8) d_GR_hasMember_8 rfl rfl ?_
    refine fr_laldN (pc := 9) (k := i) (n := 24) (f := f2) d_GR_hasMember_9 q2 (by omega) (by decide) ?_
    refine fr_goto (pc := 10) (tgt := 19) d_GR_hasMember_10 (by decide) ?_
    refine fr_iload_n (pc := 19) d_GR_hasMember_19 rfl rfl ?_
    refine fr_calls_p (pc := 20) (nc := nc) (ns := ns) (N := m_FR_isSet) (rest := []) (as := [.long (f2 i), .int (nI j)]) (v := .int (bI (bb (f2 i) j))) d_GR_hasMember_20 k_FR_isSet lk_GR_24 sc_FR_isSet np_FR_isSet ⟨by decide, by decide, Nat.le_of_ble_eq_true rfl⟩ (Nat.le_of_ble_eq_true rfl) (c_FR_isSet hj) rfl ?_
    exact fr_zret rfl (by first | exact bI_01 _ | exact Or.inl rfl | exact Or.inr rfl) d_GR_hasMember_23 ⟨rfl, rfl⟩
theorem c_GR_would {g : fw_G} {nc ns : Nat} {w : fw_W} {a a1 a2 a3 a4 n : Nat} {f1 f2 f3 f4 : Nat → Int64} (h : gr_at g w a a1 a2 a3 a4 n f1 f2 f3 f4) {i j : Nat} (hi : i < n) (hj : j < n) : fw_R g m_GR_wouldHoldItself (fw_pv (.int (bI (decide (i = j) || bb (f3 j) i))) w) nc ns w 0 [(0, .ref a), (1, .int (nI i)), (2, .int (nI j))] [] := by
  obtain ⟨h0, q1, q2, q3, q4, hn, n12, n13, n14, n23, n24, n34, m1, m2, m3, m4⟩ := h
  refine fr_iload_n (pc := 0) d_GR_wouldHoldItself_0 rfl rfl ?_
  refine fr_iload_n (pc := 1) d_GR_wouldHoldItself_1 rfl rfl ?_
  refine fr_icmp_eq (pc := 2) (tgt := 18) d_GR_wouldHoldItself_2 (by decide) (fun b2 => ?_) (fun b2 => ?_)
  · refine fr_iconst (pc := 18) (v := 1) d_GR_wouldHoldItself_18 (by decide) ?_
    refine fr_goto (pc := 19) (tgt := 23) d_GR_wouldHoldItself_19 (by decide) ?_
    have e9 : nI i = nI j ↔ i = j := ni_eq (by omega) (by omega)
    refine fr_st (st2 := [.int (bI (decide (i = j) || bb (f3 j) i))]) (by rw [show (decide (i = j) || bb (f3 j) i) = true from by simp_all [bI_0]]; rfl) ?_
    exact fr_zret rfl (by first | exact bI_01 _ | exact Or.inl rfl | exact Or.inr rfl) d_GR_wouldHoldItself_23 ⟨rfl, rfl⟩
  · refine fr_aload_n (pc := 5) d_GR_wouldHoldItself_5 rfl rfl ?_
    refine fr_get (pc := 6) (v := .ref a3) d_GR_wouldHoldItself_6 fg_GR_18 h0 rfl ?_
    refine fr_iload_n (pc := 9) d_GR_wouldHoldItself_9 rfl rfl ?_
    refine fr_laldN (pc := 10) (k := j) (n := 24) (f := f3) d_GR_wouldHoldItself_10 q3 (by omega) (by decide) ?_
    refine fr_iload_n (pc := 11) d_GR_wouldHoldItself_11 rfl rfl ?_
    refine fr_calls_p (pc := 12) (nc := nc) (ns := ns) (N := m_FR_isSet) (rest := []) (as := [.long (f3 j), .int (nI i)]) (v := .int (bI (bb (f3 j) i))) d_GR_wouldHoldItself_12 k_FR_isSet lk_GR_24 sc_FR_isSet np_FR_isSet ⟨by decide, by decide, Nat.le_of_ble_eq_true rfl⟩ (Nat.le_of_ble_eq_true rfl) (c_FR_isSet (by omega)) rfl ?_
    refine fr_if_eq (pc := 15) (tgt := 22) d_GR_wouldHoldItself_15 (by decide) (fun b15 => ?_) (fun b15 => ?_)
    · refine fr_iconst (pc := 22) (v := 0) d_GR_wouldHoldItself_22 (by decide) ?_
      have e9 : nI i = nI j ↔ i = j := ni_eq (by omega) (by omega)
      refine fr_st (st2 := [.int (bI (decide (i = j) || bb (f3 j) i))]) (by rw [show (decide (i = j) || bb (f3 j) i) = false from by simp_all [bI_0]]; rfl) ?_
      exact fr_zret rfl (by first | exact bI_01 _ | exact Or.inl rfl | exact Or.inr rfl) d_GR_wouldHoldItself_23 ⟨rfl, rfl⟩
    · refine fr_iconst (pc := 18) (v := 1) d_GR_wouldHoldItself_18 (by decide) ?_
      refine fr_goto (pc := 19) (tgt := 23) d_GR_wouldHoldItself_19 (by decide) ?_
      have e9 : nI i = nI j ↔ i = j := ni_eq (by omega) (by omega)
      refine fr_st (st2 := [.int (bI (decide (i = j) || bb (f3 j) i))]) (by rw [show (decide (i = j) || bb (f3 j) i) = true from by simp_all [bI_0]]; rfl) ?_
      exact fr_zret rfl (by first | exact bI_01 _ | exact Or.inl rfl | exact Or.inr rfl) d_GR_wouldHoldItself_23 ⟨rfl, rfl⟩
def gr_cp (f2 f3 : Nat → Int64) (k : Nat) : Nat → Int64 := fun j => if j < k then f2 j else f3 j
def gr_wr (f : Nat → Int64) (t k : Nat) : Nat → Int64 := fun j => if j < k ∧ bb (f j) t = true then f j ||| f t else f j
theorem gr_cp_s (f2 f3 : Nat → Int64) (k : Nat) : vp_updL (gr_cp f2 f3 k) k (f2 k) = gr_cp f2 f3 (k + 1) := by
  funext j
  unfold vp_updL gr_cp
  by_cases h : j = k
  · subst h; simp
  · by_cases h2 : j < k
    · simp [h, h2, Nat.lt_succ_of_lt h2]
    · simp [h, h2, show ¬ j < k + 1 by omega]
theorem gr_or (x : Int64) : x ||| x = x := bb_ext (fun i _ => by rw [bb_or]; cases bb x i <;> rfl)
theorem gr_wr_t (f : Nat → Int64) (t k : Nat) : gr_wr f t k t = f t := by
  unfold gr_wr
  split
  · exact gr_or _
  · rfl
theorem gr_wr_k (f : Nat → Int64) (t k : Nat) : gr_wr f t k k = f k := by unfold gr_wr; rw [if_neg (fun h => Nat.lt_irrefl _ h.1)]
theorem gr_wr_s {f : Nat → Int64} {t k : Nat} (h : bb (f k) t = true) : vp_updL (gr_wr f t k) k (f k ||| f t) = gr_wr f t (k + 1) := by
  funext j
  unfold vp_updL gr_wr
  by_cases e : j = k
  · subst e; simp [h]
  · by_cases h2 : j < k
    · simp [e, h2, Nat.lt_succ_of_lt h2]
    · simp [e, h2, show ¬ j < k + 1 by omega]
theorem gr_wr_n {f : Nat → Int64} {t k : Nat} (h : bb (f k) t = false) : gr_wr f t k = gr_wr f t (k + 1) := by
  funext j
  unfold gr_wr
  by_cases e : j = k
  · subst e; simp [h]
  · by_cases h2 : j < k
    · simp [h2, Nat.lt_succ_of_lt h2]
    · simp [h2, show ¬ j < k + 1 by omega]
theorem gr_wr_0 (f : Nat → Int64) (t : Nat) : gr_wr f t 0 = f := by funext j; simp [gr_wr]
theorem gr_cp_0 (f2 f3 : Nat → Int64) : gr_cp f2 f3 0 = f3 := by funext j; simp [gr_cp]
def gr_it (f : Nat → Int64) (n : Nat) : Nat → Nat → Int64
  | 0 => f
  | t + 1 => gr_wr (gr_it f n t) t n
theorem c_GR_fgi_i {g : fw_G} {nc ns : Nat} {w : fw_W} {a a1 a2 a3 a4 n : Nat} {f1 f2 f3 f4 : Nat → Int64} (h : gr_at g w a a1 a2 a3 a4 n f1 f2 f3 f4) {t : Nat} (ht : t < n) (hx : fw_R g m_GR_findGroupsIn (fw_pn (fw_up w a3 (gr_ar g (gr_it (gr_cp f2 f3 n) n n)))) nc ns (fw_up w a3 (gr_ar g (gr_it (gr_cp f2 f3 n) n (t + 1)))) 82 [(0, .ref a), (1, .int (nI t)), (2, .int (nI n))] []) : ∀ m k, k + m = n → fw_R g m_GR_findGroupsIn (fw_pn (fw_up w a3 (gr_ar g (gr_it (gr_cp f2 f3 n) n n)))) nc ns (fw_up w a3 (gr_ar g (gr_wr (gr_it (gr_cp f2 f3 n) n t) t k))) 40 [(0, .ref a), (1, .int (nI t)), (2, .int (nI k))] [] := by
  obtain ⟨h0, q1, q2, q3, q4, hn, n12, n13, n14, n23, n24, n34, m1, m2, m3, m4⟩ := id h
  intro m
  induction m with
  | zero =>
    intro k hk
    obtain rfl : n = k := by omega
    refine fr_iload_n (pc := 40) d_GR_findGroupsIn_40 rfl rfl ?_
    refine fr_aload_n (pc := 41) d_GR_findGroupsIn_41 rfl rfl ?_
    refine fr_get (pc := 42) (v := .int (nI n)) d_GR_findGroupsIn_42 fg_GR_34 (fw_up_at h0 m3) rfl ?_
    exact fr_icmp_ge (pc := 45) (tgt := 82) d_GR_findGroupsIn_45 (by decide) (fun _ => hx) (fun b45 => absurd ((ni_le (by omega) (by omega)).mpr (Nat.le_refl _)) b45)
  | succ m ih =>
    intro k hk
    refine fr_iload_n (pc := 40) d_GR_findGroupsIn_40 rfl rfl ?_
    refine fr_aload_n (pc := 41) d_GR_findGroupsIn_41 rfl rfl ?_
    refine fr_get (pc := 42) (v := .int (nI n)) d_GR_findGroupsIn_42 fg_GR_34 (fw_up_at h0 m3) rfl ?_
    refine fr_icmp_ge (pc := 45) (tgt := 82) d_GR_findGroupsIn_45 (by decide) (fun b45 => absurd ((ni_le (by omega) (by omega)).mp b45) (by omega)) (fun _ => ?_)
    refine fr_aload_n (pc := 48) d_GR_findGroupsIn_48 rfl rfl ?_
    refine fr_get (pc := 49) (v := .ref a3) d_GR_findGroupsIn_49 fg_GR_18 (fw_up_at h0 m3) rfl ?_
    refine fr_iload_n (pc := 52) d_GR_findGroupsIn_52 rfl rfl ?_
    refine fr_laldN (pc := 53) (k := k) (n := 24) (f := (gr_wr (gr_it (gr_cp f2 f3 n) n t) t k)) d_GR_findGroupsIn_53 fw_up_self (by omega) (by decide) ?_
    refine fr_st (st2 := [.long (gr_it (gr_cp f2 f3 n) n t k)]) (by rw [gr_wr_k]) ?_
    refine fr_iload_n (pc := 54) d_GR_findGroupsIn_54 rfl rfl ?_
    refine fr_calls_p (pc := 55) (nc := nc) (ns := ns) (N := m_FR_isSet) (rest := []) (as := [.long (gr_it (gr_cp f2 f3 n) n t k), .int (nI t)]) (v := .int (bI (bb (gr_it (gr_cp f2 f3 n) n t k) t))) d_GR_findGroupsIn_55 k_FR_isSet lk_GR_24 sc_FR_isSet np_FR_isSet ⟨by decide, by decide, Nat.le_of_ble_eq_true rfl⟩ (Nat.le_of_ble_eq_true rfl) (c_FR_isSet (by omega)) rfl ?_
    refine fr_if_eq (pc := 58) (tgt := 76) d_GR_findGroupsIn_58 (by decide) (fun b58 => ?_) (fun b58 => ?_)
    · have hb := bI_0.mp b58
      rw [gr_wr_n hb]
      refine fr_iinc (pc := 76) (v := (nI (k + 1))) (L2 := [(0, .ref a), (1, .int (nI t)), (2, .int (nI (k + 1)))]) d_GR_findGroupsIn_76 rfl (fi_1 _) (by decide) rfl ?_
      refine fr_goto (pc := 79) (tgt := 40) d_GR_findGroupsIn_79 (by decide) ?_
      exact ih (k + 1) (by omega)
    · have hb := ts_nf (fun q => b58 (bI_0.mpr q))
      refine fr_aload_n (pc := 61) d_GR_findGroupsIn_61 rfl rfl ?_
      refine fr_get (pc := 62) (v := .ref a3) d_GR_findGroupsIn_62 fg_GR_18 (fw_up_at h0 m3) rfl ?_
      refine fr_iload_n (pc := 65) d_GR_findGroupsIn_65 rfl rfl ?_
      refine fr_dup2_11 (pc := 66) d_GR_findGroupsIn_66 rfl rfl ?_
      refine fr_laldN (pc := 67) (k := k) (n := 24) (f := (gr_wr (gr_it (gr_cp f2 f3 n) n t) t k)) d_GR_findGroupsIn_67 fw_up_self (by omega) (by decide) ?_
      refine fr_aload_n (pc := 68) d_GR_findGroupsIn_68 rfl rfl ?_
      refine fr_get (pc := 69) (v := .ref a3) d_GR_findGroupsIn_69 fg_GR_18 (fw_up_at h0 m3) rfl ?_
      refine fr_iload_n (pc := 72) d_GR_findGroupsIn_72 rfl rfl ?_
      refine fr_laldN (pc := 73) (k := t) (n := 24) (f := (gr_wr (gr_it (gr_cp f2 f3 n) n t) t k)) d_GR_findGroupsIn_73 fw_up_self (by omega) (by decide) ?_
      refine fr_st (st2 := [.long (gr_it (gr_cp f2 f3 n) n t t), .long (gr_it (gr_cp f2 f3 n) n t k), .int (nI k), .ref a3]) (by rw [gr_wr_k, gr_wr_t]) ?_
      refine fr_lor (pc := 74) d_GR_findGroupsIn_74 ?_
      refine fr_lastN (pc := 75) (k := k) (n := 24) (f := (gr_wr (gr_it (gr_cp f2 f3 n) n t) t k)) d_GR_findGroupsIn_75 fw_up_self (by omega) (by decide) ?_
      rw [fw_uu, gr_wr_s hb]
      refine fr_iinc (pc := 76) (v := (nI (k + 1))) (L2 := [(0, .ref a), (1, .int (nI t)), (2, .int (nI (k + 1)))]) d_GR_findGroupsIn_76 rfl (fi_1 _) (by decide) rfl ?_
      refine fr_goto (pc := 79) (tgt := 40) d_GR_findGroupsIn_79 (by decide) ?_
      exact ih (k + 1) (by omega)
theorem c_GR_fgi_o {g : fw_G} {nc ns : Nat} {w : fw_W} {a a1 a2 a3 a4 n : Nat} {f1 f2 f3 f4 : Nat → Int64} (h : gr_at g w a a1 a2 a3 a4 n f1 f2 f3 f4) : ∀ m t, t + m = n → ∀ L2 : List (Nat × Value), fw_R g m_GR_findGroupsIn (fw_pn (fw_up w a3 (gr_ar g (gr_it (gr_cp f2 f3 n) n n)))) nc ns (fw_up w a3 (gr_ar g (gr_it (gr_cp f2 f3 n) n t))) 30 [(0, .ref a), (1, .int (nI t))] [] := by
  obtain ⟨h0, q1, q2, q3, q4, hn, n12, n13, n14, n23, n24, n34, m1, m2, m3, m4⟩ := id h
  intro m
  induction m with
  | zero =>
    intro t ht _
    obtain rfl : n = t := by omega
    refine fr_iload_n (pc := 30) d_GR_findGroupsIn_30 rfl rfl ?_
    refine fr_aload_n (pc := 31) d_GR_findGroupsIn_31 rfl rfl ?_
    refine fr_get (pc := 32) (v := .int (nI n)) d_GR_findGroupsIn_32 fg_GR_34 (fw_up_at h0 m3) rfl ?_
    refine fr_icmp_ge (pc := 35) (tgt := 88) d_GR_findGroupsIn_35 (by decide) (fun _ => ?_) (fun b35 => absurd ((ni_le (by omega) (by omega)).mpr (Nat.le_refl _)) b35)
    exact fr_vret rfl d_GR_findGroupsIn_88 ⟨rfl, rfl⟩
  | succ m ih =>
    intro t ht _
    refine fr_iload_n (pc := 30) d_GR_findGroupsIn_30 rfl rfl ?_
    refine fr_aload_n (pc := 31) d_GR_findGroupsIn_31 rfl rfl ?_
    refine fr_get (pc := 32) (v := .int (nI n)) d_GR_findGroupsIn_32 fg_GR_34 (fw_up_at h0 m3) rfl ?_
    refine fr_icmp_ge (pc := 35) (tgt := 88) d_GR_findGroupsIn_35 (by decide) (fun b35 => absurd ((ni_le (by omega) (by omega)).mp b35) (by omega)) (fun _ => ?_)
    refine fr_iconst (pc := 38) (v := 0) d_GR_findGroupsIn_38 (by decide) ?_
    refine fr_istore_n (pc := 39) (L2 := [(0, .ref a), (1, .int (nI t)), (2, .int 0)]) d_GR_findGroupsIn_39 rfl (by decide) rfl ?_
    have hi := c_GR_fgi_i (nc := nc) (ns := ns) h (t := t) (by omega) ?_ n 0 (Nat.zero_add _)
    · rw [gr_wr_0] at hi; exact hi
    · refine fr_iinc (pc := 82) (v := (nI (t + 1))) (L2 := [(0, .ref a), (1, .int (nI (t + 1))), (2, .int (nI n))]) d_GR_findGroupsIn_82 rfl (fi_1 _) (by decide) rfl ?_
      refine fr_goto (pc := 85) (tgt := 30) d_GR_findGroupsIn_85 (by decide) ?_
      exact fr_L (L2 := [(0, .ref a), (1, .int (nI (t + 1)))]) (fun q hq => by simp only [List.mem_cons, List.not_mem_nil, or_false] at hq ⊢; rcases hq with rfl | rfl <;> simp) (ih (t + 1) (by omega) [])
theorem c_GR_fgi_1 {g : fw_G} {nc ns : Nat} {w : fw_W} {a a1 a2 a3 a4 n : Nat} {f1 f2 f3 f4 : Nat → Int64} (h : gr_at g w a a1 a2 a3 a4 n f1 f2 f3 f4) : ∀ m k, k + m = n → fw_R g m_GR_findGroupsIn (fw_pn (fw_up w a3 (gr_ar g (gr_it (gr_cp f2 f3 n) n n)))) nc ns (fw_up w a3 (gr_ar g (gr_cp f2 f3 k))) 2 [(0, .ref a), (1, .int (nI k))] [] := by
  obtain ⟨h0, q1, q2, q3, q4, hn, n12, n13, n14, n23, n24, n34, m1, m2, m3, m4⟩ := id h
  intro m
  induction m with
  | zero =>
    intro k hk
    obtain rfl : n = k := by omega
    refine fr_iload_n (pc := 2) d_GR_findGroupsIn_2 rfl rfl ?_
    refine fr_aload_n (pc := 3) d_GR_findGroupsIn_3 rfl rfl ?_
    refine fr_get (pc := 4) (v := .int (nI n)) d_GR_findGroupsIn_4 fg_GR_34 (fw_up_at h0 m3) rfl ?_
    refine fr_icmp_ge (pc := 7) (tgt := 28) d_GR_findGroupsIn_7 (by decide) (fun _ => ?_) (fun b7 => absurd ((ni_le (by omega) (by omega)).mpr (Nat.le_refl _)) b7)
    refine fr_iconst (pc := 28) (v := 0) d_GR_findGroupsIn_28 (by decide) ?_
    refine fr_istore_n (pc := 29) (L2 := [(0, .ref a), (1, .int 0)]) d_GR_findGroupsIn_29 rfl (by decide) rfl ?_
    exact c_GR_fgi_o h n 0 (Nat.zero_add _) []
  | succ m ih =>
    intro k hk
    refine fr_iload_n (pc := 2) d_GR_findGroupsIn_2 rfl rfl ?_
    refine fr_aload_n (pc := 3) d_GR_findGroupsIn_3 rfl rfl ?_
    refine fr_get (pc := 4) (v := .int (nI n)) d_GR_findGroupsIn_4 fg_GR_34 (fw_up_at h0 m3) rfl ?_
    refine fr_icmp_ge (pc := 7) (tgt := 28) d_GR_findGroupsIn_7 (by decide) (fun b7 => absurd ((ni_le (by omega) (by omega)).mp b7) (by omega)) (fun _ => ?_)
    refine fr_aload_n (pc := 10) d_GR_findGroupsIn_10 rfl rfl ?_
    refine fr_get (pc := 11) (v := .ref a3) d_GR_findGroupsIn_11 fg_GR_18 (fw_up_at h0 m3) rfl ?_
    refine fr_iload_n (pc := 14) d_GR_findGroupsIn_14 rfl rfl ?_
    refine fr_aload_n (pc := 15) d_GR_findGroupsIn_15 rfl rfl ?_
    refine fr_get (pc := 16) (v := .ref a2) d_GR_findGroupsIn_16 fg_GR_15 (fw_up_at h0 m3) rfl ?_
    refine fr_iload_n (pc := 19) d_GR_findGroupsIn_19 rfl rfl ?_
    refine fr_laldN (pc := 20) (k := k) (n := 24) (f := f2) d_GR_findGroupsIn_20 (fw_up_at q2 n23) (by omega) (by decide) ?_
    refine fr_lastN (pc := 21) (k := k) (n := 24) (f := (gr_cp f2 f3 k)) d_GR_findGroupsIn_21 fw_up_self (by omega) (by decide) ?_
    rw [fw_uu, gr_cp_s]
    refine fr_iinc (pc := 22) (v := (nI (k + 1))) (L2 := [(0, .ref a), (1, .int (nI (k + 1)))]) d_GR_findGroupsIn_22 rfl (fi_1 _) (by decide) rfl ?_
    refine fr_goto (pc := 25) (tgt := 2) d_GR_findGroupsIn_25 (by decide) ?_
    exact ih (k + 1) (by omega)
theorem c_GR_fgi {g : fw_G} {nc ns : Nat} {w : fw_W} {a a1 a2 a3 a4 n : Nat} {f1 f2 f3 f4 : Nat → Int64} (h : gr_at g w a a1 a2 a3 a4 n f1 f2 f3 f4) : fw_R g m_GR_findGroupsIn (fw_pn (fw_up w a3 (gr_ar g (gr_it (gr_cp f2 f3 n) n n)))) nc ns w 0 [(0, .ref a)] [] := by
  refine fr_iconst (pc := 0) (v := 0) d_GR_findGroupsIn_0 (by decide) ?_
  refine fr_istore_n (pc := 1) (L2 := [(0, .ref a), (1, .int 0)]) d_GR_findGroupsIn_1 rfl (by decide) rfl ?_
  have e := c_GR_fgi_1 (nc := nc) (ns := ns) h n 0 (Nat.zero_add _)
  rw [gr_cp_0, fw_up_id h.2.2.2.1] at e
  exact e
def gr_gu (x y : Int64) (f1 : Nat → Int64) : Nat → Int64
  | 0 => x
  | j + 1 => if bb y j = true then gr_gu x y f1 j ||| f1 j else gr_gu x y f1 j
def gr_us (f1 f3 f4 : Nat → Int64) (n k : Nat) : Nat → Int64 := fun i => if i < k then gr_gu (f1 i) (f3 i) f1 n else f4 i
theorem gr_us_s (f1 f3 f4 : Nat → Int64) (n k : Nat) : vp_updL (gr_us f1 f3 f4 n k) k (gr_gu (f1 k) (f3 k) f1 n) = gr_us f1 f3 f4 n (k + 1) := by
  funext j
  unfold vp_updL gr_us
  by_cases h : j = k
  · subst h; simp
  · by_cases h2 : j < k
    · simp [h, h2, Nat.lt_succ_of_lt h2]
    · simp [h, h2, show ¬ j < k + 1 by omega]
theorem gr_us_0 (f1 f3 f4 : Nat → Int64) (n : Nat) : gr_us f1 f3 f4 n 0 = f4 := by funext j; simp [gr_us]
theorem gr_LL (f : Nat → Int64) (k : Nat) (x y : Int64) : vp_updL (vp_updL f k x) k y = vp_updL f k y := by
  funext j
  by_cases h : j = k <;> simp [vp_updL, h]
theorem gr_Lk (f : Nat → Int64) (k : Nat) (x : Int64) : vp_updL f k x k = x := by simp [vp_updL]
theorem c_GR_fui_i {g : fw_G} {nc ns : Nat} {w : fw_W} {a a1 a2 a3 a4 n : Nat} {f1 f2 f3 f4 : Nat → Int64} (h : gr_at g w a a1 a2 a3 a4 n f1 f2 f3 f4) {k : Nat} (hk : k < n) (hx : fw_R g m_GR_findUsersIn (fw_pn (fw_up w a4 (gr_ar g (gr_us f1 f3 f4 n n)))) nc ns (fw_up w a4 (gr_ar g (gr_us f1 f3 f4 n (k + 1)))) 66 [(0, .ref a), (1, .int (nI k)), (2, .int (nI n))] []) : ∀ m j, j + m = n → fw_R g m_GR_findUsersIn (fw_pn (fw_up w a4 (gr_ar g (gr_us f1 f3 f4 n n)))) nc ns (fw_up w a4 (gr_ar g (vp_updL (gr_us f1 f3 f4 n k) k (gr_gu (f1 k) (f3 k) f1 j)))) 24 [(0, .ref a), (1, .int (nI k)), (2, .int (nI j))] [] := by
  obtain ⟨h0, q1, q2, q3, q4, hn, n12, n13, n14, n23, n24, n34, m1, m2, m3, m4⟩ := id h
  intro m
  induction m with
  | zero =>
    intro j hj
    obtain rfl : n = j := by omega
    refine fr_iload_n (pc := 24) d_GR_findUsersIn_24 rfl rfl ?_
    refine fr_aload_n (pc := 25) d_GR_findUsersIn_25 rfl rfl ?_
    refine fr_get (pc := 26) (v := .int (nI n)) d_GR_findUsersIn_26 fg_GR_34 (fw_up_at h0 m4) rfl ?_
    exact fr_icmp_ge (pc := 29) (tgt := 66) d_GR_findUsersIn_29 (by decide) (fun _ => by rw [gr_us_s]; exact hx) (fun b29 => absurd ((ni_le (by omega) (by omega)).mpr (Nat.le_refl _)) b29)
  | succ m ih =>
    intro j hj
    refine fr_iload_n (pc := 24) d_GR_findUsersIn_24 rfl rfl ?_
    refine fr_aload_n (pc := 25) d_GR_findUsersIn_25 rfl rfl ?_
    refine fr_get (pc := 26) (v := .int (nI n)) d_GR_findUsersIn_26 fg_GR_34 (fw_up_at h0 m4) rfl ?_
    refine fr_icmp_ge (pc := 29) (tgt := 66) d_GR_findUsersIn_29 (by decide) (fun b29 => absurd ((ni_le (by omega) (by omega)).mp b29) (by omega)) (fun _ => ?_)
    refine fr_aload_n (pc := 32) d_GR_findUsersIn_32 rfl rfl ?_
    refine fr_get (pc := 33) (v := .ref a3) d_GR_findUsersIn_33 fg_GR_18 (fw_up_at h0 m4) rfl ?_
    refine fr_iload_n (pc := 36) d_GR_findUsersIn_36 rfl rfl ?_
    refine fr_laldN (pc := 37) (k := k) (n := 24) (f := f3) d_GR_findUsersIn_37 (fw_up_at q3 n34) (by omega) (by decide) ?_
    refine fr_iload_n (pc := 38) d_GR_findUsersIn_38 rfl rfl ?_
    refine fr_calls_p (pc := 39) (nc := nc) (ns := ns) (N := m_FR_isSet) (rest := []) (as := [.long (f3 k), .int (nI j)]) (v := .int (bI (bb (f3 k) j))) d_GR_findUsersIn_39 k_FR_isSet lk_GR_24 sc_FR_isSet np_FR_isSet ⟨by decide, by decide, Nat.le_of_ble_eq_true rfl⟩ (Nat.le_of_ble_eq_true rfl) (c_FR_isSet (by omega)) rfl ?_
    refine fr_if_eq (pc := 42) (tgt := 60) d_GR_findUsersIn_42 (by decide) (fun b42 => ?_) (fun b42 => ?_)
    · have hb := bI_0.mp b42
      have e : gr_gu (f1 k) (f3 k) f1 j = gr_gu (f1 k) (f3 k) f1 (j + 1) := by rw [gr_gu, if_neg (by rw [hb]; decide)]
      rw [e]
      refine fr_iinc (pc := 60) (v := (nI (j + 1))) (L2 := [(0, .ref a), (1, .int (nI k)), (2, .int (nI (j + 1)))]) d_GR_findUsersIn_60 rfl (fi_1 _) (by decide) rfl ?_
      refine fr_goto (pc := 63) (tgt := 24) d_GR_findUsersIn_63 (by decide) ?_
      exact ih (j + 1) (by omega)
    · have hb := ts_nf (fun q => b42 (bI_0.mpr q))
      refine fr_aload_n (pc := 45) d_GR_findUsersIn_45 rfl rfl ?_
      refine fr_get (pc := 46) (v := .ref a4) d_GR_findUsersIn_46 fg_GR_21 (fw_up_at h0 m4) rfl ?_
      refine fr_iload_n (pc := 49) d_GR_findUsersIn_49 rfl rfl ?_
      refine fr_dup2_11 (pc := 50) d_GR_findUsersIn_50 rfl rfl ?_
      refine fr_laldN (pc := 51) (k := k) (n := 24) (f := (vp_updL (gr_us f1 f3 f4 n k) k (gr_gu (f1 k) (f3 k) f1 j))) d_GR_findUsersIn_51 fw_up_self (by omega) (by decide) ?_
      refine fr_aload_n (pc := 52) d_GR_findUsersIn_52 rfl rfl ?_
      refine fr_get (pc := 53) (v := .ref a1) d_GR_findUsersIn_53 fg_GR_9 (fw_up_at h0 m4) rfl ?_
      refine fr_iload_n (pc := 56) d_GR_findUsersIn_56 rfl rfl ?_
      refine fr_laldN (pc := 57) (k := j) (n := 24) (f := f1) d_GR_findUsersIn_57 (fw_up_at q1 n14) (by omega) (by decide) ?_
      refine fr_st (st2 := [.long (f1 j), .long (gr_gu (f1 k) (f3 k) f1 j), .int (nI k), .ref a4]) (by rw [gr_Lk]) ?_
      refine fr_lor (pc := 58) d_GR_findUsersIn_58 ?_
      refine fr_lastN (pc := 59) (k := k) (n := 24) (f := (vp_updL (gr_us f1 f3 f4 n k) k (gr_gu (f1 k) (f3 k) f1 j))) d_GR_findUsersIn_59 fw_up_self (by omega) (by decide) ?_
      have e : gr_gu (f1 k) (f3 k) f1 j ||| f1 j = gr_gu (f1 k) (f3 k) f1 (j + 1) := by rw [gr_gu, if_pos hb]
      rw [fw_uu, gr_LL, e]
      refine fr_iinc (pc := 60) (v := (nI (j + 1))) (L2 := [(0, .ref a), (1, .int (nI k)), (2, .int (nI (j + 1)))]) d_GR_findUsersIn_60 rfl (fi_1 _) (by decide) rfl ?_
      refine fr_goto (pc := 63) (tgt := 24) d_GR_findUsersIn_63 (by decide) ?_
      exact ih (j + 1) (by omega)
theorem c_GR_fui_o {g : fw_G} {nc ns : Nat} {w : fw_W} {a a1 a2 a3 a4 n : Nat} {f1 f2 f3 f4 : Nat → Int64} (h : gr_at g w a a1 a2 a3 a4 n f1 f2 f3 f4) : ∀ m k, k + m = n → fw_R g m_GR_findUsersIn (fw_pn (fw_up w a4 (gr_ar g (gr_us f1 f3 f4 n n)))) nc ns (fw_up w a4 (gr_ar g (gr_us f1 f3 f4 n k))) 2 [(0, .ref a), (1, .int (nI k))] [] := by
  obtain ⟨h0, q1, q2, q3, q4, hn, n12, n13, n14, n23, n24, n34, m1, m2, m3, m4⟩ := id h
  intro m
  induction m with
  | zero =>
    intro k hk
    obtain rfl : n = k := by omega
    refine fr_iload_n (pc := 2) d_GR_findUsersIn_2 rfl rfl ?_
    refine fr_aload_n (pc := 3) d_GR_findUsersIn_3 rfl rfl ?_
    refine fr_get (pc := 4) (v := .int (nI n)) d_GR_findUsersIn_4 fg_GR_34 (fw_up_at h0 m4) rfl ?_
    refine fr_icmp_ge (pc := 7) (tgt := 72) d_GR_findUsersIn_7 (by decide) (fun _ => ?_) (fun b7 => absurd ((ni_le (by omega) (by omega)).mpr (Nat.le_refl _)) b7)
    exact fr_vret rfl d_GR_findUsersIn_72 ⟨rfl, rfl⟩
  | succ m ih =>
    intro k hk
    refine fr_iload_n (pc := 2) d_GR_findUsersIn_2 rfl rfl ?_
    refine fr_aload_n (pc := 3) d_GR_findUsersIn_3 rfl rfl ?_
    refine fr_get (pc := 4) (v := .int (nI n)) d_GR_findUsersIn_4 fg_GR_34 (fw_up_at h0 m4) rfl ?_
    refine fr_icmp_ge (pc := 7) (tgt := 72) d_GR_findUsersIn_7 (by decide) (fun b7 => absurd ((ni_le (by omega) (by omega)).mp b7) (by omega)) (fun _ => ?_)
    refine fr_aload_n (pc := 10) d_GR_findUsersIn_10 rfl rfl ?_
    refine fr_get (pc := 11) (v := .ref a4) d_GR_findUsersIn_11 fg_GR_21 (fw_up_at h0 m4) rfl ?_
    refine fr_iload_n (pc := 14) d_GR_findUsersIn_14 rfl rfl ?_
    refine fr_aload_n (pc := 15) d_GR_findUsersIn_15 rfl rfl ?_
    refine fr_get (pc := 16) (v := .ref a1) d_GR_findUsersIn_16 fg_GR_9 (fw_up_at h0 m4) rfl ?_
    refine fr_iload_n (pc := 19) d_GR_findUsersIn_19 rfl rfl ?_
    refine fr_laldN (pc := 20) (k := k) (n := 24) (f := f1) d_GR_findUsersIn_20 (fw_up_at q1 n14) (by omega) (by decide) ?_
    refine fr_lastN (pc := 21) (k := k) (n := 24) (f := (gr_us f1 f3 f4 n k)) d_GR_findUsersIn_21 fw_up_self (by omega) (by decide) ?_
    rw [fw_uu]
    refine fr_iconst (pc := 22) (v := 0) d_GR_findUsersIn_22 (by decide) ?_
    refine fr_istore_n (pc := 23) (L2 := [(0, .ref a), (1, .int (nI k)), (2, .int 0)]) d_GR_findUsersIn_23 rfl (by decide) rfl ?_
    refine c_GR_fui_i (nc := nc) (ns := ns) h (k := k) (by omega) ?_ n 0 (Nat.zero_add _)
    refine fr_iinc (pc := 66) (v := (nI (k + 1))) (L2 := [(0, .ref a), (1, .int (nI (k + 1))), (2, .int (nI n))]) d_GR_findUsersIn_66 rfl (fi_1 _) (by decide) rfl ?_
    refine fr_goto (pc := 69) (tgt := 2) d_GR_findUsersIn_69 (by decide) ?_
    exact fr_L (L2 := [(0, .ref a), (1, .int (nI (k + 1)))]) (fun q hq => by simp only [List.mem_cons, List.not_mem_nil, or_false] at hq ⊢; rcases hq with rfl | rfl <;> simp) (ih (k + 1) (by omega))
theorem c_GR_fui {g : fw_G} {nc ns : Nat} {w : fw_W} {a a1 a2 a3 a4 n : Nat} {f1 f2 f3 f4 : Nat → Int64} (h : gr_at g w a a1 a2 a3 a4 n f1 f2 f3 f4) : fw_R g m_GR_findUsersIn (fw_pn (fw_up w a4 (gr_ar g (gr_us f1 f3 f4 n n)))) nc ns w 0 [(0, .ref a)] [] := by
  refine fr_iconst (pc := 0) (v := 0) d_GR_findUsersIn_0 (by decide) ?_
  refine fr_istore_n (pc := 1) (L2 := [(0, .ref a), (1, .int 0)]) d_GR_findUsersIn_1 rfl (by decide) rfl ?_
  have e := c_GR_fui_o (nc := nc) (ns := ns) h n 0 (Nat.zero_add _)
  rw [gr_us_0, fw_up_id h.2.2.2.2.1] at e
  exact e
theorem gr_at3 {g : fw_G} {w : fw_W} {a a1 a2 a3 a4 n : Nat} {f1 f2 f3 f4 f : Nat → Int64} (h : gr_at g w a a1 a2 a3 a4 n f1 f2 f3 f4) : gr_at g (fw_up w a3 (gr_ar g f)) a a1 a2 a3 a4 n f1 f2 f f4 := by
  obtain ⟨h0, q1, q2, q3, q4, hn, n12, n13, n14, n23, n24, n34, m1, m2, m3, m4⟩ := h
  exact ⟨fw_up_at h0 m3, fw_up_at q1 n13, fw_up_at q2 n23, fw_up_self, fw_up_at q4 (Ne.symm n34), hn, n12, n13, n14, n23, n24, n34, m1, m2, m3, m4⟩
theorem gr_at4 {g : fw_G} {w : fw_W} {a a1 a2 a3 a4 n : Nat} {f1 f2 f3 f4 f : Nat → Int64} (h : gr_at g w a a1 a2 a3 a4 n f1 f2 f3 f4) : gr_at g (fw_up w a4 (gr_ar g f)) a a1 a2 a3 a4 n f1 f2 f3 f := by
  obtain ⟨h0, q1, q2, q3, q4, hn, n12, n13, n14, n23, n24, n34, m1, m2, m3, m4⟩ := h
  exact ⟨fw_up_at h0 m4, fw_up_at q1 n14, fw_up_at q2 n24, fw_up_at q3 n34, fw_up_self, hn, n12, n13, n14, n23, n24, n34, m1, m2, m3, m4⟩
theorem gr_at1 {g : fw_G} {w : fw_W} {a a1 a2 a3 a4 n : Nat} {f1 f2 f3 f4 f : Nat → Int64} (h : gr_at g w a a1 a2 a3 a4 n f1 f2 f3 f4) : gr_at g (fw_up w a1 (gr_ar g f)) a a1 a2 a3 a4 n f f2 f3 f4 := by
  obtain ⟨h0, q1, q2, q3, q4, hn, n12, n13, n14, n23, n24, n34, m1, m2, m3, m4⟩ := h
  exact ⟨fw_up_at h0 m1, fw_up_self, fw_up_at q2 (Ne.symm n12), fw_up_at q3 (Ne.symm n13), fw_up_at q4 (Ne.symm n14), hn, n12, n13, n14, n23, n24, n34, m1, m2, m3, m4⟩
theorem gr_at2 {g : fw_G} {w : fw_W} {a a1 a2 a3 a4 n : Nat} {f1 f2 f3 f4 f : Nat → Int64} (h : gr_at g w a a1 a2 a3 a4 n f1 f2 f3 f4) : gr_at g (fw_up w a2 (gr_ar g f)) a a1 a2 a3 a4 n f1 f f3 f4 := by
  obtain ⟨h0, q1, q2, q3, q4, hn, n12, n13, n14, n23, n24, n34, m1, m2, m3, m4⟩ := h
  exact ⟨fw_up_at h0 m2, fw_up_at q1 n12, fw_up_self, fw_up_at q3 (Ne.symm n23), fw_up_at q4 (Ne.symm n24), hn, n12, n13, n14, n23, n24, n34, m1, m2, m3, m4⟩
def gr_tw (f : Nat → Int64) (i j : Nat) : Nat → Int64 := vp_updL f i (f i ^^^ ((1 : Int64) <<< ((nI j).toInt64 &&& 63)))
def gr_f3 (f2 f3 : Nat → Int64) (n : Nat) : Nat → Int64 := gr_it (gr_cp f2 f3 n) n n
def gr_f4 (f1 f2 f3 f4 : Nat → Int64) (n : Nat) : Nat → Int64 := gr_us f1 (gr_f3 f2 f3 n) f4 n n
def gr_tu (g : fw_G) (w : fw_W) (a1 a2 a3 a4 n : Nat) (f1 f2 f3 f4 : Nat → Int64) (i j : Nat) (b : Bool) : fw_W :=
  if b then fw_up (fw_up (fw_up w a2 (gr_ar g (gr_tw f2 i j))) a3 (gr_ar g (gr_f3 (gr_tw f2 i j) f3 n))) a4 (gr_ar g (gr_f4 f1 (gr_tw f2 i j) f3 f4 n))
  else fw_up (fw_up (fw_up w a1 (gr_ar g (gr_tw f1 i j))) a3 (gr_ar g (gr_f3 f2 f3 n))) a4 (gr_ar g (gr_f4 (gr_tw f1 i j) f2 f3 f4 n))
theorem c_GR_turn {g : fw_G} {nc ns : Nat} {w : fw_W} {a a1 a2 a3 a4 n : Nat} {f1 f2 f3 f4 : Nat → Int64} (h : gr_at g w a a1 a2 a3 a4 n f1 f2 f3 f4) {i j : Nat} {b : Bool} (hi : i < n) : fw_R g m_GR_turnMember (fw_pn (gr_tu g w a1 a2 a3 a4 n f1 f2 f3 f4 i j b)) nc ns w 0 [(0, .ref a), (1, .int (nI i)), (2, .int (nI j)), (3, .int (bI b))] [] := by
  obtain ⟨h0, q1, q2, q3, q4, hn, n12, n13, n14, n23, n24, n34, m1, m2, m3, m4⟩ := id h
  refine fr_iload_n (pc := 0) d_GR_turnMember_0 rfl rfl ?_
  refine fr_if_eq (pc := 1) (tgt := 11) d_GR_turnMember_1 (by decide) (fun b1 => ?_) (fun b1 => ?_)
  · have hb := bI_0.mp b1
    subst hb
    refine fr_aload_n (pc := 11) d_GR_turnMember_11 rfl rfl ?_
    refine fr_get (pc := 12) (v := .ref a1) d_GR_turnMember_12 fg_GR_9 h0 rfl ?_
    refine fr_astore (pc := 15) (L2 := [(0, .ref a), (1, .int (nI i)), (2, .int (nI j)), (3, .int (bI false)), (4, .ref a1)]) d_GR_turnMember_15 (by decide) rfl ?_
    refine fr_aload (pc := 17) d_GR_turnMember_17 rfl ?_
    refine fr_iload_n (pc := 19) d_GR_turnMember_19 rfl rfl ?_
    refine fr_dup2_11 (pc := 20) d_GR_turnMember_20 rfl rfl ?_
    refine fr_laldN (pc := 21) (k := i) (n := 24) (f := f1) d_GR_turnMember_21 q1 (by omega) (by decide) ?_
    refine fr_lconst (pc := 22) (v := 1) d_GR_turnMember_22 (by decide) ?_
    refine fr_iload_n (pc := 23) d_GR_turnMember_23 rfl rfl ?_
    refine fr_lshl (pc := 24) d_GR_turnMember_24 rfl ?_
    refine fr_lxor (pc := 25) d_GR_turnMember_25 ?_
    refine fr_lastN (pc := 26) (k := i) (n := 24) (f := f1) d_GR_turnMember_26 q1 (by omega) (by decide) ?_
    have k1 : gr_at g (fw_up w a1 (gr_ar g (gr_tw f1 i j))) a a1 a2 a3 a4 n (gr_tw f1 i j) f2 f3 f4 := gr_at1 h
    refine fr_aload_n (pc := 27) d_GR_turnMember_27 rfl rfl ?_
    refine fr_callv_n (pc := 28) (nc := nc) (ns := ns) (N := m_GR_findGroupsIn) (rest := []) (as := []) d_GR_turnMember_28 vc_GR_28 ⟨by decide, by decide, Nat.le_of_ble_eq_true rfl⟩ (Nat.le_of_ble_eq_true rfl) k1.1 (c_GR_fgi k1) rfl ?_
    have k2 := gr_at3 (f := gr_it (gr_cp f2 f3 n) n n) k1
    refine fr_aload_n (pc := 31) d_GR_turnMember_31 rfl rfl ?_
    refine fr_callv_n (pc := 32) (nc := nc) (ns := ns) (N := m_GR_findUsersIn) (rest := []) (as := []) d_GR_turnMember_32 vc_GR_31 ⟨by decide, by decide, Nat.le_of_ble_eq_true rfl⟩ (Nat.le_of_ble_eq_true rfl) k2.1 (c_GR_fui k2) rfl ?_
    exact fr_vret rfl d_GR_turnMember_35 ⟨rfl, rfl⟩
  · have hb : b = true := ts_nf (fun q => b1 (bI_0.mpr q))
    subst hb
    refine fr_aload_n (pc := 4) d_GR_turnMember_4 rfl rfl ?_
    refine fr_get (pc := 5) (v := .ref a2) d_GR_turnMember_5 fg_GR_15 h0 rfl ?_
    refine fr_goto (pc := 8) (tgt := 15) d_GR_turnMember_8 (by decide) ?_
    refine fr_astore (pc := 15) (L2 := [(0, .ref a), (1, .int (nI i)), (2, .int (nI j)), (3, .int (bI true)), (4, .ref a2)]) d_GR_turnMember_15 (by decide) rfl ?_
    refine fr_aload (pc := 17) d_GR_turnMember_17 rfl ?_
    refine fr_iload_n (pc := 19) d_GR_turnMember_19 rfl rfl ?_
    refine fr_dup2_11 (pc := 20) d_GR_turnMember_20 rfl rfl ?_
    refine fr_laldN (pc := 21) (k := i) (n := 24) (f := f2) d_GR_turnMember_21 q2 (by omega) (by decide) ?_
    refine fr_lconst (pc := 22) (v := 1) d_GR_turnMember_22 (by decide) ?_
    refine fr_iload_n (pc := 23) d_GR_turnMember_23 rfl rfl ?_
    refine fr_lshl (pc := 24) d_GR_turnMember_24 rfl ?_
    refine fr_lxor (pc := 25) d_GR_turnMember_25 ?_
    refine fr_lastN (pc := 26) (k := i) (n := 24) (f := f2) d_GR_turnMember_26 q2 (by omega) (by decide) ?_
    have k1 : gr_at g (fw_up w a2 (gr_ar g (gr_tw f2 i j))) a a1 a2 a3 a4 n f1 (gr_tw f2 i j) f3 f4 := gr_at2 h
    refine fr_aload_n (pc := 27) d_GR_turnMember_27 rfl rfl ?_
    refine fr_callv_n (pc := 28) (nc := nc) (ns := ns) (N := m_GR_findGroupsIn) (rest := []) (as := []) d_GR_turnMember_28 vc_GR_28 ⟨by decide, by decide, Nat.le_of_ble_eq_true rfl⟩ (Nat.le_of_ble_eq_true rfl) k1.1 (c_GR_fgi k1) rfl ?_
    have k2 := gr_at3 (f := gr_it (gr_cp (gr_tw f2 i j) f3 n) n n) k1
    refine fr_aload_n (pc := 31) d_GR_turnMember_31 rfl rfl ?_
    refine fr_callv_n (pc := 32) (nc := nc) (ns := ns) (N := m_GR_findUsersIn) (rest := []) (as := []) d_GR_turnMember_32 vc_GR_31 ⟨by decide, by decide, Nat.le_of_ble_eq_true rfl⟩ (Nat.le_of_ble_eq_true rfl) k2.1 (c_GR_fui k2) rfl ?_
    exact fr_vret rfl d_GR_turnMember_35 ⟨rfl, rfl⟩

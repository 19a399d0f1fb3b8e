abbrev m_FR_step : fw_M := (⟨"FolderRights", "step", "()I"⟩, prog_1_method_18_code, 5, (some .int), { frames := 0, cells := 0, slots := 0, locals := 0 }, [])
theorem d_FR_step_0 : decode m_FR_step.2.1 0 = .ok (.aload_n 0, 1) := by decide +kernel
theorem d_FR_step_1 : decode m_FR_step.2.1 1 = .ok (.getfield 18, 3) := by decide +kernel
theorem d_FR_step_4 : decode m_FR_step.2.1 4 = .ok (.astore_n 1, 1) := by decide +kernel
theorem d_FR_step_5 : decode m_FR_step.2.1 5 = .ok (.aload_n 1, 1) := by decide +kernel
theorem d_FR_step_6 : decode m_FR_step.2.1 6 = .ok (.arraylength, 1) := by decide +kernel
theorem d_FR_step_7 : decode m_FR_step.2.1 7 = .ok (.istore_n 2, 1) := by decide +kernel
theorem d_FR_step_8 : decode m_FR_step.2.1 8 = .ok (.iconst 0, 1) := by decide +kernel
theorem d_FR_step_9 : decode m_FR_step.2.1 9 = .ok (.istore_n 3, 1) := by decide +kernel
theorem d_FR_step_10 : decode m_FR_step.2.1 10 = .ok (.iload_n 3, 1) := by decide +kernel
theorem d_FR_step_11 : decode m_FR_step.2.1 11 = .ok (.iload_n 2, 1) := by decide +kernel
theorem d_FR_step_12 : decode m_FR_step.2.1 12 = .ok (.if_icmp .ge 39, 3) := by decide +kernel
theorem d_FR_step_15 : decode m_FR_step.2.1 15 = .ok (.aload_n 1, 1) := by decide +kernel
theorem d_FR_step_16 : decode m_FR_step.2.1 16 = .ok (.iload_n 3, 1) := by decide +kernel
theorem d_FR_step_17 : decode m_FR_step.2.1 17 = .ok (.aaload, 1) := by decide +kernel
theorem d_FR_step_18 : decode m_FR_step.2.1 18 = .ok (.astore 4, 2) := by decide +kernel
theorem d_FR_step_20 : decode m_FR_step.2.1 20 = .ok (.aload 4, 2) := by decide +kernel
theorem d_FR_step_22 : decode m_FR_step.2.1 22 = .ok (.ifnull 23, 3) := by decide +kernel
theorem d_FR_step_25 : decode m_FR_step.2.1 25 = .ok (.aload 4, 2) := by decide +kernel
theorem d_FR_step_27 : decode m_FR_step.2.1 27 = .ok (.getfield 110, 3) := by decide +kernel
theorem d_FR_step_30 : decode m_FR_step.2.1 30 = .ok (.ifCond .eq 15, 3) := by decide +kernel
theorem d_FR_step_33 : decode m_FR_step.2.1 33 = .ok (.aload 4, 2) := by decide +kernel
theorem d_FR_step_35 : decode m_FR_step.2.1 35 = .ok (.iconst 0, 1) := by decide +kernel
theorem d_FR_step_36 : decode m_FR_step.2.1 36 = .ok (.putfield 110, 3) := by decide +kernel
theorem d_FR_step_39 : decode m_FR_step.2.1 39 = .ok (.aload 4, 2) := by decide +kernel
theorem d_FR_step_41 : decode m_FR_step.2.1 41 = .ok (.getfield 186, 3) := by decide +kernel
theorem d_FR_step_44 : decode m_FR_step.2.1 44 = .ok (.ireturn, 1) := by decide +kernel
theorem d_FR_step_45 : decode m_FR_step.2.1 45 = .ok (.iinc 3 1, 3) := by decide +kernel
theorem d_FR_step_48 : decode m_FR_step.2.1 48 = .ok (.goto (-38), 3) := by decide +kernel
theorem d_FR_step_51 : decode m_FR_step.2.1 51 = .ok (.iconst (-1), 1) := by decide +kernel
theorem d_FR_step_52 : decode m_FR_step.2.1 52 = .ok (.ireturn, 1) := by decide +kernel
theorem k_FR_step : fw_cal m_FR_step := ⟨by decide +kernel, by decide +kernel, (fw_t 1 (by decide +kernel)), Or.inl ⟨rfl, fw_t 132 (by decide +kernel)⟩⟩
abbrev m_FR_stale : fw_M := (⟨"FolderRights", "stale", "()I"⟩, prog_1_method_19_code, 6, (some .int), { frames := 0, cells := 0, slots := 0, locals := 0 }, [])
theorem d_FR_stale_0 : decode m_FR_stale.2.1 0 = .ok (.iconst 0, 1) := by decide +kernel
theorem d_FR_stale_1 : decode m_FR_stale.2.1 1 = .ok (.istore_n 1, 1) := by decide +kernel
theorem d_FR_stale_2 : decode m_FR_stale.2.1 2 = .ok (.aload_n 0, 1) := by decide +kernel
theorem d_FR_stale_3 : decode m_FR_stale.2.1 3 = .ok (.getfield 18, 3) := by decide +kernel
theorem d_FR_stale_6 : decode m_FR_stale.2.1 6 = .ok (.astore_n 2, 1) := by decide +kernel
theorem d_FR_stale_7 : decode m_FR_stale.2.1 7 = .ok (.aload_n 2, 1) := by decide +kernel
theorem d_FR_stale_8 : decode m_FR_stale.2.1 8 = .ok (.arraylength, 1) := by decide +kernel
theorem d_FR_stale_9 : decode m_FR_stale.2.1 9 = .ok (.istore_n 3, 1) := by decide +kernel
theorem d_FR_stale_10 : decode m_FR_stale.2.1 10 = .ok (.iconst 0, 1) := by decide +kernel
theorem d_FR_stale_11 : decode m_FR_stale.2.1 11 = .ok (.istore 4, 2) := by decide +kernel
theorem d_FR_stale_13 : decode m_FR_stale.2.1 13 = .ok (.iload 4, 2) := by decide +kernel
theorem d_FR_stale_15 : decode m_FR_stale.2.1 15 = .ok (.iload_n 3, 1) := by decide +kernel
theorem d_FR_stale_16 : decode m_FR_stale.2.1 16 = .ok (.if_icmp .ge 31, 3) := by decide +kernel
theorem d_FR_stale_19 : decode m_FR_stale.2.1 19 = .ok (.aload_n 2, 1) := by decide +kernel
theorem d_FR_stale_20 : decode m_FR_stale.2.1 20 = .ok (.iload 4, 2) := by decide +kernel
theorem d_FR_stale_22 : decode m_FR_stale.2.1 22 = .ok (.aaload, 1) := by decide +kernel
theorem d_FR_stale_23 : decode m_FR_stale.2.1 23 = .ok (.astore 5, 2) := by decide +kernel
theorem d_FR_stale_25 : decode m_FR_stale.2.1 25 = .ok (.aload 5, 2) := by decide +kernel
theorem d_FR_stale_27 : decode m_FR_stale.2.1 27 = .ok (.ifnull 14, 3) := by decide +kernel
theorem d_FR_stale_30 : decode m_FR_stale.2.1 30 = .ok (.aload 5, 2) := by decide +kernel
theorem d_FR_stale_32 : decode m_FR_stale.2.1 32 = .ok (.getfield 110, 3) := by decide +kernel
theorem d_FR_stale_35 : decode m_FR_stale.2.1 35 = .ok (.ifCond .eq 6, 3) := by decide +kernel
theorem d_FR_stale_38 : decode m_FR_stale.2.1 38 = .ok (.iinc 1 1, 3) := by decide +kernel
theorem d_FR_stale_41 : decode m_FR_stale.2.1 41 = .ok (.iinc 4 1, 3) := by decide +kernel
theorem d_FR_stale_44 : decode m_FR_stale.2.1 44 = .ok (.goto (-31), 3) := by decide +kernel
theorem d_FR_stale_47 : decode m_FR_stale.2.1 47 = .ok (.iload_n 1, 1) := by decide +kernel
theorem d_FR_stale_48 : decode m_FR_stale.2.1 48 = .ok (.ireturn, 1) := by decide +kernel
theorem k_FR_stale : fw_cal m_FR_stale := ⟨by decide +kernel, by decide +kernel, (fw_t 1 (by decide +kernel)), Or.inl ⟨rfl, fw_t 136 (by decide +kernel)⟩⟩
abbrev m_FR_user : fw_M := (⟨"FolderRights", "user", "()I"⟩, prog_1_method_2_code, 1, (some .int), { frames := 6, cells := 1, slots := 6, locals := 90 }, [])
theorem d_FR_user_0 : decode m_FR_user.2.1 0 = .ok (.aload_n 0, 1) := by decide +kernel
theorem d_FR_user_1 : decode m_FR_user.2.1 1 = .ok (.getfield 25, 3) := by decide +kernel
theorem d_FR_user_4 : decode m_FR_user.2.1 4 = .ok (.bipush 60, 2) := by decide +kernel
theorem d_FR_user_6 : decode m_FR_user.2.1 6 = .ok (.if_icmp .lt 13, 3) := by decide +kernel
theorem d_FR_user_9 : decode m_FR_user.2.1 9 = .ok (.new 29, 3) := by decide +kernel
theorem d_FR_user_12 : decode m_FR_user.2.1 12 = .ok (.dup, 1) := by decide +kernel
theorem d_FR_user_13 : decode m_FR_user.2.1 13 = .ok (.ldc 31, 2) := by decide +kernel
theorem d_FR_user_15 : decode m_FR_user.2.1 15 = .ok (.invokespecial 33, 3) := by decide +kernel
theorem d_FR_user_18 : decode m_FR_user.2.1 18 = .ok (.athrow, 1) := by decide +kernel
theorem d_FR_user_19 : decode m_FR_user.2.1 19 = .ok (.aload_n 0, 1) := by decide +kernel
theorem d_FR_user_20 : decode m_FR_user.2.1 20 = .ok (.dup, 1) := by decide +kernel
theorem d_FR_user_21 : decode m_FR_user.2.1 21 = .ok (.getfield 25, 3) := by decide +kernel
theorem d_FR_user_24 : decode m_FR_user.2.1 24 = .ok (.dup_x1, 1) := by decide +kernel
theorem d_FR_user_25 : decode m_FR_user.2.1 25 = .ok (.iconst 1, 1) := by decide +kernel
theorem d_FR_user_26 : decode m_FR_user.2.1 26 = .ok (.iadd, 1) := by decide +kernel
theorem d_FR_user_27 : decode m_FR_user.2.1 27 = .ok (.putfield 25, 3) := by decide +kernel
theorem d_FR_user_30 : decode m_FR_user.2.1 30 = .ok (.ireturn, 1) := by decide +kernel
theorem k_FR_user : fw_cal m_FR_user := ⟨by decide +kernel, by decide +kernel, (fw_t 1 (by decide +kernel)), Or.inl ⟨rfl, fw_t 144 (by decide +kernel)⟩⟩
abbrev m_FR_group : fw_M := (⟨"FolderRights", "group", "()I"⟩, prog_1_method_3_code, 1, (some .int), { frames := 6, cells := 1, slots := 6, locals := 90 }, [])
theorem d_FR_group_0 : decode m_FR_group.2.1 0 = .ok (.aload_n 0, 1) := by decide +kernel
theorem d_FR_group_1 : decode m_FR_group.2.1 1 = .ok (.getfield 10, 3) := by decide +kernel
theorem d_FR_group_4 : decode m_FR_group.2.1 4 = .ok (.getfield 36, 3) := by decide +kernel
theorem d_FR_group_7 : decode m_FR_group.2.1 7 = .ok (.bipush 24, 2) := by decide +kernel
theorem d_FR_group_9 : decode m_FR_group.2.1 9 = .ok (.if_icmp .lt 13, 3) := by decide +kernel
theorem d_FR_group_12 : decode m_FR_group.2.1 12 = .ok (.new 29, 3) := by decide +kernel
theorem d_FR_group_15 : decode m_FR_group.2.1 15 = .ok (.dup, 1) := by decide +kernel
theorem d_FR_group_16 : decode m_FR_group.2.1 16 = .ok (.ldc 39, 2) := by decide +kernel
theorem d_FR_group_18 : decode m_FR_group.2.1 18 = .ok (.invokespecial 33, 3) := by decide +kernel
theorem d_FR_group_21 : decode m_FR_group.2.1 21 = .ok (.athrow, 1) := by decide +kernel
theorem d_FR_group_22 : decode m_FR_group.2.1 22 = .ok (.aload_n 0, 1) := by decide +kernel
theorem d_FR_group_23 : decode m_FR_group.2.1 23 = .ok (.getfield 10, 3) := by decide +kernel
theorem d_FR_group_26 : decode m_FR_group.2.1 26 = .ok (.dup, 1) := by decide +kernel
theorem d_FR_group_27 : decode m_FR_group.2.1 27 = .ok (.getfield 36, 3) := by decide +kernel
theorem d_FR_group_30 : decode m_FR_group.2.1 30 = .ok (.dup_x1, 1) := by decide +kernel
theorem d_FR_group_31 : decode m_FR_group.2.1 31 = .ok (.iconst 1, 1) := by decide +kernel
theorem d_FR_group_32 : decode m_FR_group.2.1 32 = .ok (.iadd, 1) := by decide +kernel
theorem d_FR_group_33 : decode m_FR_group.2.1 33 = .ok (.putfield 36, 3) := by decide +kernel
theorem d_FR_group_36 : decode m_FR_group.2.1 36 = .ok (.ireturn, 1) := by decide +kernel
theorem k_FR_group : fw_cal m_FR_group := ⟨by decide +kernel, by decide +kernel, (fw_t 1 (by decide +kernel)), Or.inl ⟨rfl, fw_t 219 (by decide +kernel)⟩⟩
abbrev m_FR_join : fw_M := (⟨"FolderRights", "join", "(IIZ)Z"⟩, prog_1_method_4_code, 4, (some .boolean), { frames := 8, cells := 4, slots := 24, locals := 133 }, [])
theorem d_FR_join_0 : decode m_FR_join.2.1 0 = .ok (.aload_n 0, 1) := by decide +kernel
theorem d_FR_join_1 : decode m_FR_join.2.1 1 = .ok (.iload_n 1, 1) := by decide +kernel
theorem d_FR_join_2 : decode m_FR_join.2.1 2 = .ok (.invokevirtual 41, 3) := by decide +kernel
theorem d_FR_join_5 : decode m_FR_join.2.1 5 = .ok (.aload_n 0, 1) := by decide +kernel
theorem d_FR_join_6 : decode m_FR_join.2.1 6 = .ok (.iload_n 2, 1) := by decide +kernel
theorem d_FR_join_7 : decode m_FR_join.2.1 7 = .ok (.iload_n 3, 1) := by decide +kernel
theorem d_FR_join_8 : decode m_FR_join.2.1 8 = .ok (.invokevirtual 45, 3) := by decide +kernel
theorem d_FR_join_11 : decode m_FR_join.2.1 11 = .ok (.iload_n 3, 1) := by decide +kernel
theorem d_FR_join_12 : decode m_FR_join.2.1 12 = .ok (.ifCond .eq 25, 3) := by decide +kernel
theorem d_FR_join_15 : decode m_FR_join.2.1 15 = .ok (.aload_n 0, 1) := by decide +kernel
theorem d_FR_join_16 : decode m_FR_join.2.1 16 = .ok (.getfield 10, 3) := by decide +kernel
theorem d_FR_join_19 : decode m_FR_join.2.1 19 = .ok (.iload_n 1, 1) := by decide +kernel
theorem d_FR_join_20 : decode m_FR_join.2.1 20 = .ok (.iload_n 2, 1) := by decide +kernel
theorem d_FR_join_21 : decode m_FR_join.2.1 21 = .ok (.invokevirtual 49, 3) := by decide +kernel
theorem d_FR_join_24 : decode m_FR_join.2.1 24 = .ok (.ifCond .eq 13, 3) := by decide +kernel
theorem d_FR_join_27 : decode m_FR_join.2.1 27 = .ok (.new 29, 3) := by decide +kernel
theorem d_FR_join_30 : decode m_FR_join.2.1 30 = .ok (.dup, 1) := by decide +kernel
theorem d_FR_join_31 : decode m_FR_join.2.1 31 = .ok (.ldc 53, 2) := by decide +kernel
theorem d_FR_join_33 : decode m_FR_join.2.1 33 = .ok (.invokespecial 33, 3) := by decide +kernel
theorem d_FR_join_36 : decode m_FR_join.2.1 36 = .ok (.athrow, 1) := by decide +kernel
theorem d_FR_join_37 : decode m_FR_join.2.1 37 = .ok (.aload_n 0, 1) := by decide +kernel
theorem d_FR_join_38 : decode m_FR_join.2.1 38 = .ok (.getfield 10, 3) := by decide +kernel
theorem d_FR_join_41 : decode m_FR_join.2.1 41 = .ok (.iload_n 1, 1) := by decide +kernel
theorem d_FR_join_42 : decode m_FR_join.2.1 42 = .ok (.iload_n 2, 1) := by decide +kernel
theorem d_FR_join_43 : decode m_FR_join.2.1 43 = .ok (.iload_n 3, 1) := by decide +kernel
theorem d_FR_join_44 : decode m_FR_join.2.1 44 = .ok (.invokevirtual 55, 3) := by decide +kernel
theorem d_FR_join_47 : decode m_FR_join.2.1 47 = .ok (.ifCond .eq 5, 3) := by decide +kernel
theorem d_FR_join_50 : decode m_FR_join.2.1 50 = .ok (.iconst 0, 1) := by decide +kernel
theorem d_FR_join_51 : decode m_FR_join.2.1 51 = .ok (.ireturn, 1) := by decide +kernel
theorem d_FR_join_52 : decode m_FR_join.2.1 52 = .ok (.aload_n 0, 1) := by decide +kernel
theorem d_FR_join_53 : decode m_FR_join.2.1 53 = .ok (.getfield 10, 3) := by decide +kernel
theorem d_FR_join_56 : decode m_FR_join.2.1 56 = .ok (.iload_n 1, 1) := by decide +kernel
theorem d_FR_join_57 : decode m_FR_join.2.1 57 = .ok (.iload_n 2, 1) := by decide +kernel
theorem d_FR_join_58 : decode m_FR_join.2.1 58 = .ok (.iload_n 3, 1) := by decide +kernel
theorem d_FR_join_59 : decode m_FR_join.2.1 59 = .ok (.invokevirtual 59, 3) := by decide +kernel
theorem d_FR_join_62 : decode m_FR_join.2.1 62 = .ok (.iconst 1, 1) := by decide +kernel
theorem d_FR_join_63 : decode m_FR_join.2.1 63 = .ok (.ireturn, 1) := by decide +kernel
theorem k_FR_join : fw_cal m_FR_join := ⟨by decide +kernel, by decide +kernel, (fw_t 1 (by decide +kernel)), Or.inl ⟨rfl, fw_t 228 (by decide +kernel)⟩⟩
abbrev m_FR_requireGroup : fw_M := (⟨"FolderRights", "requireGroup", "(I)V"⟩, prog_1_method_36_code, 2, none, { frames := 6, cells := 1, slots := 6, locals := 90 }, [])
theorem d_FR_requireGroup_0 : decode m_FR_requireGroup.2.1 0 = .ok (.iload_n 1, 1) := by decide +kernel
theorem d_FR_requireGroup_1 : decode m_FR_requireGroup.2.1 1 = .ok (.ifCond .lt 14, 3) := by decide +kernel
theorem d_FR_requireGroup_4 : decode m_FR_requireGroup.2.1 4 = .ok (.iload_n 1, 1) := by decide +kernel
theorem d_FR_requireGroup_5 : decode m_FR_requireGroup.2.1 5 = .ok (.aload_n 0, 1) := by decide +kernel
theorem d_FR_requireGroup_6 : decode m_FR_requireGroup.2.1 6 = .ok (.getfield 10, 3) := by decide +kernel
theorem d_FR_requireGroup_9 : decode m_FR_requireGroup.2.1 9 = .ok (.getfield 36, 3) := by decide +kernel
theorem d_FR_requireGroup_12 : decode m_FR_requireGroup.2.1 12 = .ok (.if_icmp .lt 13, 3) := by decide +kernel
theorem d_FR_requireGroup_15 : decode m_FR_requireGroup.2.1 15 = .ok (.new 144, 3) := by decide +kernel
theorem d_FR_requireGroup_18 : decode m_FR_requireGroup.2.1 18 = .ok (.dup, 1) := by decide +kernel
theorem d_FR_requireGroup_19 : decode m_FR_requireGroup.2.1 19 = .ok (.ldc 250, 2) := by decide +kernel
theorem d_FR_requireGroup_21 : decode m_FR_requireGroup.2.1 21 = .ok (.invokespecial 148, 3) := by decide +kernel
theorem d_FR_requireGroup_24 : decode m_FR_requireGroup.2.1 24 = .ok (.athrow, 1) := by decide +kernel
theorem d_FR_requireGroup_25 : decode m_FR_requireGroup.2.1 25 = .ok (.return_, 1) := by decide +kernel
theorem k_FR_requireGroup : fw_cal m_FR_requireGroup := ⟨by decide +kernel, by decide +kernel, (fw_t 1 (by decide +kernel)), Or.inl ⟨rfl, fw_t 232 (by decide +kernel)⟩⟩
abbrev m_FR_requireUserOrGroup : fw_M := (⟨"FolderRights", "requireUserOrGroup", "(IZ)V"⟩, prog_1_method_37_code, 3, none, { frames := 7, cells := 2, slots := 12, locals := 111 }, [])
theorem d_FR_requireUserOrGroup_0 : decode m_FR_requireUserOrGroup.2.1 0 = .ok (.iload_n 2, 1) := by decide +kernel
theorem d_FR_requireUserOrGroup_1 : decode m_FR_requireUserOrGroup.2.1 1 = .ok (.ifCond .eq 11, 3) := by decide +kernel
theorem d_FR_requireUserOrGroup_4 : decode m_FR_requireUserOrGroup.2.1 4 = .ok (.aload_n 0, 1) := by decide +kernel
theorem d_FR_requireUserOrGroup_5 : decode m_FR_requireUserOrGroup.2.1 5 = .ok (.iload_n 1, 1) := by decide +kernel
theorem d_FR_requireUserOrGroup_6 : decode m_FR_requireUserOrGroup.2.1 6 = .ok (.invokevirtual 41, 3) := by decide +kernel
theorem d_FR_requireUserOrGroup_9 : decode m_FR_requireUserOrGroup.2.1 9 = .ok (.goto 8, 3) := by decide +kernel
theorem d_FR_requireUserOrGroup_12 : decode m_FR_requireUserOrGroup.2.1 12 = .ok (.aload_n 0, 1) := by decide +kernel
theorem d_FR_requireUserOrGroup_13 : decode m_FR_requireUserOrGroup.2.1 13 = .ok (.iload_n 1, 1) := by decide +kernel
theorem d_FR_requireUserOrGroup_14 : decode m_FR_requireUserOrGroup.2.1 14 = .ok (.invokevirtual 67, 3) := by decide +kernel
theorem d_FR_requireUserOrGroup_17 : decode m_FR_requireUserOrGroup.2.1 17 = .ok (.return_, 1) := by decide +kernel
theorem k_FR_requireUserOrGroup : fw_cal m_FR_requireUserOrGroup := ⟨by decide +kernel, by decide +kernel, (fw_t 1 (by decide +kernel)), Or.inl ⟨rfl, fw_t 252 (by decide +kernel)⟩⟩
abbrev m_FR_requireUser : fw_M := (⟨"FolderRights", "requireUser", "(I)V"⟩, prog_1_method_35_code, 2, none, { frames := 6, cells := 1, slots := 6, locals := 90 }, [])
theorem d_FR_requireUser_0 : decode m_FR_requireUser.2.1 0 = .ok (.iload_n 1, 1) := by decide +kernel
theorem d_FR_requireUser_1 : decode m_FR_requireUser.2.1 1 = .ok (.ifCond .lt 11, 3) := by decide +kernel
theorem d_FR_requireUser_4 : decode m_FR_requireUser.2.1 4 = .ok (.iload_n 1, 1) := by decide +kernel
theorem d_FR_requireUser_5 : decode m_FR_requireUser.2.1 5 = .ok (.aload_n 0, 1) := by decide +kernel
theorem d_FR_requireUser_6 : decode m_FR_requireUser.2.1 6 = .ok (.getfield 25, 3) := by decide +kernel
theorem d_FR_requireUser_9 : decode m_FR_requireUser.2.1 9 = .ok (.if_icmp .lt 13, 3) := by decide +kernel
theorem d_FR_requireUser_12 : decode m_FR_requireUser.2.1 12 = .ok (.new 144, 3) := by decide +kernel
theorem d_FR_requireUser_15 : decode m_FR_requireUser.2.1 15 = .ok (.dup, 1) := by decide +kernel
theorem d_FR_requireUser_16 : decode m_FR_requireUser.2.1 16 = .ok (.ldc 248, 2) := by decide +kernel
theorem d_FR_requireUser_18 : decode m_FR_requireUser.2.1 18 = .ok (.invokespecial 148, 3) := by decide +kernel
theorem d_FR_requireUser_21 : decode m_FR_requireUser.2.1 21 = .ok (.athrow, 1) := by decide +kernel
theorem d_FR_requireUser_22 : decode m_FR_requireUser.2.1 22 = .ok (.return_, 1) := by decide +kernel
theorem k_FR_requireUser : fw_cal m_FR_requireUser := ⟨by decide +kernel, by decide +kernel, (fw_t 1 (by decide +kernel)), Or.inl ⟨rfl, fw_t 256 (by decide +kernel)⟩⟩
abbrev m_FR_leave : fw_M := (⟨"FolderRights", "leave", "(IIZ)Z"⟩, prog_1_method_5_code, 4, (some .boolean), { frames := 8, cells := 3, slots := 18, locals := 133 }, [])
theorem d_FR_leave_0 : decode m_FR_leave.2.1 0 = .ok (.aload_n 0, 1) := by decide +kernel
theorem d_FR_leave_1 : decode m_FR_leave.2.1 1 = .ok (.iload_n 1, 1) := by decide +kernel
theorem d_FR_leave_2 : decode m_FR_leave.2.1 2 = .ok (.invokevirtual 41, 3) := by decide +kernel
theorem d_FR_leave_5 : decode m_FR_leave.2.1 5 = .ok (.aload_n 0, 1) := by decide +kernel
theorem d_FR_leave_6 : decode m_FR_leave.2.1 6 = .ok (.iload_n 2, 1) := by decide +kernel
theorem d_FR_leave_7 : decode m_FR_leave.2.1 7 = .ok (.iload_n 3, 1) := by decide +kernel
theorem d_FR_leave_8 : decode m_FR_leave.2.1 8 = .ok (.invokevirtual 45, 3) := by decide +kernel
theorem d_FR_leave_11 : decode m_FR_leave.2.1 11 = .ok (.aload_n 0, 1) := by decide +kernel
theorem d_FR_leave_12 : decode m_FR_leave.2.1 12 = .ok (.getfield 10, 3) := by decide +kernel
theorem d_FR_leave_15 : decode m_FR_leave.2.1 15 = .ok (.iload_n 1, 1) := by decide +kernel
theorem d_FR_leave_16 : decode m_FR_leave.2.1 16 = .ok (.iload_n 2, 1) := by decide +kernel
theorem d_FR_leave_17 : decode m_FR_leave.2.1 17 = .ok (.iload_n 3, 1) := by decide +kernel
theorem d_FR_leave_18 : decode m_FR_leave.2.1 18 = .ok (.invokevirtual 55, 3) := by decide +kernel
theorem d_FR_leave_21 : decode m_FR_leave.2.1 21 = .ok (.ifCond .ne 5, 3) := by decide +kernel
theorem d_FR_leave_24 : decode m_FR_leave.2.1 24 = .ok (.iconst 0, 1) := by decide +kernel
theorem d_FR_leave_25 : decode m_FR_leave.2.1 25 = .ok (.ireturn, 1) := by decide +kernel
theorem d_FR_leave_26 : decode m_FR_leave.2.1 26 = .ok (.aload_n 0, 1) := by decide +kernel
theorem d_FR_leave_27 : decode m_FR_leave.2.1 27 = .ok (.getfield 10, 3) := by decide +kernel
theorem d_FR_leave_30 : decode m_FR_leave.2.1 30 = .ok (.iload_n 1, 1) := by decide +kernel
theorem d_FR_leave_31 : decode m_FR_leave.2.1 31 = .ok (.iload_n 2, 1) := by decide +kernel
theorem d_FR_leave_32 : decode m_FR_leave.2.1 32 = .ok (.iload_n 3, 1) := by decide +kernel
theorem d_FR_leave_33 : decode m_FR_leave.2.1 33 = .ok (.invokevirtual 59, 3) := by decide +kernel
theorem d_FR_leave_36 : decode m_FR_leave.2.1 36 = .ok (.iconst 1, 1) := by decide +kernel
theorem d_FR_leave_37 : decode m_FR_leave.2.1 37 = .ok (.ireturn, 1) := by decide +kernel
theorem k_FR_leave : fw_cal m_FR_leave := ⟨by decide +kernel, by decide +kernel, (fw_t 1 (by decide +kernel)), Or.inl ⟨rfl, fw_t 288 (by decide +kernel)⟩⟩
abbrev m_FR_node : fw_M := (⟨"FolderRights", "node", "(IZI)I"⟩, prog_1_method_6_code, 6, (some .int), { frames := 7, cells := 7, slots := 40, locals := 111 }, [])
theorem d_FR_node_0 : decode m_FR_node.2.1 0 = .ok (.aload_n 0, 1) := by decide +kernel
theorem d_FR_node_1 : decode m_FR_node.2.1 1 = .ok (.iload_n 1, 1) := by decide +kernel
theorem d_FR_node_2 : decode m_FR_node.2.1 2 = .ok (.invokevirtual 63, 3) := by decide +kernel
theorem d_FR_node_5 : decode m_FR_node.2.1 5 = .ok (.astore 4, 2) := by decide +kernel
theorem d_FR_node_7 : decode m_FR_node.2.1 7 = .ok (.aload_n 0, 1) := by decide +kernel
theorem d_FR_node_8 : decode m_FR_node.2.1 8 = .ok (.iload_n 3, 1) := by decide +kernel
theorem d_FR_node_9 : decode m_FR_node.2.1 9 = .ok (.invokevirtual 67, 3) := by decide +kernel
theorem d_FR_node_12 : decode m_FR_node.2.1 12 = .ok (.aload 4, 2) := by decide +kernel
theorem d_FR_node_14 : decode m_FR_node.2.1 14 = .ok (.invokestatic 70, 3) := by decide +kernel
theorem d_FR_node_17 : decode m_FR_node.2.1 17 = .ok (.aload_n 0, 1) := by decide +kernel
theorem d_FR_node_18 : decode m_FR_node.2.1 18 = .ok (.invokevirtual 74, 3) := by decide +kernel
theorem d_FR_node_21 : decode m_FR_node.2.1 21 = .ok (.istore 5, 2) := by decide +kernel
theorem d_FR_node_23 : decode m_FR_node.2.1 23 = .ok (.iload 5, 2) := by decide +kernel
theorem d_FR_node_25 : decode m_FR_node.2.1 25 = .ok (.iconst (-1), 1) := by decide +kernel
theorem d_FR_node_26 : decode m_FR_node.2.1 26 = .ok (.if_icmp .ne 13, 3) := by decide +kernel
theorem d_FR_node_29 : decode m_FR_node.2.1 29 = .ok (.new 29, 3) := by decide +kernel
theorem d_FR_node_32 : decode m_FR_node.2.1 32 = .ok (.dup, 1) := by decide +kernel
theorem d_FR_node_33 : decode m_FR_node.2.1 33 = .ok (.ldc 78, 2) := by decide +kernel
theorem d_FR_node_35 : decode m_FR_node.2.1 35 = .ok (.invokespecial 33, 3) := by decide +kernel
theorem d_FR_node_38 : decode m_FR_node.2.1 38 = .ok (.athrow, 1) := by decide +kernel
theorem d_FR_node_39 : decode m_FR_node.2.1 39 = .ok (.aload 4, 2) := by decide +kernel
theorem d_FR_node_41 : decode m_FR_node.2.1 41 = .ok (.invokevirtual 80, 3) := by decide +kernel
theorem d_FR_node_44 : decode m_FR_node.2.1 44 = .ok (.bipush 20, 2) := by decide +kernel
theorem d_FR_node_46 : decode m_FR_node.2.1 46 = .ok (.if_icmp .lt 13, 3) := by decide +kernel
theorem d_FR_node_49 : decode m_FR_node.2.1 49 = .ok (.new 29, 3) := by decide +kernel
theorem d_FR_node_52 : decode m_FR_node.2.1 52 = .ok (.dup, 1) := by decide +kernel
theorem d_FR_node_53 : decode m_FR_node.2.1 53 = .ok (.ldc 83, 2) := by decide +kernel
theorem d_FR_node_55 : decode m_FR_node.2.1 55 = .ok (.invokespecial 33, 3) := by decide +kernel
theorem d_FR_node_58 : decode m_FR_node.2.1 58 = .ok (.athrow, 1) := by decide +kernel
theorem d_FR_node_59 : decode m_FR_node.2.1 59 = .ok (.aload_n 0, 1) := by decide +kernel
theorem d_FR_node_60 : decode m_FR_node.2.1 60 = .ok (.getfield 18, 3) := by decide +kernel
theorem d_FR_node_63 : decode m_FR_node.2.1 63 = .ok (.iload 5, 2) := by decide +kernel
theorem d_FR_node_65 : decode m_FR_node.2.1 65 = .ok (.new 16, 3) := by decide +kernel
theorem d_FR_node_68 : decode m_FR_node.2.1 68 = .ok (.dup, 1) := by decide +kernel
theorem d_FR_node_69 : decode m_FR_node.2.1 69 = .ok (.iload 5, 2) := by decide +kernel
theorem d_FR_node_71 : decode m_FR_node.2.1 71 = .ok (.aload 4, 2) := by decide +kernel
theorem d_FR_node_73 : decode m_FR_node.2.1 73 = .ok (.iload_n 2, 1) := by decide +kernel
theorem d_FR_node_74 : decode m_FR_node.2.1 74 = .ok (.iload_n 3, 1) := by decide +kernel
theorem d_FR_node_75 : decode m_FR_node.2.1 75 = .ok (.invokespecial 22, 3) := by decide +kernel
theorem d_FR_node_78 : decode m_FR_node.2.1 78 = .ok (.aastore, 1) := by decide +kernel
theorem d_FR_node_79 : decode m_FR_node.2.1 79 = .ok (.iload 5, 2) := by decide +kernel
theorem d_FR_node_81 : decode m_FR_node.2.1 81 = .ok (.ireturn, 1) := by decide +kernel
theorem k_FR_node : fw_cal m_FR_node := ⟨by decide +kernel, by decide +kernel, (fw_t 1 (by decide +kernel)), Or.inl ⟨rfl, fw_t 296 (by decide +kernel)⟩⟩
abbrev m_FR_nodeAt : fw_M := (⟨"FolderRights", "nodeAt", "(I)LFolderRights$Node;"⟩, prog_1_method_34_code, 2, (some (.object "FolderRights$Node")), { frames := 6, cells := 1, slots := 6, locals := 90 }, [])
theorem d_FR_nodeAt_0 : decode m_FR_nodeAt.2.1 0 = .ok (.iload_n 1, 1) := by decide +kernel
theorem d_FR_nodeAt_1 : decode m_FR_nodeAt.2.1 1 = .ok (.ifCond .lt 19, 3) := by decide +kernel
theorem d_FR_nodeAt_4 : decode m_FR_nodeAt.2.1 4 = .ok (.iload_n 1, 1) := by decide +kernel
theorem d_FR_nodeAt_5 : decode m_FR_nodeAt.2.1 5 = .ok (.sipush 150, 3) := by decide +kernel
theorem d_FR_nodeAt_8 : decode m_FR_nodeAt.2.1 8 = .ok (.if_icmp .ge 12, 3) := by decide +kernel
theorem d_FR_nodeAt_11 : decode m_FR_nodeAt.2.1 11 = .ok (.aload_n 0, 1) := by decide +kernel
theorem d_FR_nodeAt_12 : decode m_FR_nodeAt.2.1 12 = .ok (.getfield 18, 3) := by decide +kernel
theorem d_FR_nodeAt_15 : decode m_FR_nodeAt.2.1 15 = .ok (.iload_n 1, 1) := by decide +kernel
theorem d_FR_nodeAt_16 : decode m_FR_nodeAt.2.1 16 = .ok (.aaload, 1) := by decide +kernel
theorem d_FR_nodeAt_17 : decode m_FR_nodeAt.2.1 17 = .ok (.ifnonnull 13, 3) := by decide +kernel
theorem d_FR_nodeAt_20 : decode m_FR_nodeAt.2.1 20 = .ok (.new 144, 3) := by decide +kernel
theorem d_FR_nodeAt_23 : decode m_FR_nodeAt.2.1 23 = .ok (.dup, 1) := by decide +kernel
theorem d_FR_nodeAt_24 : decode m_FR_nodeAt.2.1 24 = .ok (.ldc 246, 2) := by decide +kernel
theorem d_FR_nodeAt_26 : decode m_FR_nodeAt.2.1 26 = .ok (.invokespecial 148, 3) := by decide +kernel
theorem d_FR_nodeAt_29 : decode m_FR_nodeAt.2.1 29 = .ok (.athrow, 1) := by decide +kernel
theorem d_FR_nodeAt_30 : decode m_FR_nodeAt.2.1 30 = .ok (.aload_n 0, 1) := by decide +kernel
theorem d_FR_nodeAt_31 : decode m_FR_nodeAt.2.1 31 = .ok (.getfield 18, 3) := by decide +kernel
theorem d_FR_nodeAt_34 : decode m_FR_nodeAt.2.1 34 = .ok (.iload_n 1, 1) := by decide +kernel
theorem d_FR_nodeAt_35 : decode m_FR_nodeAt.2.1 35 = .ok (.aaload, 1) := by decide +kernel
theorem d_FR_nodeAt_36 : decode m_FR_nodeAt.2.1 36 = .ok (.areturn, 1) := by decide +kernel
theorem k_FR_nodeAt : fw_cal m_FR_nodeAt := ⟨by decide +kernel, by decide +kernel, (fw_t 1 (by decide +kernel)), Or.inl ⟨rfl, fw_t 300 (by decide +kernel)⟩⟩
abbrev m_FR_requireFolder : fw_M := (⟨"FolderRights", "requireFolder", "(LFolderRights$Node;)V"⟩, prog_1_method_38_code, 1, none, { frames := 6, cells := 1, slots := 6, locals := 90 }, [])
theorem d_FR_requireFolder_0 : decode m_FR_requireFolder.2.1 0 = .ok (.aload_n 0, 1) := by decide +kernel
theorem d_FR_requireFolder_1 : decode m_FR_requireFolder.2.1 1 = .ok (.getfield 200, 3) := by decide +kernel
theorem d_FR_requireFolder_4 : decode m_FR_requireFolder.2.1 4 = .ok (.ifCond .ne 13, 3) := by decide +kernel
theorem d_FR_requireFolder_7 : decode m_FR_requireFolder.2.1 7 = .ok (.new 92, 3) := by decide +kernel
theorem d_FR_requireFolder_10 : decode m_FR_requireFolder.2.1 10 = .ok (.dup, 1) := by decide +kernel
theorem d_FR_requireFolder_11 : decode m_FR_requireFolder.2.1 11 = .ok (.ldc 252, 2) := by decide +kernel
theorem d_FR_requireFolder_13 : decode m_FR_requireFolder.2.1 13 = .ok (.invokespecial 96, 3) := by decide +kernel
theorem d_FR_requireFolder_16 : decode m_FR_requireFolder.2.1 16 = .ok (.athrow, 1) := by decide +kernel
theorem d_FR_requireFolder_17 : decode m_FR_requireFolder.2.1 17 = .ok (.return_, 1) := by decide +kernel
theorem k_FR_requireFolder : fw_cal m_FR_requireFolder := ⟨by decide +kernel, by decide +kernel, (fw_t 1 (by decide +kernel)), Or.inl ⟨rfl, fw_t 304 (by decide +kernel)⟩⟩
abbrev m_FR_freeNumber : fw_M := (⟨"FolderRights", "freeNumber", "()I"⟩, prog_1_method_31_code, 2, (some .int), { frames := 0, cells := 0, slots := 0, locals := 0 }, [])
theorem d_FR_freeNumber_0 : decode m_FR_freeNumber.2.1 0 = .ok (.iconst 0, 1) := by decide +kernel
theorem d_FR_freeNumber_1 : decode m_FR_freeNumber.2.1 1 = .ok (.istore_n 1, 1) := by decide +kernel
theorem d_FR_freeNumber_2 : decode m_FR_freeNumber.2.1 2 = .ok (.iload_n 1, 1) := by decide +kernel
theorem d_FR_freeNumber_3 : decode m_FR_freeNumber.2.1 3 = .ok (.sipush 150, 3) := by decide +kernel
theorem d_FR_freeNumber_6 : decode m_FR_freeNumber.2.1 6 = .ok (.if_icmp .ge 20, 3) := by decide +kernel
theorem d_FR_freeNumber_9 : decode m_FR_freeNumber.2.1 9 = .ok (.aload_n 0, 1) := by decide +kernel
theorem d_FR_freeNumber_10 : decode m_FR_freeNumber.2.1 10 = .ok (.getfield 18, 3) := by decide +kernel
theorem d_FR_freeNumber_13 : decode m_FR_freeNumber.2.1 13 = .ok (.iload_n 1, 1) := by decide +kernel
theorem d_FR_freeNumber_14 : decode m_FR_freeNumber.2.1 14 = .ok (.aaload, 1) := by decide +kernel
theorem d_FR_freeNumber_15 : decode m_FR_freeNumber.2.1 15 = .ok (.ifnonnull 5, 3) := by decide +kernel
theorem d_FR_freeNumber_18 : decode m_FR_freeNumber.2.1 18 = .ok (.iload_n 1, 1) := by decide +kernel
theorem d_FR_freeNumber_19 : decode m_FR_freeNumber.2.1 19 = .ok (.ireturn, 1) := by decide +kernel
theorem d_FR_freeNumber_20 : decode m_FR_freeNumber.2.1 20 = .ok (.iinc 1 1, 3) := by decide +kernel
theorem d_FR_freeNumber_23 : decode m_FR_freeNumber.2.1 23 = .ok (.goto (-21), 3) := by decide +kernel
theorem d_FR_freeNumber_26 : decode m_FR_freeNumber.2.1 26 = .ok (.iconst (-1), 1) := by decide +kernel
theorem d_FR_freeNumber_27 : decode m_FR_freeNumber.2.1 27 = .ok (.ireturn, 1) := by decide +kernel
theorem k_FR_freeNumber : fw_cal m_FR_freeNumber := ⟨by decide +kernel, by decide +kernel, (fw_t 1 (by decide +kernel)), Or.inl ⟨rfl, fw_t 324 (by decide +kernel)⟩⟩
abbrev m_FR_move : fw_M := (⟨"FolderRights", "move", "(II)I"⟩, prog_1_method_7_code, 6, (some .int), { frames := 7, cells := 6, slots := 36, locals := 111 }, [])
theorem d_FR_move_0 : decode m_FR_move.2.1 0 = .ok (.aload_n 0, 1) := by decide +kernel
theorem d_FR_move_1 : decode m_FR_move.2.1 1 = .ok (.iload_n 1, 1) := by decide +kernel
theorem d_FR_move_2 : decode m_FR_move.2.1 2 = .ok (.invokevirtual 63, 3) := by decide +kernel
theorem d_FR_move_5 : decode m_FR_move.2.1 5 = .ok (.astore_n 3, 1) := by decide +kernel
theorem d_FR_move_6 : decode m_FR_move.2.1 6 = .ok (.aload_n 0, 1) := by decide +kernel
theorem d_FR_move_7 : decode m_FR_move.2.1 7 = .ok (.iload_n 2, 1) := by decide +kernel
theorem d_FR_move_8 : decode m_FR_move.2.1 8 = .ok (.invokevirtual 63, 3) := by decide +kernel
theorem d_FR_move_11 : decode m_FR_move.2.1 11 = .ok (.astore 4, 2) := by decide +kernel
theorem d_FR_move_13 : decode m_FR_move.2.1 13 = .ok (.aload_n 3, 1) := by decide +kernel
theorem d_FR_move_14 : decode m_FR_move.2.1 14 = .ok (.invokestatic 85, 3) := by decide +kernel
theorem d_FR_move_17 : decode m_FR_move.2.1 17 = .ok (.aload 4, 2) := by decide +kernel
theorem d_FR_move_19 : decode m_FR_move.2.1 19 = .ok (.invokestatic 70, 3) := by decide +kernel
theorem d_FR_move_22 : decode m_FR_move.2.1 22 = .ok (.aload 4, 2) := by decide +kernel
theorem d_FR_move_24 : decode m_FR_move.2.1 24 = .ok (.aload_n 3, 1) := by decide +kernel
theorem d_FR_move_25 : decode m_FR_move.2.1 25 = .ok (.invokevirtual 88, 3) := by decide +kernel
theorem d_FR_move_28 : decode m_FR_move.2.1 28 = .ok (.ifCond .eq 13, 3) := by decide +kernel
theorem d_FR_move_31 : decode m_FR_move.2.1 31 = .ok (.new 92, 3) := by decide +kernel
theorem d_FR_move_34 : decode m_FR_move.2.1 34 = .ok (.dup, 1) := by decide +kernel
theorem d_FR_move_35 : decode m_FR_move.2.1 35 = .ok (.ldc 94, 2) := by decide +kernel
theorem d_FR_move_37 : decode m_FR_move.2.1 37 = .ok (.invokespecial 96, 3) := by decide +kernel
theorem d_FR_move_40 : decode m_FR_move.2.1 40 = .ok (.athrow, 1) := by decide +kernel
theorem d_FR_move_41 : decode m_FR_move.2.1 41 = .ok (.aload 4, 2) := by decide +kernel
theorem d_FR_move_43 : decode m_FR_move.2.1 43 = .ok (.invokevirtual 80, 3) := by decide +kernel
theorem d_FR_move_46 : decode m_FR_move.2.1 46 = .ok (.iconst 1, 1) := by decide +kernel
theorem d_FR_move_47 : decode m_FR_move.2.1 47 = .ok (.iadd, 1) := by decide +kernel
theorem d_FR_move_48 : decode m_FR_move.2.1 48 = .ok (.istore 5, 2) := by decide +kernel
theorem d_FR_move_50 : decode m_FR_move.2.1 50 = .ok (.iload 5, 2) := by decide +kernel
theorem d_FR_move_52 : decode m_FR_move.2.1 52 = .ok (.aload_n 0, 1) := by decide +kernel
theorem d_FR_move_53 : decode m_FR_move.2.1 53 = .ok (.aload_n 3, 1) := by decide +kernel
theorem d_FR_move_54 : decode m_FR_move.2.1 54 = .ok (.invokevirtual 97, 3) := by decide +kernel
theorem d_FR_move_57 : decode m_FR_move.2.1 57 = .ok (.iadd, 1) := by decide +kernel
theorem d_FR_move_58 : decode m_FR_move.2.1 58 = .ok (.bipush 20, 2) := by decide +kernel
theorem d_FR_move_60 : decode m_FR_move.2.1 60 = .ok (.if_icmp .le 13, 3) := by decide +kernel
theorem d_FR_move_63 : decode m_FR_move.2.1 63 = .ok (.new 29, 3) := by decide +kernel
theorem d_FR_move_66 : decode m_FR_move.2.1 66 = .ok (.dup, 1) := by decide +kernel
theorem d_FR_move_67 : decode m_FR_move.2.1 67 = .ok (.ldc 101, 2) := by decide +kernel
theorem d_FR_move_69 : decode m_FR_move.2.1 69 = .ok (.invokespecial 33, 3) := by decide +kernel
theorem d_FR_move_72 : decode m_FR_move.2.1 72 = .ok (.athrow, 1) := by decide +kernel
theorem d_FR_move_73 : decode m_FR_move.2.1 73 = .ok (.aload_n 3, 1) := by decide +kernel
theorem d_FR_move_74 : decode m_FR_move.2.1 74 = .ok (.aload 4, 2) := by decide +kernel
theorem d_FR_move_76 : decode m_FR_move.2.1 76 = .ok (.putfield 103, 3) := by decide +kernel
theorem d_FR_move_79 : decode m_FR_move.2.1 79 = .ok (.aload_n 0, 1) := by decide +kernel
theorem d_FR_move_80 : decode m_FR_move.2.1 80 = .ok (.aload_n 3, 1) := by decide +kernel
theorem d_FR_move_81 : decode m_FR_move.2.1 81 = .ok (.invokevirtual 107, 3) := by decide +kernel
theorem d_FR_move_84 : decode m_FR_move.2.1 84 = .ok (.aload_n 3, 1) := by decide +kernel
theorem d_FR_move_85 : decode m_FR_move.2.1 85 = .ok (.iconst 1, 1) := by decide +kernel
theorem d_FR_move_86 : decode m_FR_move.2.1 86 = .ok (.putfield 110, 3) := by decide +kernel
theorem d_FR_move_89 : decode m_FR_move.2.1 89 = .ok (.iload 5, 2) := by decide +kernel
theorem d_FR_move_91 : decode m_FR_move.2.1 91 = .ok (.ireturn, 1) := by decide +kernel
theorem k_FR_move : fw_cal m_FR_move := ⟨by decide +kernel, by decide +kernel, (fw_t 1 (by decide +kernel)), Or.inl ⟨rfl, fw_t 337 (by decide +kernel)⟩⟩
abbrev m_FR_requireNotRoot : fw_M := (⟨"FolderRights", "requireNotRoot", "(LFolderRights$Node;)V"⟩, prog_1_method_39_code, 1, none, { frames := 6, cells := 1, slots := 6, locals := 90 }, [])
theorem d_FR_requireNotRoot_0 : decode m_FR_requireNotRoot.2.1 0 = .ok (.aload_n 0, 1) := by decide +kernel
theorem d_FR_requireNotRoot_1 : decode m_FR_requireNotRoot.2.1 1 = .ok (.getfield 103, 3) := by decide +kernel
theorem d_FR_requireNotRoot_4 : decode m_FR_requireNotRoot.2.1 4 = .ok (.ifnonnull 13, 3) := by decide +kernel
theorem d_FR_requireNotRoot_7 : decode m_FR_requireNotRoot.2.1 7 = .ok (.new 92, 3) := by decide +kernel
theorem d_FR_requireNotRoot_10 : decode m_FR_requireNotRoot.2.1 10 = .ok (.dup, 1) := by decide +kernel
theorem d_FR_requireNotRoot_11 : decode m_FR_requireNotRoot.2.1 11 = .ok (.ldc 254, 2) := by decide +kernel
theorem d_FR_requireNotRoot_13 : decode m_FR_requireNotRoot.2.1 13 = .ok (.invokespecial 96, 3) := by decide +kernel
theorem d_FR_requireNotRoot_16 : decode m_FR_requireNotRoot.2.1 16 = .ok (.athrow, 1) := by decide +kernel
theorem d_FR_requireNotRoot_17 : decode m_FR_requireNotRoot.2.1 17 = .ok (.return_, 1) := by decide +kernel
theorem k_FR_requireNotRoot : fw_cal m_FR_requireNotRoot := ⟨by decide +kernel, by decide +kernel, (fw_t 1 (by decide +kernel)), Or.inl ⟨rfl, fw_t 340 (by decide +kernel)⟩⟩
abbrev m_FR_heightOf : fw_M := (⟨"FolderRights", "heightOf", "(LFolderRights$Node;)I"⟩, prog_1_method_29_code, 8, (some .int), { frames := 1, cells := 0, slots := 0, locals := 22 }, [])
theorem d_FR_heightOf_0 : decode m_FR_heightOf.2.1 0 = .ok (.aload_n 1, 1) := by decide +kernel
theorem d_FR_heightOf_1 : decode m_FR_heightOf.2.1 1 = .ok (.invokevirtual 80, 3) := by decide +kernel
theorem d_FR_heightOf_4 : decode m_FR_heightOf.2.1 4 = .ok (.istore_n 2, 1) := by decide +kernel
theorem d_FR_heightOf_5 : decode m_FR_heightOf.2.1 5 = .ok (.iconst 0, 1) := by decide +kernel
theorem d_FR_heightOf_6 : decode m_FR_heightOf.2.1 6 = .ok (.istore_n 3, 1) := by decide +kernel
theorem d_FR_heightOf_7 : decode m_FR_heightOf.2.1 7 = .ok (.aload_n 0, 1) := by decide +kernel
theorem d_FR_heightOf_8 : decode m_FR_heightOf.2.1 8 = .ok (.getfield 18, 3) := by decide +kernel
theorem d_FR_heightOf_11 : decode m_FR_heightOf.2.1 11 = .ok (.astore 4, 2) := by decide +kernel
theorem d_FR_heightOf_13 : decode m_FR_heightOf.2.1 13 = .ok (.aload 4, 2) := by decide +kernel
theorem d_FR_heightOf_15 : decode m_FR_heightOf.2.1 15 = .ok (.arraylength, 1) := by decide +kernel
theorem d_FR_heightOf_16 : decode m_FR_heightOf.2.1 16 = .ok (.istore 5, 2) := by decide +kernel
theorem d_FR_heightOf_18 : decode m_FR_heightOf.2.1 18 = .ok (.iconst 0, 1) := by decide +kernel
theorem d_FR_heightOf_19 : decode m_FR_heightOf.2.1 19 = .ok (.istore 6, 2) := by decide +kernel
theorem d_FR_heightOf_21 : decode m_FR_heightOf.2.1 21 = .ok (.iload 6, 2) := by decide +kernel
theorem d_FR_heightOf_23 : decode m_FR_heightOf.2.1 23 = .ok (.iload 5, 2) := by decide +kernel
theorem d_FR_heightOf_25 : decode m_FR_heightOf.2.1 25 = .ok (.if_icmp .ge 42, 3) := by decide +kernel
theorem d_FR_heightOf_28 : decode m_FR_heightOf.2.1 28 = .ok (.aload 4, 2) := by decide +kernel
theorem d_FR_heightOf_30 : decode m_FR_heightOf.2.1 30 = .ok (.iload 6, 2) := by decide +kernel
theorem d_FR_heightOf_32 : decode m_FR_heightOf.2.1 32 = .ok (.aaload, 1) := by decide +kernel
theorem d_FR_heightOf_33 : decode m_FR_heightOf.2.1 33 = .ok (.astore 7, 2) := by decide +kernel
theorem d_FR_heightOf_35 : decode m_FR_heightOf.2.1 35 = .ok (.aload 7, 2) := by decide +kernel
theorem d_FR_heightOf_37 : decode m_FR_heightOf.2.1 37 = .ok (.ifnull 24, 3) := by decide +kernel
theorem d_FR_heightOf_40 : decode m_FR_heightOf.2.1 40 = .ok (.aload 7, 2) := by decide +kernel
theorem d_FR_heightOf_42 : decode m_FR_heightOf.2.1 42 = .ok (.aload_n 1, 1) := by decide +kernel
theorem d_FR_heightOf_43 : decode m_FR_heightOf.2.1 43 = .ok (.invokevirtual 88, 3) := by decide +kernel
theorem d_FR_heightOf_46 : decode m_FR_heightOf.2.1 46 = .ok (.ifCond .eq 15, 3) := by decide +kernel
theorem d_FR_heightOf_49 : decode m_FR_heightOf.2.1 49 = .ok (.iload_n 3, 1) := by decide +kernel
theorem d_FR_heightOf_50 : decode m_FR_heightOf.2.1 50 = .ok (.aload 7, 2) := by decide +kernel
theorem d_FR_heightOf_52 : decode m_FR_heightOf.2.1 52 = .ok (.invokevirtual 80, 3) := by decide +kernel
theorem d_FR_heightOf_55 : decode m_FR_heightOf.2.1 55 = .ok (.iload_n 2, 1) := by decide +kernel
theorem d_FR_heightOf_56 : decode m_FR_heightOf.2.1 56 = .ok (.isub, 1) := by decide +kernel
theorem d_FR_heightOf_57 : decode m_FR_heightOf.2.1 57 = .ok (.invokestatic 240, 3) := by decide +kernel
theorem d_FR_heightOf_60 : decode m_FR_heightOf.2.1 60 = .ok (.istore_n 3, 1) := by decide +kernel
theorem d_FR_heightOf_61 : decode m_FR_heightOf.2.1 61 = .ok (.iinc 6 1, 3) := by decide +kernel
theorem d_FR_heightOf_64 : decode m_FR_heightOf.2.1 64 = .ok (.goto (-43), 3) := by decide +kernel
theorem d_FR_heightOf_67 : decode m_FR_heightOf.2.1 67 = .ok (.iload_n 3, 1) := by decide +kernel
theorem d_FR_heightOf_68 : decode m_FR_heightOf.2.1 68 = .ok (.ireturn, 1) := by decide +kernel
theorem k_FR_heightOf : fw_cal m_FR_heightOf := ⟨by decide +kernel, by decide +kernel, (fw_t 1 (by decide +kernel)), Or.inl ⟨rfl, fw_t 350 (by decide +kernel)⟩⟩
abbrev m_FR_markStaleBelow : fw_M := (⟨"FolderRights", "markStaleBelow", "(LFolderRights$Node;)V"⟩, prog_1_method_28_code, 6, none, { frames := 1, cells := 0, slots := 0, locals := 22 }, [])
theorem d_FR_markStaleBelow_0 : decode m_FR_markStaleBelow.2.1 0 = .ok (.aload_n 0, 1) := by decide +kernel
theorem d_FR_markStaleBelow_1 : decode m_FR_markStaleBelow.2.1 1 = .ok (.getfield 18, 3) := by decide +kernel
theorem d_FR_markStaleBelow_4 : decode m_FR_markStaleBelow.2.1 4 = .ok (.astore_n 2, 1) := by decide +kernel
theorem d_FR_markStaleBelow_5 : decode m_FR_markStaleBelow.2.1 5 = .ok (.aload_n 2, 1) := by decide +kernel
theorem d_FR_markStaleBelow_6 : decode m_FR_markStaleBelow.2.1 6 = .ok (.arraylength, 1) := by decide +kernel
theorem d_FR_markStaleBelow_7 : decode m_FR_markStaleBelow.2.1 7 = .ok (.istore_n 3, 1) := by decide +kernel
theorem d_FR_markStaleBelow_8 : decode m_FR_markStaleBelow.2.1 8 = .ok (.iconst 0, 1) := by decide +kernel
theorem d_FR_markStaleBelow_9 : decode m_FR_markStaleBelow.2.1 9 = .ok (.istore 4, 2) := by decide +kernel
theorem d_FR_markStaleBelow_11 : decode m_FR_markStaleBelow.2.1 11 = .ok (.iload 4, 2) := by decide +kernel
theorem d_FR_markStaleBelow_13 : decode m_FR_markStaleBelow.2.1 13 = .ok (.iload_n 3, 1) := by decide +kernel
theorem d_FR_markStaleBelow_14 : decode m_FR_markStaleBelow.2.1 14 = .ok (.if_icmp .ge 41, 3) := by decide +kernel
theorem d_FR_markStaleBelow_17 : decode m_FR_markStaleBelow.2.1 17 = .ok (.aload_n 2, 1) := by decide +kernel
theorem d_FR_markStaleBelow_18 : decode m_FR_markStaleBelow.2.1 18 = .ok (.iload 4, 2) := by decide +kernel
theorem d_FR_markStaleBelow_20 : decode m_FR_markStaleBelow.2.1 20 = .ok (.aaload, 1) := by decide +kernel
theorem d_FR_markStaleBelow_21 : decode m_FR_markStaleBelow.2.1 21 = .ok (.astore 5, 2) := by decide +kernel
theorem d_FR_markStaleBelow_23 : decode m_FR_markStaleBelow.2.1 23 = .ok (.aload 5, 2) := by decide +kernel
theorem d_FR_markStaleBelow_25 : decode m_FR_markStaleBelow.2.1 25 = .ok (.ifnull 24, 3) := by decide +kernel
theorem d_FR_markStaleBelow_28 : decode m_FR_markStaleBelow.2.1 28 = .ok (.aload 5, 2) := by decide +kernel
theorem d_FR_markStaleBelow_30 : decode m_FR_markStaleBelow.2.1 30 = .ok (.aload_n 1, 1) := by decide +kernel
theorem d_FR_markStaleBelow_31 : decode m_FR_markStaleBelow.2.1 31 = .ok (.if_acmp .eq 18, 3) := by decide +kernel
theorem d_FR_markStaleBelow_34 : decode m_FR_markStaleBelow.2.1 34 = .ok (.aload 5, 2) := by decide +kernel
theorem d_FR_markStaleBelow_36 : decode m_FR_markStaleBelow.2.1 36 = .ok (.aload_n 1, 1) := by decide +kernel
theorem d_FR_markStaleBelow_37 : decode m_FR_markStaleBelow.2.1 37 = .ok (.invokevirtual 88, 3) := by decide +kernel
theorem d_FR_markStaleBelow_40 : decode m_FR_markStaleBelow.2.1 40 = .ok (.ifCond .eq 9, 3) := by decide +kernel
theorem d_FR_markStaleBelow_43 : decode m_FR_markStaleBelow.2.1 43 = .ok (.aload 5, 2) := by decide +kernel
theorem d_FR_markStaleBelow_45 : decode m_FR_markStaleBelow.2.1 45 = .ok (.iconst 1, 1) := by decide +kernel
theorem d_FR_markStaleBelow_46 : decode m_FR_markStaleBelow.2.1 46 = .ok (.putfield 110, 3) := by decide +kernel
theorem d_FR_markStaleBelow_49 : decode m_FR_markStaleBelow.2.1 49 = .ok (.iinc 4 1, 3) := by decide +kernel
theorem d_FR_markStaleBelow_52 : decode m_FR_markStaleBelow.2.1 52 = .ok (.goto (-41), 3) := by decide +kernel
theorem d_FR_markStaleBelow_55 : decode m_FR_markStaleBelow.2.1 55 = .ok (.return_, 1) := by decide +kernel
theorem k_FR_markStaleBelow : fw_cal m_FR_markStaleBelow := ⟨by decide +kernel, by decide +kernel, (fw_t 1 (by decide +kernel)), Or.inl ⟨rfl, fw_t 358 (by decide +kernel)⟩⟩
abbrev m_FR_remove : fw_M := (⟨"FolderRights", "remove", "(I)I"⟩, prog_1_method_8_code, 3, (some .int), { frames := 7, cells := 3, slots := 18, locals := 111 }, [])
theorem d_FR_remove_0 : decode m_FR_remove.2.1 0 = .ok (.aload_n 0, 1) := by decide +kernel
theorem d_FR_remove_1 : decode m_FR_remove.2.1 1 = .ok (.iload_n 1, 1) := by decide +kernel
theorem d_FR_remove_2 : decode m_FR_remove.2.1 2 = .ok (.invokevirtual 63, 3) := by decide +kernel
theorem d_FR_remove_5 : decode m_FR_remove.2.1 5 = .ok (.astore_n 2, 1) := by decide +kernel
theorem d_FR_remove_6 : decode m_FR_remove.2.1 6 = .ok (.aload_n 2, 1) := by decide +kernel
theorem d_FR_remove_7 : decode m_FR_remove.2.1 7 = .ok (.invokestatic 85, 3) := by decide +kernel
theorem d_FR_remove_10 : decode m_FR_remove.2.1 10 = .ok (.aload_n 0, 1) := by decide +kernel
theorem d_FR_remove_11 : decode m_FR_remove.2.1 11 = .ok (.aload_n 2, 1) := by decide +kernel
theorem d_FR_remove_12 : decode m_FR_remove.2.1 12 = .ok (.invokevirtual 114, 3) := by decide +kernel
theorem d_FR_remove_15 : decode m_FR_remove.2.1 15 = .ok (.ifCond .le 13, 3) := by decide +kernel
theorem d_FR_remove_18 : decode m_FR_remove.2.1 18 = .ok (.new 29, 3) := by decide +kernel
theorem d_FR_remove_21 : decode m_FR_remove.2.1 21 = .ok (.dup, 1) := by decide +kernel
theorem d_FR_remove_22 : decode m_FR_remove.2.1 22 = .ok (.ldc 117, 2) := by decide +kernel
theorem d_FR_remove_24 : decode m_FR_remove.2.1 24 = .ok (.invokespecial 33, 3) := by decide +kernel
theorem d_FR_remove_27 : decode m_FR_remove.2.1 27 = .ok (.athrow, 1) := by decide +kernel
theorem d_FR_remove_28 : decode m_FR_remove.2.1 28 = .ok (.aload_n 0, 1) := by decide +kernel
theorem d_FR_remove_29 : decode m_FR_remove.2.1 29 = .ok (.getfield 18, 3) := by decide +kernel
theorem d_FR_remove_32 : decode m_FR_remove.2.1 32 = .ok (.iload_n 1, 1) := by decide +kernel
theorem d_FR_remove_33 : decode m_FR_remove.2.1 33 = .ok (.aconst_null, 1) := by decide +kernel
theorem d_FR_remove_34 : decode m_FR_remove.2.1 34 = .ok (.aastore, 1) := by decide +kernel
theorem d_FR_remove_35 : decode m_FR_remove.2.1 35 = .ok (.aload_n 2, 1) := by decide +kernel
theorem d_FR_remove_36 : decode m_FR_remove.2.1 36 = .ok (.getfield 119, 3) := by decide +kernel
theorem d_FR_remove_39 : decode m_FR_remove.2.1 39 = .ok (.invokevirtual 123, 3) := by decide +kernel
theorem d_FR_remove_42 : decode m_FR_remove.2.1 42 = .ok (.ireturn, 1) := by decide +kernel
theorem k_FR_remove : fw_cal m_FR_remove := ⟨by decide +kernel, by decide +kernel, (fw_t 1 (by decide +kernel)), Or.inl ⟨rfl, fw_t 365 (by decide +kernel)⟩⟩
abbrev m_FR_childrenOf : fw_M := (⟨"FolderRights", "childrenOf", "(LFolderRights$Node;)I"⟩, prog_1_method_30_code, 7, (some .int), { frames := 0, cells := 0, slots := 0, locals := 0 }, [])
theorem d_FR_childrenOf_0 : decode m_FR_childrenOf.2.1 0 = .ok (.iconst 0, 1) := by decide +kernel
theorem d_FR_childrenOf_1 : decode m_FR_childrenOf.2.1 1 = .ok (.istore_n 2, 1) := by decide +kernel
theorem d_FR_childrenOf_2 : decode m_FR_childrenOf.2.1 2 = .ok (.aload_n 0, 1) := by decide +kernel
theorem d_FR_childrenOf_3 : decode m_FR_childrenOf.2.1 3 = .ok (.getfield 18, 3) := by decide +kernel
theorem d_FR_childrenOf_6 : decode m_FR_childrenOf.2.1 6 = .ok (.astore_n 3, 1) := by decide +kernel
theorem d_FR_childrenOf_7 : decode m_FR_childrenOf.2.1 7 = .ok (.aload_n 3, 1) := by decide +kernel
theorem d_FR_childrenOf_8 : decode m_FR_childrenOf.2.1 8 = .ok (.arraylength, 1) := by decide +kernel
theorem d_FR_childrenOf_9 : decode m_FR_childrenOf.2.1 9 = .ok (.istore 4, 2) := by decide +kernel
theorem d_FR_childrenOf_11 : decode m_FR_childrenOf.2.1 11 = .ok (.iconst 0, 1) := by decide +kernel
theorem d_FR_childrenOf_12 : decode m_FR_childrenOf.2.1 12 = .ok (.istore 5, 2) := by decide +kernel
theorem d_FR_childrenOf_14 : decode m_FR_childrenOf.2.1 14 = .ok (.iload 5, 2) := by decide +kernel
theorem d_FR_childrenOf_16 : decode m_FR_childrenOf.2.1 16 = .ok (.iload 4, 2) := by decide +kernel
theorem d_FR_childrenOf_18 : decode m_FR_childrenOf.2.1 18 = .ok (.if_icmp .ge 32, 3) := by decide +kernel
theorem d_FR_childrenOf_21 : decode m_FR_childrenOf.2.1 21 = .ok (.aload_n 3, 1) := by decide +kernel
theorem d_FR_childrenOf_22 : decode m_FR_childrenOf.2.1 22 = .ok (.iload 5, 2) := by decide +kernel
theorem d_FR_childrenOf_24 : decode m_FR_childrenOf.2.1 24 = .ok (.aaload, 1) := by decide +kernel
theorem d_FR_childrenOf_25 : decode m_FR_childrenOf.2.1 25 = .ok (.astore 6, 2) := by decide +kernel
theorem d_FR_childrenOf_27 : decode m_FR_childrenOf.2.1 27 = .ok (.aload 6, 2) := by decide +kernel
theorem d_FR_childrenOf_29 : decode m_FR_childrenOf.2.1 29 = .ok (.ifnull 15, 3) := by decide +kernel
theorem d_FR_childrenOf_32 : decode m_FR_childrenOf.2.1 32 = .ok (.aload 6, 2) := by decide +kernel
theorem d_FR_childrenOf_34 : decode m_FR_childrenOf.2.1 34 = .ok (.getfield 103, 3) := by decide +kernel
theorem d_FR_childrenOf_37 : decode m_FR_childrenOf.2.1 37 = .ok (.aload_n 1, 1) := by decide +kernel
theorem d_FR_childrenOf_38 : decode m_FR_childrenOf.2.1 38 = .ok (.if_acmp .ne 6, 3) := by decide +kernel
theorem d_FR_childrenOf_41 : decode m_FR_childrenOf.2.1 41 = .ok (.iinc 2 1, 3) := by decide +kernel
theorem d_FR_childrenOf_44 : decode m_FR_childrenOf.2.1 44 = .ok (.iinc 5 1, 3) := by decide +kernel
theorem d_FR_childrenOf_47 : decode m_FR_childrenOf.2.1 47 = .ok (.goto (-33), 3) := by decide +kernel
theorem d_FR_childrenOf_50 : decode m_FR_childrenOf.2.1 50 = .ok (.iload_n 2, 1) := by decide +kernel
theorem d_FR_childrenOf_51 : decode m_FR_childrenOf.2.1 51 = .ok (.ireturn, 1) := by decide +kernel
theorem k_FR_childrenOf : fw_cal m_FR_childrenOf := ⟨by decide +kernel, by decide +kernel, (fw_t 1 (by decide +kernel)), Or.inl ⟨rfl, fw_t 369 (by decide +kernel)⟩⟩
abbrev m_FR_entry : fw_M := (⟨"FolderRights", "entry", "(IIZIZII)I"⟩, prog_1_method_9_code, 9, (some .int), { frames := 8, cells := 10, slots := 72, locals := 181 }, [])
theorem d_FR_entry_0 : decode m_FR_entry.2.1 0 = .ok (.aload_n 0, 1) := by decide +kernel
theorem d_FR_entry_1 : decode m_FR_entry.2.1 1 = .ok (.iload_n 1, 1) := by decide +kernel
theorem d_FR_entry_2 : decode m_FR_entry.2.1 2 = .ok (.invokevirtual 63, 3) := by decide +kernel
theorem d_FR_entry_5 : decode m_FR_entry.2.1 5 = .ok (.astore 8, 2) := by decide +kernel
theorem d_FR_entry_7 : decode m_FR_entry.2.1 7 = .ok (.aload_n 0, 1) := by decide +kernel
theorem d_FR_entry_8 : decode m_FR_entry.2.1 8 = .ok (.iload 4, 2) := by decide +kernel
theorem d_FR_entry_10 : decode m_FR_entry.2.1 10 = .ok (.iload 5, 2) := by decide +kernel
theorem d_FR_entry_12 : decode m_FR_entry.2.1 12 = .ok (.invokevirtual 45, 3) := by decide +kernel
theorem d_FR_entry_15 : decode m_FR_entry.2.1 15 = .ok (.iload_n 2, 1) := by decide +kernel
theorem d_FR_entry_16 : decode m_FR_entry.2.1 16 = .ok (.ifCond .lt 15, 3) := by decide +kernel
theorem d_FR_entry_19 : decode m_FR_entry.2.1 19 = .ok (.iload_n 2, 1) := by decide +kernel
theorem d_FR_entry_20 : decode m_FR_entry.2.1 20 = .ok (.aload 8, 2) := by decide +kernel
theorem d_FR_entry_22 : decode m_FR_entry.2.1 22 = .ok (.getfield 119, 3) := by decide +kernel
theorem d_FR_entry_25 : decode m_FR_entry.2.1 25 = .ok (.invokevirtual 123, 3) := by decide +kernel
theorem d_FR_entry_28 : decode m_FR_entry.2.1 28 = .ok (.if_icmp .le 13, 3) := by decide +kernel
theorem d_FR_entry_31 : decode m_FR_entry.2.1 31 = .ok (.new 92, 3) := by decide +kernel
theorem d_FR_entry_34 : decode m_FR_entry.2.1 34 = .ok (.dup, 1) := by decide +kernel
theorem d_FR_entry_35 : decode m_FR_entry.2.1 35 = .ok (.ldc 127, 2) := by decide +kernel
theorem d_FR_entry_37 : decode m_FR_entry.2.1 37 = .ok (.invokespecial 96, 3) := by decide +kernel
theorem d_FR_entry_40 : decode m_FR_entry.2.1 40 = .ok (.athrow, 1) := by decide +kernel
theorem d_FR_entry_41 : decode m_FR_entry.2.1 41 = .ok (.iload 6, 2) := by decide +kernel
theorem d_FR_entry_43 : decode m_FR_entry.2.1 43 = .ok (.iconst 1, 1) := by decide +kernel
theorem d_FR_entry_44 : decode m_FR_entry.2.1 44 = .ok (.if_icmp .lt 11, 3) := by decide +kernel
theorem d_FR_entry_47 : decode m_FR_entry.2.1 47 = .ok (.iload 6, 2) := by decide +kernel
theorem d_FR_entry_49 : decode m_FR_entry.2.1 49 = .ok (.sipush 255, 3) := by decide +kernel
theorem d_FR_entry_52 : decode m_FR_entry.2.1 52 = .ok (.if_icmp .le 13, 3) := by decide +kernel
theorem d_FR_entry_55 : decode m_FR_entry.2.1 55 = .ok (.new 92, 3) := by decide +kernel
theorem d_FR_entry_58 : decode m_FR_entry.2.1 58 = .ok (.dup, 1) := by decide +kernel
theorem d_FR_entry_59 : decode m_FR_entry.2.1 59 = .ok (.ldc 129, 2) := by decide +kernel
theorem d_FR_entry_61 : decode m_FR_entry.2.1 61 = .ok (.invokespecial 96, 3) := by decide +kernel
theorem d_FR_entry_64 : decode m_FR_entry.2.1 64 = .ok (.athrow, 1) := by decide +kernel
theorem d_FR_entry_65 : decode m_FR_entry.2.1 65 = .ok (.iload 7, 2) := by decide +kernel
theorem d_FR_entry_67 : decode m_FR_entry.2.1 67 = .ok (.iconst 1, 1) := by decide +kernel
theorem d_FR_entry_68 : decode m_FR_entry.2.1 68 = .ok (.if_icmp .lt 17, 3) := by decide +kernel
theorem d_FR_entry_71 : decode m_FR_entry.2.1 71 = .ok (.iload 7, 2) := by decide +kernel
theorem d_FR_entry_73 : decode m_FR_entry.2.1 73 = .ok (.bipush 15, 2) := by decide +kernel
theorem d_FR_entry_75 : decode m_FR_entry.2.1 75 = .ok (.if_icmp .gt 10, 3) := by decide +kernel
theorem d_FR_entry_78 : decode m_FR_entry.2.1 78 = .ok (.iload 7, 2) := by decide +kernel
theorem d_FR_entry_80 : decode m_FR_entry.2.1 80 = .ok (.bipush 8, 2) := by decide +kernel
theorem d_FR_entry_82 : decode m_FR_entry.2.1 82 = .ok (.if_icmp .ne 13, 3) := by decide +kernel
theorem d_FR_entry_85 : decode m_FR_entry.2.1 85 = .ok (.new 92, 3) := by decide +kernel
theorem d_FR_entry_88 : decode m_FR_entry.2.1 88 = .ok (.dup, 1) := by decide +kernel
theorem d_FR_entry_89 : decode m_FR_entry.2.1 89 = .ok (.ldc 131, 2) := by decide +kernel
theorem d_FR_entry_91 : decode m_FR_entry.2.1 91 = .ok (.invokespecial 96, 3) := by decide +kernel
theorem d_FR_entry_94 : decode m_FR_entry.2.1 94 = .ok (.athrow, 1) := by decide +kernel
theorem d_FR_entry_95 : decode m_FR_entry.2.1 95 = .ok (.aload 8, 2) := by decide +kernel
theorem d_FR_entry_97 : decode m_FR_entry.2.1 97 = .ok (.getfield 119, 3) := by decide +kernel
theorem d_FR_entry_100 : decode m_FR_entry.2.1 100 = .ok (.invokevirtual 123, 3) := by decide +kernel
theorem d_FR_entry_103 : decode m_FR_entry.2.1 103 = .ok (.bipush 12, 2) := by decide +kernel
theorem d_FR_entry_105 : decode m_FR_entry.2.1 105 = .ok (.if_icmp .lt 13, 3) := by decide +kernel
theorem d_FR_entry_108 : decode m_FR_entry.2.1 108 = .ok (.new 29, 3) := by decide +kernel
theorem d_FR_entry_111 : decode m_FR_entry.2.1 111 = .ok (.dup, 1) := by decide +kernel
theorem d_FR_entry_112 : decode m_FR_entry.2.1 112 = .ok (.ldc 133, 2) := by decide +kernel
theorem d_FR_entry_114 : decode m_FR_entry.2.1 114 = .ok (.invokespecial 33, 3) := by decide +kernel
theorem d_FR_entry_117 : decode m_FR_entry.2.1 117 = .ok (.athrow, 1) := by decide +kernel
theorem d_FR_entry_118 : decode m_FR_entry.2.1 118 = .ok (.aload 8, 2) := by decide +kernel
theorem d_FR_entry_120 : decode m_FR_entry.2.1 120 = .ok (.getfield 119, 3) := by decide +kernel
theorem d_FR_entry_123 : decode m_FR_entry.2.1 123 = .ok (.iload_n 2, 1) := by decide +kernel
theorem d_FR_entry_124 : decode m_FR_entry.2.1 124 = .ok (.new 135, 3) := by decide +kernel
theorem d_FR_entry_127 : decode m_FR_entry.2.1 127 = .ok (.dup, 1) := by decide +kernel
theorem d_FR_entry_128 : decode m_FR_entry.2.1 128 = .ok (.iload_n 3, 1) := by decide +kernel
theorem d_FR_entry_129 : decode m_FR_entry.2.1 129 = .ok (.iload 4, 2) := by decide +kernel
theorem d_FR_entry_131 : decode m_FR_entry.2.1 131 = .ok (.iload 5, 2) := by decide +kernel
theorem d_FR_entry_133 : decode m_FR_entry.2.1 133 = .ok (.iload 6, 2) := by decide +kernel
theorem d_FR_entry_135 : decode m_FR_entry.2.1 135 = .ok (.iload 7, 2) := by decide +kernel
theorem d_FR_entry_137 : decode m_FR_entry.2.1 137 = .ok (.invokespecial 137, 3) := by decide +kernel
theorem d_FR_entry_140 : decode m_FR_entry.2.1 140 = .ok (.invokevirtual 140, 3) := by decide +kernel
theorem d_FR_entry_143 : decode m_FR_entry.2.1 143 = .ok (.aload_n 0, 1) := by decide +kernel
theorem d_FR_entry_144 : decode m_FR_entry.2.1 144 = .ok (.aload 8, 2) := by decide +kernel
theorem d_FR_entry_146 : decode m_FR_entry.2.1 146 = .ok (.invokevirtual 107, 3) := by decide +kernel
theorem d_FR_entry_149 : decode m_FR_entry.2.1 149 = .ok (.aload 8, 2) := by decide +kernel
theorem d_FR_entry_151 : decode m_FR_entry.2.1 151 = .ok (.getfield 119, 3) := by decide +kernel
theorem d_FR_entry_154 : decode m_FR_entry.2.1 154 = .ok (.invokevirtual 123, 3) := by decide +kernel
theorem d_FR_entry_157 : decode m_FR_entry.2.1 157 = .ok (.ireturn, 1) := by decide +kernel
theorem k_FR_entry : fw_cal m_FR_entry := ⟨by decide +kernel, by decide +kernel, (fw_t 1 (by decide +kernel)), Or.inl ⟨rfl, fw_t 381 (by decide +kernel)⟩⟩
abbrev m_FR_dropEntry : fw_M := (⟨"FolderRights", "dropEntry", "(II)I"⟩, prog_1_method_10_code, 4, (some .int), { frames := 7, cells := 2, slots := 12, locals := 116 }, [])
theorem d_FR_dropEntry_0 : decode m_FR_dropEntry.2.1 0 = .ok (.aload_n 0, 1) := by decide +kernel
theorem d_FR_dropEntry_1 : decode m_FR_dropEntry.2.1 1 = .ok (.iload_n 1, 1) := by decide +kernel
theorem d_FR_dropEntry_2 : decode m_FR_dropEntry.2.1 2 = .ok (.invokevirtual 63, 3) := by decide +kernel
theorem d_FR_dropEntry_5 : decode m_FR_dropEntry.2.1 5 = .ok (.astore_n 3, 1) := by decide +kernel
theorem d_FR_dropEntry_6 : decode m_FR_dropEntry.2.1 6 = .ok (.iload_n 2, 1) := by decide +kernel
theorem d_FR_dropEntry_7 : decode m_FR_dropEntry.2.1 7 = .ok (.ifCond .lt 14, 3) := by decide +kernel
theorem d_FR_dropEntry_10 : decode m_FR_dropEntry.2.1 10 = .ok (.iload_n 2, 1) := by decide +kernel
theorem d_FR_dropEntry_11 : decode m_FR_dropEntry.2.1 11 = .ok (.aload_n 3, 1) := by decide +kernel
theorem d_FR_dropEntry_12 : decode m_FR_dropEntry.2.1 12 = .ok (.getfield 119, 3) := by decide +kernel
theorem d_FR_dropEntry_15 : decode m_FR_dropEntry.2.1 15 = .ok (.invokevirtual 123, 3) := by decide +kernel
theorem d_FR_dropEntry_18 : decode m_FR_dropEntry.2.1 18 = .ok (.if_icmp .lt 13, 3) := by decide +kernel
theorem d_FR_dropEntry_21 : decode m_FR_dropEntry.2.1 21 = .ok (.new 144, 3) := by decide +kernel
theorem d_FR_dropEntry_24 : decode m_FR_dropEntry.2.1 24 = .ok (.dup, 1) := by decide +kernel
theorem d_FR_dropEntry_25 : decode m_FR_dropEntry.2.1 25 = .ok (.ldc 146, 2) := by decide +kernel
theorem d_FR_dropEntry_27 : decode m_FR_dropEntry.2.1 27 = .ok (.invokespecial 148, 3) := by decide +kernel
theorem d_FR_dropEntry_30 : decode m_FR_dropEntry.2.1 30 = .ok (.athrow, 1) := by decide +kernel
theorem d_FR_dropEntry_31 : decode m_FR_dropEntry.2.1 31 = .ok (.aload_n 3, 1) := by decide +kernel
theorem d_FR_dropEntry_32 : decode m_FR_dropEntry.2.1 32 = .ok (.getfield 119, 3) := by decide +kernel
theorem d_FR_dropEntry_35 : decode m_FR_dropEntry.2.1 35 = .ok (.iload_n 2, 1) := by decide +kernel
theorem d_FR_dropEntry_36 : decode m_FR_dropEntry.2.1 36 = .ok (.invokevirtual 149, 3) := by decide +kernel
theorem d_FR_dropEntry_39 : decode m_FR_dropEntry.2.1 39 = .ok (.pop, 1) := by decide +kernel
theorem d_FR_dropEntry_40 : decode m_FR_dropEntry.2.1 40 = .ok (.aload_n 0, 1) := by decide +kernel
theorem d_FR_dropEntry_41 : decode m_FR_dropEntry.2.1 41 = .ok (.aload_n 3, 1) := by decide +kernel
theorem d_FR_dropEntry_42 : decode m_FR_dropEntry.2.1 42 = .ok (.invokevirtual 107, 3) := by decide +kernel
theorem d_FR_dropEntry_45 : decode m_FR_dropEntry.2.1 45 = .ok (.aload_n 3, 1) := by decide +kernel
theorem d_FR_dropEntry_46 : decode m_FR_dropEntry.2.1 46 = .ok (.getfield 119, 3) := by decide +kernel
theorem d_FR_dropEntry_49 : decode m_FR_dropEntry.2.1 49 = .ok (.invokevirtual 123, 3) := by decide +kernel
theorem d_FR_dropEntry_52 : decode m_FR_dropEntry.2.1 52 = .ok (.ireturn, 1) := by decide +kernel
theorem k_FR_dropEntry : fw_cal m_FR_dropEntry := ⟨by decide +kernel, by decide +kernel, (fw_t 1 (by decide +kernel)), Or.inl ⟨rfl, fw_t 472 (by decide +kernel)⟩⟩
abbrev m_FR_block : fw_M := (⟨"FolderRights", "block", "(IZ)Z"⟩, prog_1_method_11_code, 5, (some .boolean), { frames := 7, cells := 1, slots := 6, locals := 111 }, [])
theorem d_FR_block_0 : decode m_FR_block.2.1 0 = .ok (.aload_n 0, 1) := by decide +kernel
theorem d_FR_block_1 : decode m_FR_block.2.1 1 = .ok (.iload_n 1, 1) := by decide +kernel
theorem d_FR_block_2 : decode m_FR_block.2.1 2 = .ok (.invokevirtual 63, 3) := by decide +kernel
theorem d_FR_block_5 : decode m_FR_block.2.1 5 = .ok (.astore_n 3, 1) := by decide +kernel
theorem d_FR_block_6 : decode m_FR_block.2.1 6 = .ok (.aload_n 3, 1) := by decide +kernel
theorem d_FR_block_7 : decode m_FR_block.2.1 7 = .ok (.getfield 153, 3) := by decide +kernel
theorem d_FR_block_10 : decode m_FR_block.2.1 10 = .ok (.istore 4, 2) := by decide +kernel
theorem d_FR_block_12 : decode m_FR_block.2.1 12 = .ok (.iload 4, 2) := by decide +kernel
theorem d_FR_block_14 : decode m_FR_block.2.1 14 = .ok (.iload_n 2, 1) := by decide +kernel
theorem d_FR_block_15 : decode m_FR_block.2.1 15 = .ok (.if_icmp .eq 18, 3) := by decide +kernel
theorem d_FR_block_18 : decode m_FR_block.2.1 18 = .ok (.aload_n 3, 1) := by decide +kernel
theorem d_FR_block_19 : decode m_FR_block.2.1 19 = .ok (.iload_n 2, 1) := by decide +kernel
theorem d_FR_block_20 : decode m_FR_block.2.1 20 = .ok (.putfield 153, 3) := by decide +kernel
theorem d_FR_block_23 : decode m_FR_block.2.1 23 = .ok (.aload_n 0, 1) := by decide +kernel
theorem d_FR_block_24 : decode m_FR_block.2.1 24 = .ok (.aload_n 3, 1) := by decide +kernel
theorem d_FR_block_25 : decode m_FR_block.2.1 25 = .ok (.invokevirtual 107, 3) := by decide +kernel
theorem d_FR_block_28 : decode m_FR_block.2.1 28 = .ok (.aload_n 3, 1) := by decide +kernel
theorem d_FR_block_29 : decode m_FR_block.2.1 29 = .ok (.iconst 1, 1) := by decide +kernel
theorem d_FR_block_30 : decode m_FR_block.2.1 30 = .ok (.putfield 110, 3) := by decide +kernel
theorem d_FR_block_33 : decode m_FR_block.2.1 33 = .ok (.iload 4, 2) := by decide +kernel
theorem d_FR_block_35 : decode m_FR_block.2.1 35 = .ok (.ireturn, 1) := by decide +kernel
theorem k_FR_block : fw_cal m_FR_block := ⟨by decide +kernel, by decide +kernel, (fw_t 1 (by decide +kernel)), Or.inl ⟨rfl, fw_t 494 (by decide +kernel)⟩⟩
abbrev m_FR_owner : fw_M := (⟨"FolderRights", "owner", "(II)I"⟩, prog_1_method_12_code, 5, (some .int), { frames := 7, cells := 2, slots := 12, locals := 111 }, [])
theorem d_FR_owner_0 : decode m_FR_owner.2.1 0 = .ok (.aload_n 0, 1) := by decide +kernel
theorem d_FR_owner_1 : decode m_FR_owner.2.1 1 = .ok (.iload_n 1, 1) := by decide +kernel
theorem d_FR_owner_2 : decode m_FR_owner.2.1 2 = .ok (.invokevirtual 63, 3) := by decide +kernel
theorem d_FR_owner_5 : decode m_FR_owner.2.1 5 = .ok (.astore_n 3, 1) := by decide +kernel
theorem d_FR_owner_6 : decode m_FR_owner.2.1 6 = .ok (.aload_n 0, 1) := by decide +kernel
theorem d_FR_owner_7 : decode m_FR_owner.2.1 7 = .ok (.iload_n 2, 1) := by decide +kernel
theorem d_FR_owner_8 : decode m_FR_owner.2.1 8 = .ok (.invokevirtual 67, 3) := by decide +kernel
theorem d_FR_owner_11 : decode m_FR_owner.2.1 11 = .ok (.aload_n 3, 1) := by decide +kernel
theorem d_FR_owner_12 : decode m_FR_owner.2.1 12 = .ok (.getfield 156, 3) := by decide +kernel
theorem d_FR_owner_15 : decode m_FR_owner.2.1 15 = .ok (.istore 4, 2) := by decide +kernel
theorem d_FR_owner_17 : decode m_FR_owner.2.1 17 = .ok (.aload_n 3, 1) := by decide +kernel
theorem d_FR_owner_18 : decode m_FR_owner.2.1 18 = .ok (.iload_n 2, 1) := by decide +kernel
theorem d_FR_owner_19 : decode m_FR_owner.2.1 19 = .ok (.putfield 156, 3) := by decide +kernel
theorem d_FR_owner_22 : decode m_FR_owner.2.1 22 = .ok (.iload 4, 2) := by decide +kernel
theorem d_FR_owner_24 : decode m_FR_owner.2.1 24 = .ok (.ireturn, 1) := by decide +kernel
theorem k_FR_owner : fw_cal m_FR_owner := ⟨by decide +kernel, by decide +kernel, (fw_t 1 (by decide +kernel)), Or.inl ⟨rfl, fw_t 501 (by decide +kernel)⟩⟩
abbrev m_FR_rights : fw_M := (⟨"FolderRights", "rights", "(II)I"⟩, prog_1_method_13_code, 6, (some .int), { frames := 7, cells := 2, slots := 12, locals := 123 }, [])
theorem d_FR_rights_0 : decode m_FR_rights.2.1 0 = .ok (.aload_n 0, 1) := by decide +kernel
theorem d_FR_rights_1 : decode m_FR_rights.2.1 1 = .ok (.iload_n 1, 1) := by decide +kernel
theorem d_FR_rights_2 : decode m_FR_rights.2.1 2 = .ok (.invokevirtual 67, 3) := by decide +kernel
theorem d_FR_rights_5 : decode m_FR_rights.2.1 5 = .ok (.aload_n 0, 1) := by decide +kernel
theorem d_FR_rights_6 : decode m_FR_rights.2.1 6 = .ok (.iload_n 2, 1) := by decide +kernel
theorem d_FR_rights_7 : decode m_FR_rights.2.1 7 = .ok (.invokevirtual 63, 3) := by decide +kernel
theorem d_FR_rights_10 : decode m_FR_rights.2.1 10 = .ok (.astore_n 3, 1) := by decide +kernel
theorem d_FR_rights_11 : decode m_FR_rights.2.1 11 = .ok (.aload_n 3, 1) := by decide +kernel
theorem d_FR_rights_12 : decode m_FR_rights.2.1 12 = .ok (.iconst 0, 1) := by decide +kernel
theorem d_FR_rights_13 : decode m_FR_rights.2.1 13 = .ok (.putfield 110, 3) := by decide +kernel
theorem d_FR_rights_16 : decode m_FR_rights.2.1 16 = .ok (.iconst 0, 1) := by decide +kernel
theorem d_FR_rights_17 : decode m_FR_rights.2.1 17 = .ok (.istore 4, 2) := by decide +kernel
theorem d_FR_rights_19 : decode m_FR_rights.2.1 19 = .ok (.iconst 0, 1) := by decide +kernel
theorem d_FR_rights_20 : decode m_FR_rights.2.1 20 = .ok (.istore 5, 2) := by decide +kernel
theorem d_FR_rights_22 : decode m_FR_rights.2.1 22 = .ok (.iload 5, 2) := by decide +kernel
theorem d_FR_rights_24 : decode m_FR_rights.2.1 24 = .ok (.bipush 8, 2) := by decide +kernel
theorem d_FR_rights_26 : decode m_FR_rights.2.1 26 = .ok (.if_icmp .ge 32, 3) := by decide +kernel
theorem d_FR_rights_29 : decode m_FR_rights.2.1 29 = .ok (.aload_n 0, 1) := by decide +kernel
theorem d_FR_rights_30 : decode m_FR_rights.2.1 30 = .ok (.aload_n 3, 1) := by decide +kernel
theorem d_FR_rights_31 : decode m_FR_rights.2.1 31 = .ok (.iload 5, 2) := by decide +kernel
theorem d_FR_rights_33 : decode m_FR_rights.2.1 33 = .ok (.invokevirtual 159, 3) := by decide +kernel
theorem d_FR_rights_36 : decode m_FR_rights.2.1 36 = .ok (.iload_n 1, 1) := by decide +kernel
theorem d_FR_rights_37 : decode m_FR_rights.2.1 37 = .ok (.invokestatic 163, 3) := by decide +kernel
theorem d_FR_rights_40 : decode m_FR_rights.2.1 40 = .ok (.ifCond .eq 12, 3) := by decide +kernel
theorem d_FR_rights_43 : decode m_FR_rights.2.1 43 = .ok (.iload 4, 2) := by decide +kernel
theorem d_FR_rights_45 : decode m_FR_rights.2.1 45 = .ok (.iconst 1, 1) := by decide +kernel
theorem d_FR_rights_46 : decode m_FR_rights.2.1 46 = .ok (.iload 5, 2) := by decide +kernel
theorem d_FR_rights_48 : decode m_FR_rights.2.1 48 = .ok (.ishl, 1) := by decide +kernel
theorem d_FR_rights_49 : decode m_FR_rights.2.1 49 = .ok (.ior, 1) := by decide +kernel
theorem d_FR_rights_50 : decode m_FR_rights.2.1 50 = .ok (.istore 4, 2) := by decide +kernel
theorem d_FR_rights_52 : decode m_FR_rights.2.1 52 = .ok (.iinc 5 1, 3) := by decide +kernel
theorem d_FR_rights_55 : decode m_FR_rights.2.1 55 = .ok (.goto (-33), 3) := by decide +kernel
theorem d_FR_rights_58 : decode m_FR_rights.2.1 58 = .ok (.iload 4, 2) := by decide +kernel
theorem d_FR_rights_60 : decode m_FR_rights.2.1 60 = .ok (.ireturn, 1) := by decide +kernel
theorem k_FR_rights : fw_cal m_FR_rights := ⟨by decide +kernel, by decide +kernel, (fw_t 1 (by decide +kernel)), Or.inl ⟨rfl, fw_t 508 (by decide +kernel)⟩⟩
abbrev m_FR_holders : fw_M := (⟨"FolderRights", "holders", "(LFolderRights$Node;I)J"⟩, prog_1_method_23_code, 12, (some .long), { frames := 4, cells := 0, slots := 0, locals := 92 }, [])
theorem d_FR_holders_0 : decode m_FR_holders.2.1 0 = .ok (.iload_n 2, 1) := by decide +kernel
theorem d_FR_holders_1 : decode m_FR_holders.2.1 1 = .ok (.bipush 7, 2) := by decide +kernel
theorem d_FR_holders_3 : decode m_FR_holders.2.1 3 = .ok (.if_icmp .ne 12, 3) := by decide +kernel
theorem d_FR_holders_6 : decode m_FR_holders.2.1 6 = .ok (.lconst 1, 1) := by decide +kernel
theorem d_FR_holders_7 : decode m_FR_holders.2.1 7 = .ok (.aload_n 1, 1) := by decide +kernel
theorem d_FR_holders_8 : decode m_FR_holders.2.1 8 = .ok (.getfield 156, 3) := by decide +kernel
theorem d_FR_holders_11 : decode m_FR_holders.2.1 11 = .ok (.lshl, 1) := by decide +kernel
theorem d_FR_holders_12 : decode m_FR_holders.2.1 12 = .ok (.goto 4, 3) := by decide +kernel
theorem d_FR_holders_15 : decode m_FR_holders.2.1 15 = .ok (.lconst 0, 1) := by decide +kernel
theorem d_FR_holders_16 : decode m_FR_holders.2.1 16 = .ok (.lstore_n 3, 1) := by decide +kernel
theorem d_FR_holders_17 : decode m_FR_holders.2.1 17 = .ok (.lload_n 3, 1) := by decide +kernel
theorem d_FR_holders_18 : decode m_FR_holders.2.1 18 = .ok (.lstore 5, 2) := by decide +kernel
theorem d_FR_holders_20 : decode m_FR_holders.2.1 20 = .ok (.aload_n 1, 1) := by decide +kernel
theorem d_FR_holders_21 : decode m_FR_holders.2.1 21 = .ok (.astore 7, 2) := by decide +kernel
theorem d_FR_holders_23 : decode m_FR_holders.2.1 23 = .ok (.aload 7, 2) := by decide +kernel
theorem d_FR_holders_25 : decode m_FR_holders.2.1 25 = .ok (.ifnull 64, 3) := by decide +kernel
theorem d_FR_holders_28 : decode m_FR_holders.2.1 28 = .ok (.aload_n 0, 1) := by decide +kernel
theorem d_FR_holders_29 : decode m_FR_holders.2.1 29 = .ok (.aload 7, 2) := by decide +kernel
theorem d_FR_holders_31 : decode m_FR_holders.2.1 31 = .ok (.aload_n 1, 1) := by decide +kernel
theorem d_FR_holders_32 : decode m_FR_holders.2.1 32 = .ok (.iload_n 2, 1) := by decide +kernel
theorem d_FR_holders_33 : decode m_FR_holders.2.1 33 = .ok (.iconst 0, 1) := by decide +kernel
theorem d_FR_holders_34 : decode m_FR_holders.2.1 34 = .ok (.invokevirtual 216, 3) := by decide +kernel
theorem d_FR_holders_37 : decode m_FR_holders.2.1 37 = .ok (.lstore 8, 2) := by decide +kernel
theorem d_FR_holders_39 : decode m_FR_holders.2.1 39 = .ok (.aload_n 0, 1) := by decide +kernel
theorem d_FR_holders_40 : decode m_FR_holders.2.1 40 = .ok (.aload 7, 2) := by decide +kernel
theorem d_FR_holders_42 : decode m_FR_holders.2.1 42 = .ok (.aload_n 1, 1) := by decide +kernel
theorem d_FR_holders_43 : decode m_FR_holders.2.1 43 = .ok (.iload_n 2, 1) := by decide +kernel
theorem d_FR_holders_44 : decode m_FR_holders.2.1 44 = .ok (.iconst 1, 1) := by decide +kernel
theorem d_FR_holders_45 : decode m_FR_holders.2.1 45 = .ok (.invokevirtual 216, 3) := by decide +kernel
theorem d_FR_holders_48 : decode m_FR_holders.2.1 48 = .ok (.lstore 10, 2) := by decide +kernel
theorem d_FR_holders_50 : decode m_FR_holders.2.1 50 = .ok (.lload_n 3, 1) := by decide +kernel
theorem d_FR_holders_51 : decode m_FR_holders.2.1 51 = .ok (.lload 10, 2) := by decide +kernel
theorem d_FR_holders_53 : decode m_FR_holders.2.1 53 = .ok (.lload 8, 2) := by decide +kernel
theorem d_FR_holders_55 : decode m_FR_holders.2.1 55 = .ok (.ldc2_w 220, 3) := by decide +kernel
theorem d_FR_holders_58 : decode m_FR_holders.2.1 58 = .ok (.lxor, 1) := by decide +kernel
theorem d_FR_holders_59 : decode m_FR_holders.2.1 59 = .ok (.land, 1) := by decide +kernel
theorem d_FR_holders_60 : decode m_FR_holders.2.1 60 = .ok (.lload 5, 2) := by decide +kernel
theorem d_FR_holders_62 : decode m_FR_holders.2.1 62 = .ok (.ldc2_w 220, 3) := by decide +kernel
theorem d_FR_holders_65 : decode m_FR_holders.2.1 65 = .ok (.lxor, 1) := by decide +kernel
theorem d_FR_holders_66 : decode m_FR_holders.2.1 66 = .ok (.land, 1) := by decide +kernel
theorem d_FR_holders_67 : decode m_FR_holders.2.1 67 = .ok (.lor, 1) := by decide +kernel
theorem d_FR_holders_68 : decode m_FR_holders.2.1 68 = .ok (.lstore_n 3, 1) := by decide +kernel
theorem d_FR_holders_69 : decode m_FR_holders.2.1 69 = .ok (.lload 5, 2) := by decide +kernel
theorem d_FR_holders_71 : decode m_FR_holders.2.1 71 = .ok (.lload 8, 2) := by decide +kernel
theorem d_FR_holders_73 : decode m_FR_holders.2.1 73 = .ok (.lload 10, 2) := by decide +kernel
theorem d_FR_holders_75 : decode m_FR_holders.2.1 75 = .ok (.lor, 1) := by decide +kernel
theorem d_FR_holders_76 : decode m_FR_holders.2.1 76 = .ok (.lor, 1) := by decide +kernel
theorem d_FR_holders_77 : decode m_FR_holders.2.1 77 = .ok (.lstore 5, 2) := by decide +kernel
theorem d_FR_holders_79 : decode m_FR_holders.2.1 79 = .ok (.aload 7, 2) := by decide +kernel
theorem d_FR_holders_81 : decode m_FR_holders.2.1 81 = .ok (.invokevirtual 189, 3) := by decide +kernel
theorem d_FR_holders_84 : decode m_FR_holders.2.1 84 = .ok (.astore 7, 2) := by decide +kernel
theorem d_FR_holders_86 : decode m_FR_holders.2.1 86 = .ok (.goto (-63), 3) := by decide +kernel
theorem d_FR_holders_89 : decode m_FR_holders.2.1 89 = .ok (.lload_n 3, 1) := by decide +kernel
theorem d_FR_holders_90 : decode m_FR_holders.2.1 90 = .ok (.lreturn, 1) := by decide +kernel
theorem k_FR_holders : fw_cal m_FR_holders := ⟨by decide +kernel, by decide +kernel, (fw_t 1 (by decide +kernel)), Or.inl ⟨rfl, fw_t 512 (by decide +kernel)⟩⟩
abbrev m_FR_hitUsers : fw_M := (⟨"FolderRights", "hitUsers", "(LFolderRights$Node;LFolderRights$Node;IZ)J"⟩, prog_1_method_24_code, 9, (some .long), { frames := 3, cells := 0, slots := 0, locals := 64 }, [])
theorem d_FR_hitUsers_0 : decode m_FR_hitUsers.2.1 0 = .ok (.lconst 0, 1) := by decide +kernel
theorem d_FR_hitUsers_1 : decode m_FR_hitUsers.2.1 1 = .ok (.lstore 5, 2) := by decide +kernel
theorem d_FR_hitUsers_3 : decode m_FR_hitUsers.2.1 3 = .ok (.iconst 0, 1) := by decide +kernel
theorem d_FR_hitUsers_4 : decode m_FR_hitUsers.2.1 4 = .ok (.istore 7, 2) := by decide +kernel
theorem d_FR_hitUsers_6 : decode m_FR_hitUsers.2.1 6 = .ok (.iload 7, 2) := by decide +kernel
theorem d_FR_hitUsers_8 : decode m_FR_hitUsers.2.1 8 = .ok (.aload_n 1, 1) := by decide +kernel
theorem d_FR_hitUsers_9 : decode m_FR_hitUsers.2.1 9 = .ok (.getfield 119, 3) := by decide +kernel
theorem d_FR_hitUsers_12 : decode m_FR_hitUsers.2.1 12 = .ok (.invokevirtual 123, 3) := by decide +kernel
theorem d_FR_hitUsers_15 : decode m_FR_hitUsers.2.1 15 = .ok (.if_icmp .ge 63, 3) := by decide +kernel
theorem d_FR_hitUsers_18 : decode m_FR_hitUsers.2.1 18 = .ok (.aload_n 1, 1) := by decide +kernel
theorem d_FR_hitUsers_19 : decode m_FR_hitUsers.2.1 19 = .ok (.getfield 119, 3) := by decide +kernel
theorem d_FR_hitUsers_22 : decode m_FR_hitUsers.2.1 22 = .ok (.iload 7, 2) := by decide +kernel
theorem d_FR_hitUsers_24 : decode m_FR_hitUsers.2.1 24 = .ok (.invokevirtual 180, 3) := by decide +kernel
theorem d_FR_hitUsers_27 : decode m_FR_hitUsers.2.1 27 = .ok (.checkcast 135, 3) := by decide +kernel
theorem d_FR_hitUsers_30 : decode m_FR_hitUsers.2.1 30 = .ok (.astore 8, 2) := by decide +kernel
theorem d_FR_hitUsers_32 : decode m_FR_hitUsers.2.1 32 = .ok (.aload 8, 2) := by decide +kernel
theorem d_FR_hitUsers_34 : decode m_FR_hitUsers.2.1 34 = .ok (.getfield 183, 3) := by decide +kernel
theorem d_FR_hitUsers_37 : decode m_FR_hitUsers.2.1 37 = .ok (.iload 4, 2) := by decide +kernel
theorem d_FR_hitUsers_39 : decode m_FR_hitUsers.2.1 39 = .ok (.if_icmp .ne 33, 3) := by decide +kernel
theorem d_FR_hitUsers_42 : decode m_FR_hitUsers.2.1 42 = .ok (.aload 8, 2) := by decide +kernel
theorem d_FR_hitUsers_44 : decode m_FR_hitUsers.2.1 44 = .ok (.iload_n 3, 1) := by decide +kernel
theorem d_FR_hitUsers_45 : decode m_FR_hitUsers.2.1 45 = .ok (.invokevirtual 222, 3) := by decide +kernel
theorem d_FR_hitUsers_48 : decode m_FR_hitUsers.2.1 48 = .ok (.ifCond .eq 24, 3) := by decide +kernel
theorem d_FR_hitUsers_51 : decode m_FR_hitUsers.2.1 51 = .ok (.aload 8, 2) := by decide +kernel
theorem d_FR_hitUsers_53 : decode m_FR_hitUsers.2.1 53 = .ok (.aload_n 1, 1) := by decide +kernel
theorem d_FR_hitUsers_54 : decode m_FR_hitUsers.2.1 54 = .ok (.aload_n 2, 1) := by decide +kernel
theorem d_FR_hitUsers_55 : decode m_FR_hitUsers.2.1 55 = .ok (.invokevirtual 226, 3) := by decide +kernel
theorem d_FR_hitUsers_58 : decode m_FR_hitUsers.2.1 58 = .ok (.ifCond .eq 14, 3) := by decide +kernel
theorem d_FR_hitUsers_61 : decode m_FR_hitUsers.2.1 61 = .ok (.lload 5, 2) := by decide +kernel
theorem d_FR_hitUsers_63 : decode m_FR_hitUsers.2.1 63 = .ok (.aload_n 0, 1) := by decide +kernel
theorem d_FR_hitUsers_64 : decode m_FR_hitUsers.2.1 64 = .ok (.aload 8, 2) := by decide +kernel
theorem d_FR_hitUsers_66 : decode m_FR_hitUsers.2.1 66 = .ok (.invokevirtual 230, 3) := by decide +kernel
theorem d_FR_hitUsers_69 : decode m_FR_hitUsers.2.1 69 = .ok (.lor, 1) := by decide +kernel
theorem d_FR_hitUsers_70 : decode m_FR_hitUsers.2.1 70 = .ok (.lstore 5, 2) := by decide +kernel
theorem d_FR_hitUsers_72 : decode m_FR_hitUsers.2.1 72 = .ok (.iinc 7 1, 3) := by decide +kernel
theorem d_FR_hitUsers_75 : decode m_FR_hitUsers.2.1 75 = .ok (.goto (-69), 3) := by decide +kernel
theorem d_FR_hitUsers_78 : decode m_FR_hitUsers.2.1 78 = .ok (.lload 5, 2) := by decide +kernel
theorem d_FR_hitUsers_80 : decode m_FR_hitUsers.2.1 80 = .ok (.lreturn, 1) := by decide +kernel
theorem k_FR_hitUsers : fw_cal m_FR_hitUsers := ⟨by decide +kernel, by decide +kernel, (fw_t 1 (by decide +kernel)), Or.inl ⟨rfl, fw_t 516 (by decide +kernel)⟩⟩
abbrev m_FR_namedUsers : fw_M := (⟨"FolderRights", "namedUsers", "(LFolderRights$Entry;)J"⟩, prog_1_method_26_code, 2, (some .long), { frames := 0, cells := 0, slots := 0, locals := 0 }, [])
theorem d_FR_namedUsers_0 : decode m_FR_namedUsers.2.1 0 = .ok (.aload_n 1, 1) := by decide +kernel
theorem d_FR_namedUsers_1 : decode m_FR_namedUsers.2.1 1 = .ok (.getfield 234, 3) := by decide +kernel
theorem d_FR_namedUsers_4 : decode m_FR_namedUsers.2.1 4 = .ok (.ifCond .eq 18, 3) := by decide +kernel
theorem d_FR_namedUsers_7 : decode m_FR_namedUsers.2.1 7 = .ok (.aload_n 0, 1) := by decide +kernel
theorem d_FR_namedUsers_8 : decode m_FR_namedUsers.2.1 8 = .ok (.getfield 10, 3) := by decide +kernel
theorem d_FR_namedUsers_11 : decode m_FR_namedUsers.2.1 11 = .ok (.getfield 196, 3) := by decide +kernel
theorem d_FR_namedUsers_14 : decode m_FR_namedUsers.2.1 14 = .ok (.aload_n 1, 1) := by decide +kernel
theorem d_FR_namedUsers_15 : decode m_FR_namedUsers.2.1 15 = .ok (.getfield 237, 3) := by decide +kernel
theorem d_FR_namedUsers_18 : decode m_FR_namedUsers.2.1 18 = .ok (.laload, 1) := by decide +kernel
theorem d_FR_namedUsers_19 : decode m_FR_namedUsers.2.1 19 = .ok (.goto 9, 3) := by decide +kernel
theorem d_FR_namedUsers_22 : decode m_FR_namedUsers.2.1 22 = .ok (.lconst 1, 1) := by decide +kernel
theorem d_FR_namedUsers_23 : decode m_FR_namedUsers.2.1 23 = .ok (.aload_n 1, 1) := by decide +kernel
theorem d_FR_namedUsers_24 : decode m_FR_namedUsers.2.1 24 = .ok (.getfield 237, 3) := by decide +kernel
theorem d_FR_namedUsers_27 : decode m_FR_namedUsers.2.1 27 = .ok (.lshl, 1) := by decide +kernel
theorem d_FR_namedUsers_28 : decode m_FR_namedUsers.2.1 28 = .ok (.lreturn, 1) := by decide +kernel
theorem k_FR_namedUsers : fw_cal m_FR_namedUsers := ⟨by decide +kernel, by decide +kernel, (fw_t 1 (by decide +kernel)), Or.inl ⟨rfl, fw_t 537 (by decide +kernel)⟩⟩
abbrev m_FR_explain : fw_M := (⟨"FolderRights", "explain", "(IIII)I"⟩, prog_1_method_14_code, 9, (some .int), { frames := 7, cells := 4, slots := 24, locals := 111 }, [])
theorem d_FR_explain_0 : decode m_FR_explain.2.1 0 = .ok (.aload_n 0, 1) := by decide +kernel
theorem d_FR_explain_1 : decode m_FR_explain.2.1 1 = .ok (.iload_n 1, 1) := by decide +kernel
theorem d_FR_explain_2 : decode m_FR_explain.2.1 2 = .ok (.invokevirtual 67, 3) := by decide +kernel
theorem d_FR_explain_5 : decode m_FR_explain.2.1 5 = .ok (.aload_n 0, 1) := by decide +kernel
theorem d_FR_explain_6 : decode m_FR_explain.2.1 6 = .ok (.iload_n 2, 1) := by decide +kernel
theorem d_FR_explain_7 : decode m_FR_explain.2.1 7 = .ok (.invokevirtual 63, 3) := by decide +kernel
theorem d_FR_explain_10 : decode m_FR_explain.2.1 10 = .ok (.astore 5, 2) := by decide +kernel
theorem d_FR_explain_12 : decode m_FR_explain.2.1 12 = .ok (.iload_n 3, 1) := by decide +kernel
theorem d_FR_explain_13 : decode m_FR_explain.2.1 13 = .ok (.invokestatic 167, 3) := by decide +kernel
theorem d_FR_explain_16 : decode m_FR_explain.2.1 16 = .ok (.iload 4, 2) := by decide +kernel
theorem d_FR_explain_18 : decode m_FR_explain.2.1 18 = .ok (.ifCond .lt 9, 3) := by decide +kernel
theorem d_FR_explain_21 : decode m_FR_explain.2.1 21 = .ok (.iload 4, 2) := by decide +kernel
theorem d_FR_explain_23 : decode m_FR_explain.2.1 23 = .ok (.iconst 2, 1) := by decide +kernel
theorem d_FR_explain_24 : decode m_FR_explain.2.1 24 = .ok (.if_icmp .le 13, 3) := by decide +kernel
theorem d_FR_explain_27 : decode m_FR_explain.2.1 27 = .ok (.new 92, 3) := by decide +kernel
theorem d_FR_explain_30 : decode m_FR_explain.2.1 30 = .ok (.dup, 1) := by decide +kernel
theorem d_FR_explain_31 : decode m_FR_explain.2.1 31 = .ok (.ldc 170, 2) := by decide +kernel
theorem d_FR_explain_33 : decode m_FR_explain.2.1 33 = .ok (.invokespecial 96, 3) := by decide +kernel
theorem d_FR_explain_36 : decode m_FR_explain.2.1 36 = .ok (.athrow, 1) := by decide +kernel
theorem d_FR_explain_37 : decode m_FR_explain.2.1 37 = .ok (.aload 5, 2) := by decide +kernel
theorem d_FR_explain_39 : decode m_FR_explain.2.1 39 = .ok (.iconst 0, 1) := by decide +kernel
theorem d_FR_explain_40 : decode m_FR_explain.2.1 40 = .ok (.putfield 110, 3) := by decide +kernel
theorem d_FR_explain_43 : decode m_FR_explain.2.1 43 = .ok (.iload_n 3, 1) := by decide +kernel
theorem d_FR_explain_44 : decode m_FR_explain.2.1 44 = .ok (.bipush 7, 2) := by decide +kernel
theorem d_FR_explain_46 : decode m_FR_explain.2.1 46 = .ok (.if_icmp .ne 21, 3) := by decide +kernel
theorem d_FR_explain_49 : decode m_FR_explain.2.1 49 = .ok (.aload 5, 2) := by decide +kernel
theorem d_FR_explain_51 : decode m_FR_explain.2.1 51 = .ok (.getfield 156, 3) := by decide +kernel
theorem d_FR_explain_54 : decode m_FR_explain.2.1 54 = .ok (.iload_n 1, 1) := by decide +kernel
theorem d_FR_explain_55 : decode m_FR_explain.2.1 55 = .ok (.if_icmp .ne 12, 3) := by decide +kernel
theorem d_FR_explain_58 : decode m_FR_explain.2.1 58 = .ok (.iload 4, 2) := by decide +kernel
theorem d_FR_explain_60 : decode m_FR_explain.2.1 60 = .ok (.iconst 0, 1) := by decide +kernel
theorem d_FR_explain_61 : decode m_FR_explain.2.1 61 = .ok (.iload_n 2, 1) := by decide +kernel
theorem d_FR_explain_62 : decode m_FR_explain.2.1 62 = .ok (.iconst (-1), 1) := by decide +kernel
theorem d_FR_explain_63 : decode m_FR_explain.2.1 63 = .ok (.invokestatic 172, 3) := by decide +kernel
theorem d_FR_explain_66 : decode m_FR_explain.2.1 66 = .ok (.ireturn, 1) := by decide +kernel
theorem d_FR_explain_67 : decode m_FR_explain.2.1 67 = .ok (.aload 5, 2) := by decide +kernel
theorem d_FR_explain_69 : decode m_FR_explain.2.1 69 = .ok (.astore 6, 2) := by decide +kernel
theorem d_FR_explain_71 : decode m_FR_explain.2.1 71 = .ok (.aload 6, 2) := by decide +kernel
theorem d_FR_explain_73 : decode m_FR_explain.2.1 73 = .ok (.ifnull 72, 3) := by decide +kernel
theorem d_FR_explain_76 : decode m_FR_explain.2.1 76 = .ok (.aload_n 0, 1) := by decide +kernel
theorem d_FR_explain_77 : decode m_FR_explain.2.1 77 = .ok (.aload 6, 2) := by decide +kernel
theorem d_FR_explain_79 : decode m_FR_explain.2.1 79 = .ok (.aload 5, 2) := by decide +kernel
theorem d_FR_explain_81 : decode m_FR_explain.2.1 81 = .ok (.iload_n 1, 1) := by decide +kernel
theorem d_FR_explain_82 : decode m_FR_explain.2.1 82 = .ok (.iload_n 3, 1) := by decide +kernel
theorem d_FR_explain_83 : decode m_FR_explain.2.1 83 = .ok (.invokevirtual 176, 3) := by decide +kernel
theorem d_FR_explain_86 : decode m_FR_explain.2.1 86 = .ok (.istore 7, 2) := by decide +kernel
theorem d_FR_explain_88 : decode m_FR_explain.2.1 88 = .ok (.iload 7, 2) := by decide +kernel
theorem d_FR_explain_90 : decode m_FR_explain.2.1 90 = .ok (.iconst (-1), 1) := by decide +kernel
theorem d_FR_explain_91 : decode m_FR_explain.2.1 91 = .ok (.if_icmp .eq 44, 3) := by decide +kernel
theorem d_FR_explain_94 : decode m_FR_explain.2.1 94 = .ok (.aload 6, 2) := by decide +kernel
theorem d_FR_explain_96 : decode m_FR_explain.2.1 96 = .ok (.getfield 119, 3) := by decide +kernel
theorem d_FR_explain_99 : decode m_FR_explain.2.1 99 = .ok (.iload 7, 2) := by decide +kernel
theorem d_FR_explain_101 : decode m_FR_explain.2.1 101 = .ok (.invokevirtual 180, 3) := by decide +kernel
theorem d_FR_explain_104 : decode m_FR_explain.2.1 104 = .ok (.checkcast 135, 3) := by decide +kernel
theorem d_FR_explain_107 : decode m_FR_explain.2.1 107 = .ok (.getfield 183, 3) := by decide +kernel
theorem d_FR_explain_110 : decode m_FR_explain.2.1 110 = .ok (.ifCond .eq 7, 3) := by decide +kernel
theorem d_FR_explain_113 : decode m_FR_explain.2.1 113 = .ok (.iconst 1, 1) := by decide +kernel
theorem d_FR_explain_114 : decode m_FR_explain.2.1 114 = .ok (.goto 4, 3) := by decide +kernel
theorem d_FR_explain_117 : decode m_FR_explain.2.1 117 = .ok (.iconst 2, 1) := by decide +kernel
theorem d_FR_explain_118 : decode m_FR_explain.2.1 118 = .ok (.istore 8, 2) := by decide +kernel
theorem d_FR_explain_120 : decode m_FR_explain.2.1 120 = .ok (.iload 4, 2) := by decide +kernel
theorem d_FR_explain_122 : decode m_FR_explain.2.1 122 = .ok (.iload 8, 2) := by decide +kernel
theorem d_FR_explain_124 : decode m_FR_explain.2.1 124 = .ok (.aload 6, 2) := by decide +kernel
theorem d_FR_explain_126 : decode m_FR_explain.2.1 126 = .ok (.getfield 186, 3) := by decide +kernel
theorem d_FR_explain_129 : decode m_FR_explain.2.1 129 = .ok (.iload 7, 2) := by decide +kernel
theorem d_FR_explain_131 : decode m_FR_explain.2.1 131 = .ok (.invokestatic 172, 3) := by decide +kernel
theorem d_FR_explain_134 : decode m_FR_explain.2.1 134 = .ok (.ireturn, 1) := by decide +kernel
theorem d_FR_explain_135 : decode m_FR_explain.2.1 135 = .ok (.aload 6, 2) := by decide +kernel
theorem d_FR_explain_137 : decode m_FR_explain.2.1 137 = .ok (.invokevirtual 189, 3) := by decide +kernel
theorem d_FR_explain_140 : decode m_FR_explain.2.1 140 = .ok (.astore 6, 2) := by decide +kernel
theorem d_FR_explain_142 : decode m_FR_explain.2.1 142 = .ok (.goto (-71), 3) := by decide +kernel
theorem d_FR_explain_145 : decode m_FR_explain.2.1 145 = .ok (.iload 4, 2) := by decide +kernel
theorem d_FR_explain_147 : decode m_FR_explain.2.1 147 = .ok (.iconst 3, 1) := by decide +kernel
theorem d_FR_explain_148 : decode m_FR_explain.2.1 148 = .ok (.iconst (-1), 1) := by decide +kernel
theorem d_FR_explain_149 : decode m_FR_explain.2.1 149 = .ok (.iconst (-1), 1) := by decide +kernel
theorem d_FR_explain_150 : decode m_FR_explain.2.1 150 = .ok (.invokestatic 172, 3) := by decide +kernel
theorem d_FR_explain_153 : decode m_FR_explain.2.1 153 = .ok (.ireturn, 1) := by decide +kernel
theorem k_FR_explain : fw_cal m_FR_explain := ⟨by decide +kernel, by decide +kernel, (fw_t 1 (by decide +kernel)), Or.inl ⟨rfl, fw_t 550 (by decide +kernel)⟩⟩
abbrev m_FR_requireRight : fw_M := (⟨"FolderRights", "requireRight", "(I)V"⟩, prog_1_method_40_code, 1, none, { frames := 6, cells := 1, slots := 6, locals := 90 }, [])
theorem d_FR_requireRight_0 : decode m_FR_requireRight.2.1 0 = .ok (.iload_n 0, 1) := by decide +kernel
theorem d_FR_requireRight_1 : decode m_FR_requireRight.2.1 1 = .ok (.ifCond .lt 9, 3) := by decide +kernel
theorem d_FR_requireRight_4 : decode m_FR_requireRight.2.1 4 = .ok (.iload_n 0, 1) := by decide +kernel
theorem d_FR_requireRight_5 : decode m_FR_requireRight.2.1 5 = .ok (.bipush 8, 2) := by decide +kernel
theorem d_FR_requireRight_7 : decode m_FR_requireRight.2.1 7 = .ok (.if_icmp .lt 14, 3) := by decide +kernel
theorem d_FR_requireRight_10 : decode m_FR_requireRight.2.1 10 = .ok (.new 92, 3) := by decide +kernel
theorem d_FR_requireRight_13 : decode m_FR_requireRight.2.1 13 = .ok (.dup, 1) := by decide +kernel
theorem d_FR_requireRight_14 : decode m_FR_requireRight.2.1 14 = .ok (.ldc_w 256, 3) := by decide +kernel
theorem d_FR_requireRight_17 : decode m_FR_requireRight.2.1 17 = .ok (.invokespecial 96, 3) := by decide +kernel
theorem d_FR_requireRight_20 : decode m_FR_requireRight.2.1 20 = .ok (.athrow, 1) := by decide +kernel
theorem d_FR_requireRight_21 : decode m_FR_requireRight.2.1 21 = .ok (.return_, 1) := by decide +kernel
theorem k_FR_requireRight : fw_cal m_FR_requireRight := ⟨by decide +kernel, by decide +kernel, (fw_t 1 (by decide +kernel)), Or.inl ⟨rfl, fw_t 553 (by decide +kernel)⟩⟩
abbrev m_FR_fieldOf : fw_M := (⟨"FolderRights", "fieldOf", "(IIII)I"⟩, prog_1_method_27_code, 4, (some .int), { frames := 0, cells := 0, slots := 0, locals := 0 }, [])
theorem d_FR_fieldOf_0 : decode m_FR_fieldOf.2.1 0 = .ok (.iload_n 0, 1) := by decide +kernel
theorem d_FR_fieldOf_1 : decode m_FR_fieldOf.2.1 1 = .ok (.ifCond .ne 5, 3) := by decide +kernel
theorem d_FR_fieldOf_4 : decode m_FR_fieldOf.2.1 4 = .ok (.iload_n 1, 1) := by decide +kernel
theorem d_FR_fieldOf_5 : decode m_FR_fieldOf.2.1 5 = .ok (.ireturn, 1) := by decide +kernel
theorem d_FR_fieldOf_6 : decode m_FR_fieldOf.2.1 6 = .ok (.iload_n 0, 1) := by decide +kernel
theorem d_FR_fieldOf_7 : decode m_FR_fieldOf.2.1 7 = .ok (.iconst 1, 1) := by decide +kernel
theorem d_FR_fieldOf_8 : decode m_FR_fieldOf.2.1 8 = .ok (.if_icmp .ne 7, 3) := by decide +kernel
theorem d_FR_fieldOf_11 : decode m_FR_fieldOf.2.1 11 = .ok (.iload_n 2, 1) := by decide +kernel
theorem d_FR_fieldOf_12 : decode m_FR_fieldOf.2.1 12 = .ok (.goto 4, 3) := by decide +kernel
theorem d_FR_fieldOf_15 : decode m_FR_fieldOf.2.1 15 = .ok (.iload_n 3, 1) := by decide +kernel
theorem d_FR_fieldOf_16 : decode m_FR_fieldOf.2.1 16 = .ok (.ireturn, 1) := by decide +kernel
theorem k_FR_fieldOf : fw_cal m_FR_fieldOf := ⟨by decide +kernel, by decide +kernel, (fw_t 1 (by decide +kernel)), Or.inl ⟨rfl, fw_t 558 (by decide +kernel)⟩⟩
abbrev m_FR_decidingPosition : fw_M := (⟨"FolderRights", "decidingPosition", "(LFolderRights$Node;LFolderRights$Node;II)I"⟩, prog_1_method_25_code, 8, (some .int), { frames := 3, cells := 0, slots := 0, locals := 64 }, [])
theorem d_FR_decidingPosition_0 : decode m_FR_decidingPosition.2.1 0 = .ok (.iconst (-1), 1) := by decide +kernel
theorem d_FR_decidingPosition_1 : decode m_FR_decidingPosition.2.1 1 = .ok (.istore 5, 2) := by decide +kernel
theorem d_FR_decidingPosition_3 : decode m_FR_decidingPosition.2.1 3 = .ok (.iconst 0, 1) := by decide +kernel
theorem d_FR_decidingPosition_4 : decode m_FR_decidingPosition.2.1 4 = .ok (.istore 6, 2) := by decide +kernel
theorem d_FR_decidingPosition_6 : decode m_FR_decidingPosition.2.1 6 = .ok (.iload 6, 2) := by decide +kernel
theorem d_FR_decidingPosition_8 : decode m_FR_decidingPosition.2.1 8 = .ok (.aload_n 1, 1) := by decide +kernel
theorem d_FR_decidingPosition_9 : decode m_FR_decidingPosition.2.1 9 = .ok (.getfield 119, 3) := by decide +kernel
theorem d_FR_decidingPosition_12 : decode m_FR_decidingPosition.2.1 12 = .ok (.invokevirtual 123, 3) := by decide +kernel
theorem d_FR_decidingPosition_15 : decode m_FR_decidingPosition.2.1 15 = .ok (.if_icmp .ge 77, 3) := by decide +kernel
theorem d_FR_decidingPosition_18 : decode m_FR_decidingPosition.2.1 18 = .ok (.aload_n 1, 1) := by decide +kernel
theorem d_FR_decidingPosition_19 : decode m_FR_decidingPosition.2.1 19 = .ok (.getfield 119, 3) := by decide +kernel
theorem d_FR_decidingPosition_22 : decode m_FR_decidingPosition.2.1 22 = .ok (.iload 6, 2) := by decide +kernel
theorem d_FR_decidingPosition_24 : decode m_FR_decidingPosition.2.1 24 = .ok (.invokevirtual 180, 3) := by decide +kernel
theorem d_FR_decidingPosition_27 : decode m_FR_decidingPosition.2.1 27 = .ok (.checkcast 135, 3) := by decide +kernel
theorem d_FR_decidingPosition_30 : decode m_FR_decidingPosition.2.1 30 = .ok (.astore 7, 2) := by decide +kernel
theorem d_FR_decidingPosition_32 : decode m_FR_decidingPosition.2.1 32 = .ok (.aload 7, 2) := by decide +kernel
theorem d_FR_decidingPosition_34 : decode m_FR_decidingPosition.2.1 34 = .ok (.iload 4, 2) := by decide +kernel
theorem d_FR_decidingPosition_36 : decode m_FR_decidingPosition.2.1 36 = .ok (.invokevirtual 222, 3) := by decide +kernel
theorem d_FR_decidingPosition_39 : decode m_FR_decidingPosition.2.1 39 = .ok (.ifCond .eq 47, 3) := by decide +kernel
theorem d_FR_decidingPosition_42 : decode m_FR_decidingPosition.2.1 42 = .ok (.aload 7, 2) := by decide +kernel
theorem d_FR_decidingPosition_44 : decode m_FR_decidingPosition.2.1 44 = .ok (.aload_n 1, 1) := by decide +kernel
theorem d_FR_decidingPosition_45 : decode m_FR_decidingPosition.2.1 45 = .ok (.aload_n 2, 1) := by decide +kernel
theorem d_FR_decidingPosition_46 : decode m_FR_decidingPosition.2.1 46 = .ok (.invokevirtual 226, 3) := by decide +kernel
theorem d_FR_decidingPosition_49 : decode m_FR_decidingPosition.2.1 49 = .ok (.ifCond .eq 37, 3) := by decide +kernel
theorem d_FR_decidingPosition_52 : decode m_FR_decidingPosition.2.1 52 = .ok (.aload_n 0, 1) := by decide +kernel
theorem d_FR_decidingPosition_53 : decode m_FR_decidingPosition.2.1 53 = .ok (.aload 7, 2) := by decide +kernel
theorem d_FR_decidingPosition_55 : decode m_FR_decidingPosition.2.1 55 = .ok (.invokevirtual 230, 3) := by decide +kernel
theorem d_FR_decidingPosition_58 : decode m_FR_decidingPosition.2.1 58 = .ok (.iload_n 3, 1) := by decide +kernel
theorem d_FR_decidingPosition_59 : decode m_FR_decidingPosition.2.1 59 = .ok (.invokestatic 163, 3) := by decide +kernel
theorem d_FR_decidingPosition_62 : decode m_FR_decidingPosition.2.1 62 = .ok (.ifCond .eq 24, 3) := by decide +kernel
theorem d_FR_decidingPosition_65 : decode m_FR_decidingPosition.2.1 65 = .ok (.aload 7, 2) := by decide +kernel
theorem d_FR_decidingPosition_67 : decode m_FR_decidingPosition.2.1 67 = .ok (.getfield 183, 3) := by decide +kernel
theorem d_FR_decidingPosition_70 : decode m_FR_decidingPosition.2.1 70 = .ok (.ifCond .ne 6, 3) := by decide +kernel
theorem d_FR_decidingPosition_73 : decode m_FR_decidingPosition.2.1 73 = .ok (.iload 6, 2) := by decide +kernel
theorem d_FR_decidingPosition_75 : decode m_FR_decidingPosition.2.1 75 = .ok (.ireturn, 1) := by decide +kernel
theorem d_FR_decidingPosition_76 : decode m_FR_decidingPosition.2.1 76 = .ok (.iload 5, 2) := by decide +kernel
theorem d_FR_decidingPosition_78 : decode m_FR_decidingPosition.2.1 78 = .ok (.iconst (-1), 1) := by decide +kernel
theorem d_FR_decidingPosition_79 : decode m_FR_decidingPosition.2.1 79 = .ok (.if_icmp .ne 7, 3) := by decide +kernel
theorem d_FR_decidingPosition_82 : decode m_FR_decidingPosition.2.1 82 = .ok (.iload 6, 2) := by decide +kernel
theorem d_FR_decidingPosition_84 : decode m_FR_decidingPosition.2.1 84 = .ok (.istore 5, 2) := by decide +kernel
theorem d_FR_decidingPosition_86 : decode m_FR_decidingPosition.2.1 86 = .ok (.iinc 6 1, 3) := by decide +kernel
theorem d_FR_decidingPosition_89 : decode m_FR_decidingPosition.2.1 89 = .ok (.goto (-83), 3) := by decide +kernel
theorem d_FR_decidingPosition_92 : decode m_FR_decidingPosition.2.1 92 = .ok (.iload 5, 2) := by decide +kernel
theorem d_FR_decidingPosition_94 : decode m_FR_decidingPosition.2.1 94 = .ok (.ireturn, 1) := by decide +kernel
theorem k_FR_decidingPosition : fw_cal m_FR_decidingPosition := ⟨by decide +kernel, by decide +kernel, (fw_t 1 (by decide +kernel)), Or.inl ⟨rfl, fw_t 562 (by decide +kernel)⟩⟩
abbrev m_FR_who : fw_M := (⟨"FolderRights", "who", "(III)I"⟩, prog_1_method_15_code, 9, (some .int), { frames := 7, cells := 3, slots := 18, locals := 123 }, [])
theorem d_FR_who_0 : decode m_FR_who.2.1 0 = .ok (.aload_n 0, 1) := by decide +kernel
theorem d_FR_who_1 : decode m_FR_who.2.1 1 = .ok (.iload_n 1, 1) := by decide +kernel
theorem d_FR_who_2 : decode m_FR_who.2.1 2 = .ok (.invokevirtual 63, 3) := by decide +kernel
theorem d_FR_who_5 : decode m_FR_who.2.1 5 = .ok (.astore 4, 2) := by decide +kernel
theorem d_FR_who_7 : decode m_FR_who.2.1 7 = .ok (.iload_n 2, 1) := by decide +kernel
theorem d_FR_who_8 : decode m_FR_who.2.1 8 = .ok (.invokestatic 167, 3) := by decide +kernel
theorem d_FR_who_11 : decode m_FR_who.2.1 11 = .ok (.iload_n 3, 1) := by decide +kernel
theorem d_FR_who_12 : decode m_FR_who.2.1 12 = .ok (.invokestatic 193, 3) := by decide +kernel
theorem d_FR_who_15 : decode m_FR_who.2.1 15 = .ok (.aload 4, 2) := by decide +kernel
theorem d_FR_who_17 : decode m_FR_who.2.1 17 = .ok (.iconst 0, 1) := by decide +kernel
theorem d_FR_who_18 : decode m_FR_who.2.1 18 = .ok (.putfield 110, 3) := by decide +kernel
theorem d_FR_who_21 : decode m_FR_who.2.1 21 = .ok (.aload_n 0, 1) := by decide +kernel
theorem d_FR_who_22 : decode m_FR_who.2.1 22 = .ok (.aload 4, 2) := by decide +kernel
theorem d_FR_who_24 : decode m_FR_who.2.1 24 = .ok (.iload_n 2, 1) := by decide +kernel
theorem d_FR_who_25 : decode m_FR_who.2.1 25 = .ok (.invokevirtual 159, 3) := by decide +kernel
theorem d_FR_who_28 : decode m_FR_who.2.1 28 = .ok (.lstore 5, 2) := by decide +kernel
theorem d_FR_who_30 : decode m_FR_who.2.1 30 = .ok (.iconst 0, 1) := by decide +kernel
theorem d_FR_who_31 : decode m_FR_who.2.1 31 = .ok (.istore 7, 2) := by decide +kernel
theorem d_FR_who_33 : decode m_FR_who.2.1 33 = .ok (.iconst 0, 1) := by decide +kernel
theorem d_FR_who_34 : decode m_FR_who.2.1 34 = .ok (.istore 8, 2) := by decide +kernel
theorem d_FR_who_36 : decode m_FR_who.2.1 36 = .ok (.iload 8, 2) := by decide +kernel
theorem d_FR_who_38 : decode m_FR_who.2.1 38 = .ok (.aload_n 0, 1) := by decide +kernel
theorem d_FR_who_39 : decode m_FR_who.2.1 39 = .ok (.getfield 25, 3) := by decide +kernel
theorem d_FR_who_42 : decode m_FR_who.2.1 42 = .ok (.if_icmp .ge 31, 3) := by decide +kernel
theorem d_FR_who_45 : decode m_FR_who.2.1 45 = .ok (.lload 5, 2) := by decide +kernel
theorem d_FR_who_47 : decode m_FR_who.2.1 47 = .ok (.iload 8, 2) := by decide +kernel
theorem d_FR_who_49 : decode m_FR_who.2.1 49 = .ok (.invokestatic 163, 3) := by decide +kernel
theorem d_FR_who_52 : decode m_FR_who.2.1 52 = .ok (.ifCond .eq 15, 3) := by decide +kernel
theorem d_FR_who_55 : decode m_FR_who.2.1 55 = .ok (.iload 7, 2) := by decide +kernel
theorem d_FR_who_57 : decode m_FR_who.2.1 57 = .ok (.iload_n 3, 1) := by decide +kernel
theorem d_FR_who_58 : decode m_FR_who.2.1 58 = .ok (.if_icmp .ne 6, 3) := by decide +kernel
theorem d_FR_who_61 : decode m_FR_who.2.1 61 = .ok (.iload 8, 2) := by decide +kernel
theorem d_FR_who_63 : decode m_FR_who.2.1 63 = .ok (.ireturn, 1) := by decide +kernel
theorem d_FR_who_64 : decode m_FR_who.2.1 64 = .ok (.iinc 7 1, 3) := by decide +kernel
theorem d_FR_who_67 : decode m_FR_who.2.1 67 = .ok (.iinc 8 1, 3) := by decide +kernel
theorem d_FR_who_70 : decode m_FR_who.2.1 70 = .ok (.goto (-34), 3) := by decide +kernel
theorem d_FR_who_73 : decode m_FR_who.2.1 73 = .ok (.iconst (-1), 1) := by decide +kernel
theorem d_FR_who_74 : decode m_FR_who.2.1 74 = .ok (.ireturn, 1) := by decide +kernel
theorem k_FR_who : fw_cal m_FR_who := ⟨by decide +kernel, by decide +kernel, (fw_t 1 (by decide +kernel)), Or.inl ⟨rfl, fw_t 569 (by decide +kernel)⟩⟩
abbrev m_FR_requirePlace : fw_M := (⟨"FolderRights", "requirePlace", "(I)V"⟩, prog_1_method_41_code, 1, none, { frames := 6, cells := 1, slots := 6, locals := 90 }, [])
theorem d_FR_requirePlace_0 : decode m_FR_requirePlace.2.1 0 = .ok (.iload_n 0, 1) := by decide +kernel
theorem d_FR_requirePlace_1 : decode m_FR_requirePlace.2.1 1 = .ok (.ifCond .ge 14, 3) := by decide +kernel
theorem d_FR_requirePlace_4 : decode m_FR_requirePlace.2.1 4 = .ok (.new 92, 3) := by decide +kernel
theorem d_FR_requirePlace_7 : decode m_FR_requirePlace.2.1 7 = .ok (.dup, 1) := by decide +kernel
theorem d_FR_requirePlace_8 : decode m_FR_requirePlace.2.1 8 = .ok (.ldc_w 258, 3) := by decide +kernel
theorem d_FR_requirePlace_11 : decode m_FR_requirePlace.2.1 11 = .ok (.invokespecial 96, 3) := by decide +kernel
theorem d_FR_requirePlace_14 : decode m_FR_requirePlace.2.1 14 = .ok (.athrow, 1) := by decide +kernel
theorem d_FR_requirePlace_15 : decode m_FR_requirePlace.2.1 15 = .ok (.return_, 1) := by decide +kernel
theorem k_FR_requirePlace : fw_cal m_FR_requirePlace := ⟨by decide +kernel, by decide +kernel, (fw_t 1 (by decide +kernel)), Or.inl ⟨rfl, fw_t 572 (by decide +kernel)⟩⟩
abbrev m_FR_where : fw_M := (⟨"FolderRights", "where", "(III)I"⟩, prog_1_method_16_code, 9, (some .int), { frames := 7, cells := 3, slots := 18, locals := 123 }, [])
theorem d_FR_where_0 : decode m_FR_where.2.1 0 = .ok (.aload_n 0, 1) := by decide +kernel
theorem d_FR_where_1 : decode m_FR_where.2.1 1 = .ok (.iload_n 1, 1) := by decide +kernel
theorem d_FR_where_2 : decode m_FR_where.2.1 2 = .ok (.invokevirtual 67, 3) := by decide +kernel
theorem d_FR_where_5 : decode m_FR_where.2.1 5 = .ok (.iload_n 2, 1) := by decide +kernel
theorem d_FR_where_6 : decode m_FR_where.2.1 6 = .ok (.invokestatic 167, 3) := by decide +kernel
theorem d_FR_where_9 : decode m_FR_where.2.1 9 = .ok (.iload_n 3, 1) := by decide +kernel
theorem d_FR_where_10 : decode m_FR_where.2.1 10 = .ok (.invokestatic 193, 3) := by decide +kernel
theorem d_FR_where_13 : decode m_FR_where.2.1 13 = .ok (.iconst 0, 1) := by decide +kernel
theorem d_FR_where_14 : decode m_FR_where.2.1 14 = .ok (.istore 4, 2) := by decide +kernel
theorem d_FR_where_16 : decode m_FR_where.2.1 16 = .ok (.aload_n 0, 1) := by decide +kernel
theorem d_FR_where_17 : decode m_FR_where.2.1 17 = .ok (.getfield 18, 3) := by decide +kernel
theorem d_FR_where_20 : decode m_FR_where.2.1 20 = .ok (.astore 5, 2) := by decide +kernel
theorem d_FR_where_22 : decode m_FR_where.2.1 22 = .ok (.aload 5, 2) := by decide +kernel
theorem d_FR_where_24 : decode m_FR_where.2.1 24 = .ok (.arraylength, 1) := by decide +kernel
theorem d_FR_where_25 : decode m_FR_where.2.1 25 = .ok (.istore 6, 2) := by decide +kernel
theorem d_FR_where_27 : decode m_FR_where.2.1 27 = .ok (.iconst 0, 1) := by decide +kernel
theorem d_FR_where_28 : decode m_FR_where.2.1 28 = .ok (.istore 7, 2) := by decide +kernel
theorem d_FR_where_30 : decode m_FR_where.2.1 30 = .ok (.iload 7, 2) := by decide +kernel
theorem d_FR_where_32 : decode m_FR_where.2.1 32 = .ok (.iload 6, 2) := by decide +kernel
theorem d_FR_where_34 : decode m_FR_where.2.1 34 = .ok (.if_icmp .ge 56, 3) := by decide +kernel
theorem d_FR_where_37 : decode m_FR_where.2.1 37 = .ok (.aload 5, 2) := by decide +kernel
theorem d_FR_where_39 : decode m_FR_where.2.1 39 = .ok (.iload 7, 2) := by decide +kernel
theorem d_FR_where_41 : decode m_FR_where.2.1 41 = .ok (.aaload, 1) := by decide +kernel
theorem d_FR_where_42 : decode m_FR_where.2.1 42 = .ok (.astore 8, 2) := by decide +kernel
theorem d_FR_where_44 : decode m_FR_where.2.1 44 = .ok (.aload 8, 2) := by decide +kernel
theorem d_FR_where_46 : decode m_FR_where.2.1 46 = .ok (.ifnull 38, 3) := by decide +kernel
theorem d_FR_where_49 : decode m_FR_where.2.1 49 = .ok (.aload 8, 2) := by decide +kernel
theorem d_FR_where_51 : decode m_FR_where.2.1 51 = .ok (.iconst 0, 1) := by decide +kernel
theorem d_FR_where_52 : decode m_FR_where.2.1 52 = .ok (.putfield 110, 3) := by decide +kernel
theorem d_FR_where_55 : decode m_FR_where.2.1 55 = .ok (.aload_n 0, 1) := by decide +kernel
theorem d_FR_where_56 : decode m_FR_where.2.1 56 = .ok (.aload 8, 2) := by decide +kernel
theorem d_FR_where_58 : decode m_FR_where.2.1 58 = .ok (.iload_n 2, 1) := by decide +kernel
theorem d_FR_where_59 : decode m_FR_where.2.1 59 = .ok (.invokevirtual 159, 3) := by decide +kernel
theorem d_FR_where_62 : decode m_FR_where.2.1 62 = .ok (.iload_n 1, 1) := by decide +kernel
theorem d_FR_where_63 : decode m_FR_where.2.1 63 = .ok (.invokestatic 163, 3) := by decide +kernel
theorem d_FR_where_66 : decode m_FR_where.2.1 66 = .ok (.ifCond .eq 18, 3) := by decide +kernel
theorem d_FR_where_69 : decode m_FR_where.2.1 69 = .ok (.iload 4, 2) := by decide +kernel
theorem d_FR_where_71 : decode m_FR_where.2.1 71 = .ok (.iload_n 3, 1) := by decide +kernel
theorem d_FR_where_72 : decode m_FR_where.2.1 72 = .ok (.if_icmp .ne 9, 3) := by decide +kernel
theorem d_FR_where_75 : decode m_FR_where.2.1 75 = .ok (.aload 8, 2) := by decide +kernel
theorem d_FR_where_77 : decode m_FR_where.2.1 77 = .ok (.getfield 186, 3) := by decide +kernel
theorem d_FR_where_80 : decode m_FR_where.2.1 80 = .ok (.ireturn, 1) := by decide +kernel
theorem d_FR_where_81 : decode m_FR_where.2.1 81 = .ok (.iinc 4 1, 3) := by decide +kernel
theorem d_FR_where_84 : decode m_FR_where.2.1 84 = .ok (.iinc 7 1, 3) := by decide +kernel
theorem d_FR_where_87 : decode m_FR_where.2.1 87 = .ok (.goto (-57), 3) := by decide +kernel
theorem d_FR_where_90 : decode m_FR_where.2.1 90 = .ok (.iconst (-1), 1) := by decide +kernel
theorem d_FR_where_91 : decode m_FR_where.2.1 91 = .ok (.ireturn, 1) := by decide +kernel
theorem k_FR_where : fw_cal m_FR_where := ⟨by decide +kernel, by decide +kernel, (fw_t 1 (by decide +kernel)), Or.inl ⟨rfl, fw_t 580 (by decide +kernel)⟩⟩
abbrev m_FR_same : fw_M := (⟨"FolderRights", "same", "(II)Z"⟩, prog_1_method_17_code, 6, (some .boolean), { frames := 7, cells := 2, slots := 12, locals := 123 }, [])
theorem d_FR_same_0 : decode m_FR_same.2.1 0 = .ok (.aload_n 0, 1) := by decide +kernel
theorem d_FR_same_1 : decode m_FR_same.2.1 1 = .ok (.iload_n 1, 1) := by decide +kernel
theorem d_FR_same_2 : decode m_FR_same.2.1 2 = .ok (.invokevirtual 63, 3) := by decide +kernel
theorem d_FR_same_5 : decode m_FR_same.2.1 5 = .ok (.astore_n 3, 1) := by decide +kernel
theorem d_FR_same_6 : decode m_FR_same.2.1 6 = .ok (.aload_n 0, 1) := by decide +kernel
theorem d_FR_same_7 : decode m_FR_same.2.1 7 = .ok (.iload_n 2, 1) := by decide +kernel
theorem d_FR_same_8 : decode m_FR_same.2.1 8 = .ok (.invokevirtual 63, 3) := by decide +kernel
theorem d_FR_same_11 : decode m_FR_same.2.1 11 = .ok (.astore 4, 2) := by decide +kernel
theorem d_FR_same_13 : decode m_FR_same.2.1 13 = .ok (.aload_n 3, 1) := by decide +kernel
theorem d_FR_same_14 : decode m_FR_same.2.1 14 = .ok (.iconst 0, 1) := by decide +kernel
theorem d_FR_same_15 : decode m_FR_same.2.1 15 = .ok (.putfield 110, 3) := by decide +kernel
theorem d_FR_same_18 : decode m_FR_same.2.1 18 = .ok (.aload 4, 2) := by decide +kernel
theorem d_FR_same_20 : decode m_FR_same.2.1 20 = .ok (.iconst 0, 1) := by decide +kernel
theorem d_FR_same_21 : decode m_FR_same.2.1 21 = .ok (.putfield 110, 3) := by decide +kernel
theorem d_FR_same_24 : decode m_FR_same.2.1 24 = .ok (.iconst 0, 1) := by decide +kernel
theorem d_FR_same_25 : decode m_FR_same.2.1 25 = .ok (.istore 5, 2) := by decide +kernel
theorem d_FR_same_27 : decode m_FR_same.2.1 27 = .ok (.iload 5, 2) := by decide +kernel
theorem d_FR_same_29 : decode m_FR_same.2.1 29 = .ok (.bipush 8, 2) := by decide +kernel
theorem d_FR_same_31 : decode m_FR_same.2.1 31 = .ok (.if_icmp .ge 30, 3) := by decide +kernel
theorem d_FR_same_34 : decode m_FR_same.2.1 34 = .ok (.aload_n 0, 1) := by decide +kernel
theorem d_FR_same_35 : decode m_FR_same.2.1 35 = .ok (.aload_n 3, 1) := by decide +kernel
theorem d_FR_same_36 : decode m_FR_same.2.1 36 = .ok (.iload 5, 2) := by decide +kernel
theorem d_FR_same_38 : decode m_FR_same.2.1 38 = .ok (.invokevirtual 159, 3) := by decide +kernel
theorem d_FR_same_41 : decode m_FR_same.2.1 41 = .ok (.aload_n 0, 1) := by decide +kernel
theorem d_FR_same_42 : decode m_FR_same.2.1 42 = .ok (.aload 4, 2) := by decide +kernel
theorem d_FR_same_44 : decode m_FR_same.2.1 44 = .ok (.iload 5, 2) := by decide +kernel
theorem d_FR_same_46 : decode m_FR_same.2.1 46 = .ok (.invokevirtual 159, 3) := by decide +kernel
theorem d_FR_same_49 : decode m_FR_same.2.1 49 = .ok (.lcmp, 1) := by decide +kernel
theorem d_FR_same_50 : decode m_FR_same.2.1 50 = .ok (.ifCond .eq 5, 3) := by decide +kernel
theorem d_FR_same_53 : decode m_FR_same.2.1 53 = .ok (.iconst 0, 1) := by decide +kernel
theorem d_FR_same_54 : decode m_FR_same.2.1 54 = .ok (.ireturn, 1) := by decide +kernel
theorem d_FR_same_55 : decode m_FR_same.2.1 55 = .ok (.iinc 5 1, 3) := by decide +kernel
theorem d_FR_same_58 : decode m_FR_same.2.1 58 = .ok (.goto (-31), 3) := by decide +kernel
theorem d_FR_same_61 : decode m_FR_same.2.1 61 = .ok (.iconst 1, 1) := by decide +kernel
theorem d_FR_same_62 : decode m_FR_same.2.1 62 = .ok (.ireturn, 1) := by decide +kernel
theorem k_FR_same : fw_cal m_FR_same := ⟨by decide +kernel, by decide +kernel, (fw_t 1 (by decide +kernel)), Or.inl ⟨rfl, fw_t 587 (by decide +kernel)⟩⟩
abbrev m_FR_in : fw_M := (⟨"FolderRights", "in", "(II)Z"⟩, prog_1_method_20_code, 3, (some .boolean), { frames := 7, cells := 2, slots := 12, locals := 111 }, [])
theorem d_FR_in_0 : decode m_FR_in.2.1 0 = .ok (.aload_n 0, 1) := by decide +kernel
theorem d_FR_in_1 : decode m_FR_in.2.1 1 = .ok (.iload_n 1, 1) := by decide +kernel
theorem d_FR_in_2 : decode m_FR_in.2.1 2 = .ok (.invokevirtual 41, 3) := by decide +kernel
theorem d_FR_in_5 : decode m_FR_in.2.1 5 = .ok (.aload_n 0, 1) := by decide +kernel
theorem d_FR_in_6 : decode m_FR_in.2.1 6 = .ok (.iload_n 2, 1) := by decide +kernel
theorem d_FR_in_7 : decode m_FR_in.2.1 7 = .ok (.invokevirtual 67, 3) := by decide +kernel
theorem d_FR_in_10 : decode m_FR_in.2.1 10 = .ok (.aload_n 0, 1) := by decide +kernel
theorem d_FR_in_11 : decode m_FR_in.2.1 11 = .ok (.getfield 10, 3) := by decide +kernel
theorem d_FR_in_14 : decode m_FR_in.2.1 14 = .ok (.getfield 196, 3) := by decide +kernel
theorem d_FR_in_17 : decode m_FR_in.2.1 17 = .ok (.iload_n 1, 1) := by decide +kernel
theorem d_FR_in_18 : decode m_FR_in.2.1 18 = .ok (.laload, 1) := by decide +kernel
theorem d_FR_in_19 : decode m_FR_in.2.1 19 = .ok (.iload_n 2, 1) := by decide +kernel
theorem d_FR_in_20 : decode m_FR_in.2.1 20 = .ok (.invokestatic 163, 3) := by decide +kernel
theorem d_FR_in_23 : decode m_FR_in.2.1 23 = .ok (.ireturn, 1) := by decide +kernel
theorem k_FR_in : fw_cal m_FR_in := ⟨by decide +kernel, by decide +kernel, (fw_t 1 (by decide +kernel)), Or.inl ⟨rfl, fw_t 594 (by decide +kernel)⟩⟩
abbrev m_FR_about : fw_M := (⟨"FolderRights", "about", "(II)I"⟩, prog_1_method_21_code, 4, (some .int), { frames := 7, cells := 2, slots := 12, locals := 111 }, [])
theorem d_FR_about_0 : decode m_FR_about.2.1 0 = .ok (.aload_n 0, 1) := by decide +kernel
theorem d_FR_about_1 : decode m_FR_about.2.1 1 = .ok (.iload_n 1, 1) := by decide +kernel
theorem d_FR_about_2 : decode m_FR_about.2.1 2 = .ok (.invokevirtual 63, 3) := by decide +kernel
theorem d_FR_about_5 : decode m_FR_about.2.1 5 = .ok (.astore_n 3, 1) := by decide +kernel
theorem d_FR_about_6 : decode m_FR_about.2.1 6 = .ok (.iload_n 2, 1) := by decide +kernel
theorem d_FR_about_7 : decode m_FR_about.2.1 7 = .ok (.tableswitch 127 0 7 #[45, 64, 77, 82, 95, 100, 108, 114], 45) := by decide +kernel
theorem d_FR_about_52 : decode m_FR_about.2.1 52 = .ok (.aload_n 3, 1) := by decide +kernel
theorem d_FR_about_53 : decode m_FR_about.2.1 53 = .ok (.getfield 103, 3) := by decide +kernel
theorem d_FR_about_56 : decode m_FR_about.2.1 56 = .ok (.ifnonnull 7, 3) := by decide +kernel
theorem d_FR_about_59 : decode m_FR_about.2.1 59 = .ok (.iconst (-1), 1) := by decide +kernel
theorem d_FR_about_60 : decode m_FR_about.2.1 60 = .ok (.goto 10, 3) := by decide +kernel
theorem d_FR_about_63 : decode m_FR_about.2.1 63 = .ok (.aload_n 3, 1) := by decide +kernel
theorem d_FR_about_64 : decode m_FR_about.2.1 64 = .ok (.getfield 103, 3) := by decide +kernel
theorem d_FR_about_67 : decode m_FR_about.2.1 67 = .ok (.getfield 186, 3) := by decide +kernel
theorem d_FR_about_70 : decode m_FR_about.2.1 70 = .ok (.ireturn, 1) := by decide +kernel
theorem d_FR_about_71 : decode m_FR_about.2.1 71 = .ok (.aload_n 3, 1) := by decide +kernel
theorem d_FR_about_72 : decode m_FR_about.2.1 72 = .ok (.getfield 200, 3) := by decide +kernel
theorem d_FR_about_75 : decode m_FR_about.2.1 75 = .ok (.ifCond .eq 7, 3) := by decide +kernel
theorem d_FR_about_78 : decode m_FR_about.2.1 78 = .ok (.iconst 1, 1) := by decide +kernel
theorem d_FR_about_79 : decode m_FR_about.2.1 79 = .ok (.goto 4, 3) := by decide +kernel
theorem d_FR_about_82 : decode m_FR_about.2.1 82 = .ok (.iconst 0, 1) := by decide +kernel
theorem d_FR_about_83 : decode m_FR_about.2.1 83 = .ok (.ireturn, 1) := by decide +kernel
theorem d_FR_about_84 : decode m_FR_about.2.1 84 = .ok (.aload_n 3, 1) := by decide +kernel
theorem d_FR_about_85 : decode m_FR_about.2.1 85 = .ok (.getfield 156, 3) := by decide +kernel
theorem d_FR_about_88 : decode m_FR_about.2.1 88 = .ok (.ireturn, 1) := by decide +kernel
theorem d_FR_about_89 : decode m_FR_about.2.1 89 = .ok (.aload_n 3, 1) := by decide +kernel
theorem d_FR_about_90 : decode m_FR_about.2.1 90 = .ok (.getfield 153, 3) := by decide +kernel
theorem d_FR_about_93 : decode m_FR_about.2.1 93 = .ok (.ifCond .eq 7, 3) := by decide +kernel
theorem d_FR_about_96 : decode m_FR_about.2.1 96 = .ok (.iconst 1, 1) := by decide +kernel
theorem d_FR_about_97 : decode m_FR_about.2.1 97 = .ok (.goto 4, 3) := by decide +kernel
theorem d_FR_about_100 : decode m_FR_about.2.1 100 = .ok (.iconst 0, 1) := by decide +kernel
theorem d_FR_about_101 : decode m_FR_about.2.1 101 = .ok (.ireturn, 1) := by decide +kernel
theorem d_FR_about_102 : decode m_FR_about.2.1 102 = .ok (.aload_n 3, 1) := by decide +kernel
theorem d_FR_about_103 : decode m_FR_about.2.1 103 = .ok (.invokevirtual 80, 3) := by decide +kernel
theorem d_FR_about_106 : decode m_FR_about.2.1 106 = .ok (.ireturn, 1) := by decide +kernel
theorem d_FR_about_107 : decode m_FR_about.2.1 107 = .ok (.aload_n 3, 1) := by decide +kernel
theorem d_FR_about_108 : decode m_FR_about.2.1 108 = .ok (.getfield 119, 3) := by decide +kernel
theorem d_FR_about_111 : decode m_FR_about.2.1 111 = .ok (.invokevirtual 123, 3) := by decide +kernel
theorem d_FR_about_114 : decode m_FR_about.2.1 114 = .ok (.ireturn, 1) := by decide +kernel
theorem d_FR_about_115 : decode m_FR_about.2.1 115 = .ok (.aload_n 0, 1) := by decide +kernel
theorem d_FR_about_116 : decode m_FR_about.2.1 116 = .ok (.aload_n 3, 1) := by decide +kernel
theorem d_FR_about_117 : decode m_FR_about.2.1 117 = .ok (.invokevirtual 114, 3) := by decide +kernel
theorem d_FR_about_120 : decode m_FR_about.2.1 120 = .ok (.ireturn, 1) := by decide +kernel
theorem d_FR_about_121 : decode m_FR_about.2.1 121 = .ok (.aload_n 3, 1) := by decide +kernel
theorem d_FR_about_122 : decode m_FR_about.2.1 122 = .ok (.getfield 110, 3) := by decide +kernel
theorem d_FR_about_125 : decode m_FR_about.2.1 125 = .ok (.ifCond .eq 7, 3) := by decide +kernel
theorem d_FR_about_128 : decode m_FR_about.2.1 128 = .ok (.iconst 1, 1) := by decide +kernel
theorem d_FR_about_129 : decode m_FR_about.2.1 129 = .ok (.goto 4, 3) := by decide +kernel
theorem d_FR_about_132 : decode m_FR_about.2.1 132 = .ok (.iconst 0, 1) := by decide +kernel
theorem d_FR_about_133 : decode m_FR_about.2.1 133 = .ok (.ireturn, 1) := by decide +kernel
theorem d_FR_about_134 : decode m_FR_about.2.1 134 = .ok (.new 92, 3) := by decide +kernel
theorem d_FR_about_137 : decode m_FR_about.2.1 137 = .ok (.dup, 1) := by decide +kernel
theorem d_FR_about_138 : decode m_FR_about.2.1 138 = .ok (.ldc 203, 2) := by decide +kernel
theorem d_FR_about_140 : decode m_FR_about.2.1 140 = .ok (.invokespecial 96, 3) := by decide +kernel
theorem d_FR_about_143 : decode m_FR_about.2.1 143 = .ok (.athrow, 1) := by decide +kernel
theorem k_FR_about : fw_cal m_FR_about := ⟨by decide +kernel, by decide +kernel, (fw_t 1 (by decide +kernel)), Or.inl ⟨rfl, fw_t 601 (by decide +kernel)⟩⟩
abbrev m_FR_count : fw_M := (⟨"FolderRights", "count", "(I)I"⟩, prog_1_method_22_code, 2, (some .int), { frames := 6, cells := 1, slots := 6, locals := 90 }, [])
theorem d_FR_count_0 : decode m_FR_count.2.1 0 = .ok (.iload_n 1, 1) := by decide +kernel
theorem d_FR_count_1 : decode m_FR_count.2.1 1 = .ok (.tableswitch 66 0 4 #[35, 40, 48, 53, 58], 35) := by decide +kernel
theorem d_FR_count_36 : decode m_FR_count.2.1 36 = .ok (.aload_n 0, 1) := by decide +kernel
theorem d_FR_count_37 : decode m_FR_count.2.1 37 = .ok (.getfield 25, 3) := by decide +kernel
theorem d_FR_count_40 : decode m_FR_count.2.1 40 = .ok (.ireturn, 1) := by decide +kernel
theorem d_FR_count_41 : decode m_FR_count.2.1 41 = .ok (.aload_n 0, 1) := by decide +kernel
theorem d_FR_count_42 : decode m_FR_count.2.1 42 = .ok (.getfield 10, 3) := by decide +kernel
theorem d_FR_count_45 : decode m_FR_count.2.1 45 = .ok (.getfield 36, 3) := by decide +kernel
theorem d_FR_count_48 : decode m_FR_count.2.1 48 = .ok (.ireturn, 1) := by decide +kernel
theorem d_FR_count_49 : decode m_FR_count.2.1 49 = .ok (.aload_n 0, 1) := by decide +kernel
theorem d_FR_count_50 : decode m_FR_count.2.1 50 = .ok (.invokevirtual 205, 3) := by decide +kernel
theorem d_FR_count_53 : decode m_FR_count.2.1 53 = .ok (.ireturn, 1) := by decide +kernel
theorem d_FR_count_54 : decode m_FR_count.2.1 54 = .ok (.aload_n 0, 1) := by decide +kernel
theorem d_FR_count_55 : decode m_FR_count.2.1 55 = .ok (.invokevirtual 208, 3) := by decide +kernel
theorem d_FR_count_58 : decode m_FR_count.2.1 58 = .ok (.ireturn, 1) := by decide +kernel
theorem d_FR_count_59 : decode m_FR_count.2.1 59 = .ok (.aload_n 0, 1) := by decide +kernel
theorem d_FR_count_60 : decode m_FR_count.2.1 60 = .ok (.getfield 10, 3) := by decide +kernel
theorem d_FR_count_63 : decode m_FR_count.2.1 63 = .ok (.invokevirtual 211, 3) := by decide +kernel
theorem d_FR_count_66 : decode m_FR_count.2.1 66 = .ok (.ireturn, 1) := by decide +kernel
theorem d_FR_count_67 : decode m_FR_count.2.1 67 = .ok (.new 92, 3) := by decide +kernel
theorem d_FR_count_70 : decode m_FR_count.2.1 70 = .ok (.dup, 1) := by decide +kernel
theorem d_FR_count_71 : decode m_FR_count.2.1 71 = .ok (.ldc 214, 2) := by decide +kernel
theorem d_FR_count_73 : decode m_FR_count.2.1 73 = .ok (.invokespecial 96, 3) := by decide +kernel
theorem d_FR_count_76 : decode m_FR_count.2.1 76 = .ok (.athrow, 1) := by decide +kernel
theorem k_FR_count : fw_cal m_FR_count := ⟨by decide +kernel, by decide +kernel, (fw_t 1 (by decide +kernel)), Or.inl ⟨rfl, fw_t 609 (by decide +kernel)⟩⟩
abbrev m_FR_countNodes : fw_M := (⟨"FolderRights", "countNodes", "()I"⟩, prog_1_method_32_code, 6, (some .int), { frames := 0, cells := 0, slots := 0, locals := 0 }, [])
theorem d_FR_countNodes_0 : decode m_FR_countNodes.2.1 0 = .ok (.iconst 0, 1) := by decide +kernel
theorem d_FR_countNodes_1 : decode m_FR_countNodes.2.1 1 = .ok (.istore_n 1, 1) := by decide +kernel
theorem d_FR_countNodes_2 : decode m_FR_countNodes.2.1 2 = .ok (.aload_n 0, 1) := by decide +kernel
theorem d_FR_countNodes_3 : decode m_FR_countNodes.2.1 3 = .ok (.getfield 18, 3) := by decide +kernel
theorem d_FR_countNodes_6 : decode m_FR_countNodes.2.1 6 = .ok (.astore_n 2, 1) := by decide +kernel
theorem d_FR_countNodes_7 : decode m_FR_countNodes.2.1 7 = .ok (.aload_n 2, 1) := by decide +kernel
theorem d_FR_countNodes_8 : decode m_FR_countNodes.2.1 8 = .ok (.arraylength, 1) := by decide +kernel
theorem d_FR_countNodes_9 : decode m_FR_countNodes.2.1 9 = .ok (.istore_n 3, 1) := by decide +kernel
theorem d_FR_countNodes_10 : decode m_FR_countNodes.2.1 10 = .ok (.iconst 0, 1) := by decide +kernel
theorem d_FR_countNodes_11 : decode m_FR_countNodes.2.1 11 = .ok (.istore 4, 2) := by decide +kernel
theorem d_FR_countNodes_13 : decode m_FR_countNodes.2.1 13 = .ok (.iload 4, 2) := by decide +kernel
theorem d_FR_countNodes_15 : decode m_FR_countNodes.2.1 15 = .ok (.iload_n 3, 1) := by decide +kernel
theorem d_FR_countNodes_16 : decode m_FR_countNodes.2.1 16 = .ok (.if_icmp .ge 23, 3) := by decide +kernel
theorem d_FR_countNodes_19 : decode m_FR_countNodes.2.1 19 = .ok (.aload_n 2, 1) := by decide +kernel
theorem d_FR_countNodes_20 : decode m_FR_countNodes.2.1 20 = .ok (.iload 4, 2) := by decide +kernel
theorem d_FR_countNodes_22 : decode m_FR_countNodes.2.1 22 = .ok (.aaload, 1) := by decide +kernel
theorem d_FR_countNodes_23 : decode m_FR_countNodes.2.1 23 = .ok (.astore 5, 2) := by decide +kernel
theorem d_FR_countNodes_25 : decode m_FR_countNodes.2.1 25 = .ok (.aload 5, 2) := by decide +kernel
theorem d_FR_countNodes_27 : decode m_FR_countNodes.2.1 27 = .ok (.ifnull 6, 3) := by decide +kernel
theorem d_FR_countNodes_30 : decode m_FR_countNodes.2.1 30 = .ok (.iinc 1 1, 3) := by decide +kernel
theorem d_FR_countNodes_33 : decode m_FR_countNodes.2.1 33 = .ok (.iinc 4 1, 3) := by decide +kernel
theorem d_FR_countNodes_36 : decode m_FR_countNodes.2.1 36 = .ok (.goto (-23), 3) := by decide +kernel
theorem d_FR_countNodes_39 : decode m_FR_countNodes.2.1 39 = .ok (.iload_n 1, 1) := by decide +kernel
theorem d_FR_countNodes_40 : decode m_FR_countNodes.2.1 40 = .ok (.ireturn, 1) := by decide +kernel
theorem k_FR_countNodes : fw_cal m_FR_countNodes := ⟨by decide +kernel, by decide +kernel, (fw_t 1 (by decide +kernel)), Or.inl ⟨rfl, fw_t 613 (by decide +kernel)⟩⟩
abbrev m_FR_countEntries : fw_M := (⟨"FolderRights", "countEntries", "()I"⟩, prog_1_method_33_code, 6, (some .int), { frames := 1, cells := 0, slots := 0, locals := 20 }, [])
theorem d_FR_countEntries_0 : decode m_FR_countEntries.2.1 0 = .ok (.iconst 0, 1) := by decide +kernel
theorem d_FR_countEntries_1 : decode m_FR_countEntries.2.1 1 = .ok (.istore_n 1, 1) := by decide +kernel
theorem d_FR_countEntries_2 : decode m_FR_countEntries.2.1 2 = .ok (.aload_n 0, 1) := by decide +kernel
theorem d_FR_countEntries_3 : decode m_FR_countEntries.2.1 3 = .ok (.getfield 18, 3) := by decide +kernel
theorem d_FR_countEntries_6 : decode m_FR_countEntries.2.1 6 = .ok (.astore_n 2, 1) := by decide +kernel
theorem d_FR_countEntries_7 : decode m_FR_countEntries.2.1 7 = .ok (.aload_n 2, 1) := by decide +kernel
theorem d_FR_countEntries_8 : decode m_FR_countEntries.2.1 8 = .ok (.arraylength, 1) := by decide +kernel
theorem d_FR_countEntries_9 : decode m_FR_countEntries.2.1 9 = .ok (.istore_n 3, 1) := by decide +kernel
theorem d_FR_countEntries_10 : decode m_FR_countEntries.2.1 10 = .ok (.iconst 0, 1) := by decide +kernel
theorem d_FR_countEntries_11 : decode m_FR_countEntries.2.1 11 = .ok (.istore 4, 2) := by decide +kernel
theorem d_FR_countEntries_13 : decode m_FR_countEntries.2.1 13 = .ok (.iload 4, 2) := by decide +kernel
theorem d_FR_countEntries_15 : decode m_FR_countEntries.2.1 15 = .ok (.iload_n 3, 1) := by decide +kernel
theorem d_FR_countEntries_16 : decode m_FR_countEntries.2.1 16 = .ok (.if_icmp .ge 31, 3) := by decide +kernel
theorem d_FR_countEntries_19 : decode m_FR_countEntries.2.1 19 = .ok (.aload_n 2, 1) := by decide +kernel
theorem d_FR_countEntries_20 : decode m_FR_countEntries.2.1 20 = .ok (.iload 4, 2) := by decide +kernel
theorem d_FR_countEntries_22 : decode m_FR_countEntries.2.1 22 = .ok (.aaload, 1) := by decide +kernel
theorem d_FR_countEntries_23 : decode m_FR_countEntries.2.1 23 = .ok (.astore 5, 2) := by decide +kernel
theorem d_FR_countEntries_25 : decode m_FR_countEntries.2.1 25 = .ok (.aload 5, 2) := by decide +kernel
theorem d_FR_countEntries_27 : decode m_FR_countEntries.2.1 27 = .ok (.ifnull 14, 3) := by decide +kernel
theorem d_FR_countEntries_30 : decode m_FR_countEntries.2.1 30 = .ok (.iload_n 1, 1) := by decide +kernel
theorem d_FR_countEntries_31 : decode m_FR_countEntries.2.1 31 = .ok (.aload 5, 2) := by decide +kernel
theorem d_FR_countEntries_33 : decode m_FR_countEntries.2.1 33 = .ok (.getfield 119, 3) := by decide +kernel
theorem d_FR_countEntries_36 : decode m_FR_countEntries.2.1 36 = .ok (.invokevirtual 123, 3) := by decide +kernel
theorem d_FR_countEntries_39 : decode m_FR_countEntries.2.1 39 = .ok (.iadd, 1) := by decide +kernel
theorem d_FR_countEntries_40 : decode m_FR_countEntries.2.1 40 = .ok (.istore_n 1, 1) := by decide +kernel
theorem d_FR_countEntries_41 : decode m_FR_countEntries.2.1 41 = .ok (.iinc 4 1, 3) := by decide +kernel
theorem d_FR_countEntries_44 : decode m_FR_countEntries.2.1 44 = .ok (.goto (-31), 3) := by decide +kernel
theorem d_FR_countEntries_47 : decode m_FR_countEntries.2.1 47 = .ok (.iload_n 1, 1) := by decide +kernel
theorem d_FR_countEntries_48 : decode m_FR_countEntries.2.1 48 = .ok (.ireturn, 1) := by decide +kernel
theorem k_FR_countEntries : fw_cal m_FR_countEntries := ⟨by decide +kernel, by decide +kernel, (fw_t 1 (by decide +kernel)), Or.inl ⟨rfl, fw_t 617 (by decide +kernel)⟩⟩
abbrev m_GR_countMembers : fw_M := (⟨"FolderRights$Groups", "countMembers", "()I"⟩, prog_3_method_5_code, 3, (some .int), { frames := 1, cells := 0, slots := 0, locals := 21 }, [])
theorem d_GR_countMembers_0 : decode m_GR_countMembers.2.1 0 = .ok (.iconst 0, 1) := by decide +kernel
theorem d_GR_countMembers_1 : decode m_GR_countMembers.2.1 1 = .ok (.istore_n 1, 1) := by decide +kernel
theorem d_GR_countMembers_2 : decode m_GR_countMembers.2.1 2 = .ok (.iconst 0, 1) := by decide +kernel
theorem d_GR_countMembers_3 : decode m_GR_countMembers.2.1 3 = .ok (.istore_n 2, 1) := by decide +kernel
theorem d_GR_countMembers_4 : decode m_GR_countMembers.2.1 4 = .ok (.iload_n 2, 1) := by decide +kernel
theorem d_GR_countMembers_5 : decode m_GR_countMembers.2.1 5 = .ok (.aload_n 0, 1) := by decide +kernel
theorem d_GR_countMembers_6 : decode m_GR_countMembers.2.1 6 = .ok (.getfield 34, 3) := by decide +kernel
theorem d_GR_countMembers_9 : decode m_GR_countMembers.2.1 9 = .ok (.if_icmp .ge 31, 3) := by decide +kernel
theorem d_GR_countMembers_12 : decode m_GR_countMembers.2.1 12 = .ok (.iload_n 1, 1) := by decide +kernel
theorem d_GR_countMembers_13 : decode m_GR_countMembers.2.1 13 = .ok (.aload_n 0, 1) := by decide +kernel
theorem d_GR_countMembers_14 : decode m_GR_countMembers.2.1 14 = .ok (.getfield 9, 3) := by decide +kernel
theorem d_GR_countMembers_17 : decode m_GR_countMembers.2.1 17 = .ok (.iload_n 2, 1) := by decide +kernel
theorem d_GR_countMembers_18 : decode m_GR_countMembers.2.1 18 = .ok (.laload, 1) := by decide +kernel
theorem d_GR_countMembers_19 : decode m_GR_countMembers.2.1 19 = .ok (.invokestatic 38, 3) := by decide +kernel
theorem d_GR_countMembers_22 : decode m_GR_countMembers.2.1 22 = .ok (.aload_n 0, 1) := by decide +kernel
theorem d_GR_countMembers_23 : decode m_GR_countMembers.2.1 23 = .ok (.getfield 15, 3) := by decide +kernel
theorem d_GR_countMembers_26 : decode m_GR_countMembers.2.1 26 = .ok (.iload_n 2, 1) := by decide +kernel
theorem d_GR_countMembers_27 : decode m_GR_countMembers.2.1 27 = .ok (.laload, 1) := by decide +kernel
theorem d_GR_countMembers_28 : decode m_GR_countMembers.2.1 28 = .ok (.invokestatic 38, 3) := by decide +kernel
theorem d_GR_countMembers_31 : decode m_GR_countMembers.2.1 31 = .ok (.iadd, 1) := by decide +kernel
theorem d_GR_countMembers_32 : decode m_GR_countMembers.2.1 32 = .ok (.iadd, 1) := by decide +kernel
theorem d_GR_countMembers_33 : decode m_GR_countMembers.2.1 33 = .ok (.istore_n 1, 1) := by decide +kernel
theorem d_GR_countMembers_34 : decode m_GR_countMembers.2.1 34 = .ok (.iinc 2 1, 3) := by decide +kernel
theorem d_GR_countMembers_37 : decode m_GR_countMembers.2.1 37 = .ok (.goto (-33), 3) := by decide +kernel
theorem d_GR_countMembers_40 : decode m_GR_countMembers.2.1 40 = .ok (.iload_n 1, 1) := by decide +kernel
theorem d_GR_countMembers_41 : decode m_GR_countMembers.2.1 41 = .ok (.ireturn, 1) := by decide +kernel
theorem k_GR_countMembers : fw_cal m_GR_countMembers := ⟨by decide +kernel, by decide +kernel, (fw_t 2 (by decide +kernel)), Or.inl ⟨rfl, fw_t 621 (by decide +kernel)⟩⟩
abbrev m_LO_bitCount : fw_M := (⟨"java/lang/Long", "bitCount", "(J)I"⟩, prog_13_method_50_code, 2, (some .int), { frames := 0, cells := 0, slots := 0, locals := 0 }, [])
theorem d_LO_bitCount_0 : decode m_LO_bitCount.2.1 0 = .ok (.lload_n 0, 1) := by decide +kernel
theorem d_LO_bitCount_1 : decode m_LO_bitCount.2.1 1 = .ok (.lload_n 0, 1) := by decide +kernel
theorem d_LO_bitCount_2 : decode m_LO_bitCount.2.1 2 = .ok (.iconst 1, 1) := by decide +kernel
theorem d_LO_bitCount_3 : decode m_LO_bitCount.2.1 3 = .ok (.lushr, 1) := by decide +kernel
theorem d_LO_bitCount_4 : decode m_LO_bitCount.2.1 4 = .ok (.ldc2_w 314, 3) := by decide +kernel
theorem d_LO_bitCount_7 : decode m_LO_bitCount.2.1 7 = .ok (.land, 1) := by decide +kernel
theorem d_LO_bitCount_8 : decode m_LO_bitCount.2.1 8 = .ok (.lsub, 1) := by decide +kernel
theorem d_LO_bitCount_9 : decode m_LO_bitCount.2.1 9 = .ok (.lstore_n 0, 1) := by decide +kernel
theorem d_LO_bitCount_10 : decode m_LO_bitCount.2.1 10 = .ok (.lload_n 0, 1) := by decide +kernel
theorem d_LO_bitCount_11 : decode m_LO_bitCount.2.1 11 = .ok (.ldc2_w 316, 3) := by decide +kernel
theorem d_LO_bitCount_14 : decode m_LO_bitCount.2.1 14 = .ok (.land, 1) := by decide +kernel
theorem d_LO_bitCount_15 : decode m_LO_bitCount.2.1 15 = .ok (.lload_n 0, 1) := by decide +kernel
theorem d_LO_bitCount_16 : decode m_LO_bitCount.2.1 16 = .ok (.iconst 2, 1) := by decide +kernel
theorem d_LO_bitCount_17 : decode m_LO_bitCount.2.1 17 = .ok (.lushr, 1) := by decide +kernel
theorem d_LO_bitCount_18 : decode m_LO_bitCount.2.1 18 = .ok (.ldc2_w 316, 3) := by decide +kernel
theorem d_LO_bitCount_21 : decode m_LO_bitCount.2.1 21 = .ok (.land, 1) := by decide +kernel
theorem d_LO_bitCount_22 : decode m_LO_bitCount.2.1 22 = .ok (.ladd, 1) := by decide +kernel
theorem d_LO_bitCount_23 : decode m_LO_bitCount.2.1 23 = .ok (.lstore_n 0, 1) := by decide +kernel
theorem d_LO_bitCount_24 : decode m_LO_bitCount.2.1 24 = .ok (.lload_n 0, 1) := by decide +kernel
theorem d_LO_bitCount_25 : decode m_LO_bitCount.2.1 25 = .ok (.lload_n 0, 1) := by decide +kernel
theorem d_LO_bitCount_26 : decode m_LO_bitCount.2.1 26 = .ok (.iconst 4, 1) := by decide +kernel
theorem d_LO_bitCount_27 : decode m_LO_bitCount.2.1 27 = .ok (.lushr, 1) := by decide +kernel
theorem d_LO_bitCount_28 : decode m_LO_bitCount.2.1 28 = .ok (.ladd, 1) := by decide +kernel
theorem d_LO_bitCount_29 : decode m_LO_bitCount.2.1 29 = .ok (.ldc2_w 318, 3) := by decide +kernel
theorem d_LO_bitCount_32 : decode m_LO_bitCount.2.1 32 = .ok (.land, 1) := by decide +kernel
theorem d_LO_bitCount_33 : decode m_LO_bitCount.2.1 33 = .ok (.lstore_n 0, 1) := by decide +kernel
theorem d_LO_bitCount_34 : decode m_LO_bitCount.2.1 34 = .ok (.lload_n 0, 1) := by decide +kernel
theorem d_LO_bitCount_35 : decode m_LO_bitCount.2.1 35 = .ok (.lload_n 0, 1) := by decide +kernel
theorem d_LO_bitCount_36 : decode m_LO_bitCount.2.1 36 = .ok (.bipush 8, 2) := by decide +kernel
theorem d_LO_bitCount_38 : decode m_LO_bitCount.2.1 38 = .ok (.lushr, 1) := by decide +kernel
theorem d_LO_bitCount_39 : decode m_LO_bitCount.2.1 39 = .ok (.ladd, 1) := by decide +kernel
theorem d_LO_bitCount_40 : decode m_LO_bitCount.2.1 40 = .ok (.lstore_n 0, 1) := by decide +kernel
theorem d_LO_bitCount_41 : decode m_LO_bitCount.2.1 41 = .ok (.lload_n 0, 1) := by decide +kernel
theorem d_LO_bitCount_42 : decode m_LO_bitCount.2.1 42 = .ok (.lload_n 0, 1) := by decide +kernel
theorem d_LO_bitCount_43 : decode m_LO_bitCount.2.1 43 = .ok (.bipush 16, 2) := by decide +kernel
theorem d_LO_bitCount_45 : decode m_LO_bitCount.2.1 45 = .ok (.lushr, 1) := by decide +kernel
theorem d_LO_bitCount_46 : decode m_LO_bitCount.2.1 46 = .ok (.ladd, 1) := by decide +kernel
theorem d_LO_bitCount_47 : decode m_LO_bitCount.2.1 47 = .ok (.lstore_n 0, 1) := by decide +kernel
theorem d_LO_bitCount_48 : decode m_LO_bitCount.2.1 48 = .ok (.lload_n 0, 1) := by decide +kernel
theorem d_LO_bitCount_49 : decode m_LO_bitCount.2.1 49 = .ok (.lload_n 0, 1) := by decide +kernel
theorem d_LO_bitCount_50 : decode m_LO_bitCount.2.1 50 = .ok (.bipush 32, 2) := by decide +kernel
theorem d_LO_bitCount_52 : decode m_LO_bitCount.2.1 52 = .ok (.lushr, 1) := by decide +kernel
theorem d_LO_bitCount_53 : decode m_LO_bitCount.2.1 53 = .ok (.ladd, 1) := by decide +kernel
theorem d_LO_bitCount_54 : decode m_LO_bitCount.2.1 54 = .ok (.lstore_n 0, 1) := by decide +kernel
theorem d_LO_bitCount_55 : decode m_LO_bitCount.2.1 55 = .ok (.lload_n 0, 1) := by decide +kernel
theorem d_LO_bitCount_56 : decode m_LO_bitCount.2.1 56 = .ok (.l2i, 1) := by decide +kernel
theorem d_LO_bitCount_57 : decode m_LO_bitCount.2.1 57 = .ok (.bipush 127, 2) := by decide +kernel
theorem d_LO_bitCount_59 : decode m_LO_bitCount.2.1 59 = .ok (.iand, 1) := by decide +kernel
theorem d_LO_bitCount_60 : decode m_LO_bitCount.2.1 60 = .ok (.ireturn, 1) := by decide +kernel
theorem k_LO_bitCount : fw_cal m_LO_bitCount := ⟨by decide +kernel, by decide +kernel, (fw_t 21 (by decide +kernel)), Or.inl ⟨rfl, fw_t 624 (by decide +kernel)⟩⟩
theorem fg_FR_110 : fw_fld "FolderRights" 110 2 6 := ⟨_, _, _, "FolderRights$Node", rfl, by decide, fw_i2, Or.inl rfl, Or.inl (fw_t 103 (by decide +kernel))⟩
theorem fp_FR_step_110 : fw_fpt m_FR_step 110 2 6 .boolean := ⟨_, _, _, "FolderRights$Node", rfl, by decide, fw_i2, Or.inl rfl, ⟨fw_y2, fw_k2⟩, fw_n2, by decide +kernel, Or.inl ⟨rfl, Or.inl (fw_t 103 (by decide +kernel))⟩⟩
theorem fg_FR_186 : fw_fld "FolderRights" 186 2 0 := ⟨_, _, _, "FolderRights$Node", rfl, by decide, fw_i2, Or.inl rfl, Or.inl (fw_t 89 (by decide +kernel))⟩
theorem fg_FR_25 : fw_fld "FolderRights" 25 0 2 := ⟨_, _, _, "FolderRights", rfl, by decide, fw_i0, Or.inl rfl, Or.inl (fw_t 121 (by decide +kernel))⟩
theorem fp_FR_user_25 : fw_fpt m_FR_user 25 0 2 .int := ⟨_, _, _, "FolderRights", rfl, by decide, fw_i0, Or.inl rfl, ⟨fw_y0, fw_k0⟩, fw_n0, by decide +kernel, Or.inl ⟨rfl, Or.inl (fw_t 121 (by decide +kernel))⟩⟩
theorem fg_FR_10 : fw_fld "FolderRights" 10 0 0 := ⟨_, _, _, "FolderRights", rfl, by decide, fw_i0, Or.inl rfl, Or.inl (fw_t 119 (by decide +kernel))⟩
theorem fg_FR_36 : fw_fld "FolderRights" 36 1 0 := ⟨_, _, _, "FolderRights$Groups", rfl, by decide, fw_i1, Or.inl rfl, Or.inl (fw_t 36 (by decide +kernel))⟩
theorem fp_FR_group_36 : fw_fpt m_FR_group 36 1 0 .int := ⟨_, _, _, "FolderRights$Groups", rfl, by decide, fw_i1, Or.inl rfl, ⟨fw_y1, fw_k1⟩, fw_n1, by decide +kernel, Or.inl ⟨rfl, Or.inl (fw_t 36 (by decide +kernel))⟩⟩
theorem vc_FR_41 : fw_vc "FolderRights" 41 0 m_FR_requireGroup 1 := ⟨k_FR_requireGroup, Or.inl (fw_t 229 (by decide +kernel)), (fw_t 231 (by decide +kernel)), ⟨_, _, _, rfl, (fw_p 1 (by decide +kernel))⟩, by unfold fw_np; decide +kernel⟩
theorem vc_FR_45 : fw_vc "FolderRights" 45 0 m_FR_requireUserOrGroup 2 := ⟨k_FR_requireUserOrGroup, Or.inl (fw_t 249 (by decide +kernel)), (fw_t 251 (by decide +kernel)), ⟨_, _, _, rfl, (fw_p 2 (by decide +kernel))⟩, by unfold fw_np; decide +kernel⟩
theorem vc_FR_49 : fw_vc "FolderRights" 49 1 m_GR_wouldHoldItself 2 := ⟨k_GR_wouldHoldItself, Or.inl (fw_t 258 (by decide +kernel)), (fw_t 259 (by decide +kernel)), ⟨_, _, _, rfl, (fw_t 260 (by decide +kernel))⟩, by unfold fw_np; decide +kernel⟩
theorem vc_FR_55 : fw_vc "FolderRights" 55 1 m_GR_hasMember 3 := ⟨k_GR_hasMember, Or.inl (fw_t 266 (by decide +kernel)), (fw_t 267 (by decide +kernel)), ⟨_, _, _, rfl, (fw_t 268 (by decide +kernel))⟩, by unfold fw_np; decide +kernel⟩
theorem vc_FR_59 : fw_vc "FolderRights" 59 1 m_GR_turnMember 3 := ⟨k_GR_turnMember, Or.inl (fw_t 270 (by decide +kernel)), (fw_t 271 (by decide +kernel)), ⟨_, _, _, rfl, (fw_t 272 (by decide +kernel))⟩, by unfold fw_np; decide +kernel⟩
theorem vc_FR_67 : fw_vc "FolderRights" 67 0 m_FR_requireUser 1 := ⟨k_FR_requireUser, Or.inl (fw_t 253 (by decide +kernel)), (fw_t 255 (by decide +kernel)), ⟨_, _, _, rfl, (fw_p 3 (by decide +kernel))⟩, by unfold fw_np; decide +kernel⟩
theorem vc_FR_63 : fw_vc "FolderRights" 63 0 m_FR_nodeAt 1 := ⟨k_FR_nodeAt, Or.inl (fw_t 297 (by decide +kernel)), (fw_t 299 (by decide +kernel)), ⟨_, _, _, rfl, (fw_p 6 (by decide +kernel))⟩, by unfold fw_np; decide +kernel⟩
theorem lk_FR_70 : fw_lk "FolderRights" 70 ⟨"FolderRights", "requireFolder", "(LFolderRights$Node;)V"⟩ := Or.inl (fw_t 302 (by decide +kernel))
theorem np_FR_requireFolder : fw_np ⟨"FolderRights", "requireFolder", "(LFolderRights$Node;)V"⟩ 1 := by unfold fw_np; decide +kernel
theorem sc_FR_requireFolder : Cond.static ⟨"FolderRights", "requireFolder", "(LFolderRights$Node;)V"⟩ ∈ lw_tbl := (fw_t 303 (by decide +kernel))
theorem vc_FR_74 : fw_vc "FolderRights" 74 0 m_FR_freeNumber 0 := ⟨k_FR_freeNumber, Or.inl (fw_t 321 (by decide +kernel)), (fw_t 323 (by decide +kernel)), ⟨_, _, _, rfl, (fw_p 7 (by decide +kernel))⟩, by unfold fw_np; decide +kernel⟩
theorem vc_FR_80 : fw_vc "FolderRights" 80 2 m_ND_depth 0 := ⟨k_ND_depth, Or.inl (fw_t 326 (by decide +kernel)), (fw_t 327 (by decide +kernel)), ⟨_, _, _, rfl, (fw_t 328 (by decide +kernel))⟩, by unfold fw_np; decide +kernel⟩
theorem fg_FR_200 : fw_fld "FolderRights" 200 2 1 := ⟨_, _, _, "FolderRights$Node", rfl, by decide, fw_i2, Or.inl rfl, Or.inl (fw_t 92 (by decide +kernel))⟩
theorem lk_FR_85 : fw_lk "FolderRights" 85 ⟨"FolderRights", "requireNotRoot", "(LFolderRights$Node;)V"⟩ := Or.inl (fw_t 338 (by decide +kernel))
theorem np_FR_requireNotRoot : fw_np ⟨"FolderRights", "requireNotRoot", "(LFolderRights$Node;)V"⟩ 1 := by unfold fw_np; decide +kernel
theorem sc_FR_requireNotRoot : Cond.static ⟨"FolderRights", "requireNotRoot", "(LFolderRights$Node;)V"⟩ ∈ lw_tbl := (fw_t 339 (by decide +kernel))
theorem vc_FR_88 : fw_vc "FolderRights" 88 2 m_ND_liesWithin 1 := ⟨k_ND_liesWithin, Or.inl (fw_t 342 (by decide +kernel)), (fw_t 343 (by decide +kernel)), ⟨_, _, _, rfl, (fw_t 344 (by decide +kernel))⟩, by unfold fw_np; decide +kernel⟩
theorem vc_FR_97 : fw_vc "FolderRights" 97 0 m_FR_heightOf 1 := ⟨k_FR_heightOf, Or.inl (fw_t 347 (by decide +kernel)), (fw_t 349 (by decide +kernel)), ⟨_, _, _, rfl, (fw_p 8 (by decide +kernel))⟩, by unfold fw_np; decide +kernel⟩
theorem fp_FR_move_103 : fw_fpt m_FR_move 103 2 3 (.object "FolderRights$Node") := ⟨_, _, _, "FolderRights$Node", rfl, by decide, fw_i2, Or.inl rfl, ⟨fw_y2, fw_k2⟩, fw_n2, by decide +kernel, Or.inl ⟨rfl, Or.inl (fw_t 97 (by decide +kernel))⟩⟩
theorem vc_FR_107 : fw_vc "FolderRights" 107 0 m_FR_markStaleBelow 1 := ⟨k_FR_markStaleBelow, Or.inl (fw_t 355 (by decide +kernel)), (fw_t 357 (by decide +kernel)), ⟨_, _, _, rfl, (fw_p 9 (by decide +kernel))⟩, by unfold fw_np; decide +kernel⟩
theorem fp_FR_move_110 : fw_fpt m_FR_move 110 2 6 .boolean := ⟨_, _, _, "FolderRights$Node", rfl, by decide, fw_i2, Or.inl rfl, ⟨fw_y2, fw_k2⟩, fw_n2, by decide +kernel, Or.inl ⟨rfl, Or.inl (fw_t 103 (by decide +kernel))⟩⟩
theorem fg_FR_103 : fw_fld "FolderRights" 103 2 3 := ⟨_, _, _, "FolderRights$Node", rfl, by decide, fw_i2, Or.inl rfl, Or.inl (fw_t 97 (by decide +kernel))⟩
theorem lk_FR_240 : fw_lk "FolderRights" 240 ⟨"java/lang/Math", "max", "(II)I"⟩ := Or.inl (fw_t 351 (by decide +kernel))
theorem fp_FR_markStaleBelow_110 : fw_fpt m_FR_markStaleBelow 110 2 6 .boolean := ⟨_, _, _, "FolderRights$Node", rfl, by decide, fw_i2, Or.inl rfl, ⟨fw_y2, fw_k2⟩, fw_n2, by decide +kernel, Or.inl ⟨rfl, Or.inl (fw_t 103 (by decide +kernel))⟩⟩
theorem vc_FR_114 : fw_vc "FolderRights" 114 0 m_FR_childrenOf 1 := ⟨k_FR_childrenOf, Or.inl (fw_t 366 (by decide +kernel)), (fw_t 368 (by decide +kernel)), ⟨_, _, _, rfl, (fw_p 10 (by decide +kernel))⟩, by unfold fw_np; decide +kernel⟩
theorem fg_FR_119 : fw_fld "FolderRights" 119 2 2 := ⟨_, _, _, "FolderRights$Node", rfl, by decide, fw_i2, Or.inl rfl, Or.inl (fw_t 94 (by decide +kernel))⟩
theorem vc_FR_123 : fw_vc "FolderRights" 123 4 m_AL_size 0 := ⟨k_AL_size, Or.inl (fw_t 371 (by decide +kernel)), (fw_t 372 (by decide +kernel)), ⟨_, _, _, rfl, (fw_t 373 (by decide +kernel))⟩, by unfold fw_np; decide +kernel⟩
theorem lk_FR_137 : fw_lk "FolderRights" 137 ⟨"FolderRights$Entry", "<init>", "(ZIZII)V"⟩ := Or.inl (fw_t 388 (by decide +kernel))
theorem np_EN_init : fw_np ⟨"FolderRights$Entry", "<init>", "(ZIZII)V"⟩ 5 := by unfold fw_np; decide +kernel
theorem im_EN_init : Cond.instanceMethod ⟨"FolderRights$Entry", "<init>", "(ZIZII)V"⟩ ∈ lw_tbl := (fw_t 389 (by decide +kernel))
theorem vc_FR_140 : fw_vc "FolderRights" 140 4 m_AL_add 2 := ⟨k_AL_add, Or.inl (fw_t 411 (by decide +kernel)), (fw_t 412 (by decide +kernel)), ⟨_, _, _, rfl, (fw_t 413 (by decide +kernel))⟩, by unfold fw_np; decide +kernel⟩
theorem vc_FR_149 : fw_vc "FolderRights" 149 4 m_AL_remove 1 := ⟨k_AL_remove, Or.inl (fw_t 474 (by decide +kernel)), (fw_t 475 (by decide +kernel)), ⟨_, _, _, rfl, (fw_t 476 (by decide +kernel))⟩, by unfold fw_np; decide +kernel⟩
theorem fg_FR_153 : fw_fld "FolderRights" 153 2 5 := ⟨_, _, _, "FolderRights$Node", rfl, by decide, fw_i2, Or.inl rfl, Or.inl (fw_t 101 (by decide +kernel))⟩
theorem fp_FR_block_153 : fw_fpt m_FR_block 153 2 5 .boolean := ⟨_, _, _, "FolderRights$Node", rfl, by decide, fw_i2, Or.inl rfl, ⟨fw_y2, fw_k2⟩, fw_n2, by decide +kernel, Or.inl ⟨rfl, Or.inl (fw_t 101 (by decide +kernel))⟩⟩
theorem fp_FR_block_110 : fw_fpt m_FR_block 110 2 6 .boolean := ⟨_, _, _, "FolderRights$Node", rfl, by decide, fw_i2, Or.inl rfl, ⟨fw_y2, fw_k2⟩, fw_n2, by decide +kernel, Or.inl ⟨rfl, Or.inl (fw_t 103 (by decide +kernel))⟩⟩
theorem fg_FR_156 : fw_fld "FolderRights" 156 2 4 := ⟨_, _, _, "FolderRights$Node", rfl, by decide, fw_i2, Or.inl rfl, Or.inl (fw_t 99 (by decide +kernel))⟩
theorem fp_FR_owner_156 : fw_fpt m_FR_owner 156 2 4 .int := ⟨_, _, _, "FolderRights$Node", rfl, by decide, fw_i2, Or.inl rfl, ⟨fw_y2, fw_k2⟩, fw_n2, by decide +kernel, Or.inl ⟨rfl, Or.inl (fw_t 99 (by decide +kernel))⟩⟩
theorem fp_FR_rights_110 : fw_fpt m_FR_rights 110 2 6 .boolean := ⟨_, _, _, "FolderRights$Node", rfl, by decide, fw_i2, Or.inl rfl, ⟨fw_y2, fw_k2⟩, fw_n2, by decide +kernel, Or.inl ⟨rfl, Or.inl (fw_t 103 (by decide +kernel))⟩⟩
theorem vc_FR_159 : fw_vc "FolderRights" 159 0 m_FR_holders 2 := ⟨k_FR_holders, Or.inl (fw_t 509 (by decide +kernel)), (fw_t 511 (by decide +kernel)), ⟨_, _, _, rfl, (fw_p 15 (by decide +kernel))⟩, by unfold fw_np; decide +kernel⟩
theorem lk_FR_163 : fw_lk "FolderRights" 163 ⟨"FolderRights", "isSet", "(JI)Z"⟩ := Or.inl (fw_t 543 (by decide +kernel))
theorem vc_FR_216 : fw_vc "FolderRights" 216 0 m_FR_hitUsers 4 := ⟨k_FR_hitUsers, Or.inl (fw_t 513 (by decide +kernel)), (fw_t 515 (by decide +kernel)), ⟨_, _, _, rfl, (fw_p 16 (by decide +kernel))⟩, by unfold fw_np; decide +kernel⟩
theorem vc_FR_189 : fw_vc "FolderRights" 189 2 m_ND_nextLevel 0 := ⟨k_ND_nextLevel, Or.inl (fw_t 539 (by decide +kernel)), (fw_t 540 (by decide +kernel)), ⟨_, _, _, rfl, (fw_t 541 (by decide +kernel))⟩, by unfold fw_np; decide +kernel⟩
theorem vc_FR_180 : fw_vc "FolderRights" 180 4 m_AL_get 1 := ⟨k_AL_get, Or.inl (fw_t 517 (by decide +kernel)), (fw_t 518 (by decide +kernel)), ⟨_, _, _, rfl, (fw_t 519 (by decide +kernel))⟩, by unfold fw_np; decide +kernel⟩
theorem fg_FR_183 : fw_fld "FolderRights" 183 3 0 := ⟨_, _, _, "FolderRights$Entry", rfl, by decide, fw_i3, Or.inl rfl, Or.inl (fw_t 393 (by decide +kernel))⟩
theorem vc_FR_222 : fw_vc "FolderRights" 222 3 m_EN_gives 1 := ⟨k_EN_gives, Or.inl (fw_t 525 (by decide +kernel)), (fw_t 526 (by decide +kernel)), ⟨_, _, _, rfl, (fw_t 527 (by decide +kernel))⟩, by unfold fw_np; decide +kernel⟩
theorem vc_FR_226 : fw_vc "FolderRights" 226 3 m_EN_reaches 2 := ⟨k_EN_reaches, Or.inl (fw_t 530 (by decide +kernel)), (fw_t 531 (by decide +kernel)), ⟨_, _, _, rfl, (fw_t 532 (by decide +kernel))⟩, by unfold fw_np; decide +kernel⟩
theorem vc_FR_230 : fw_vc "FolderRights" 230 0 m_FR_namedUsers 1 := ⟨k_FR_namedUsers, Or.inl (fw_t 534 (by decide +kernel)), (fw_t 536 (by decide +kernel)), ⟨_, _, _, rfl, (fw_p 17 (by decide +kernel))⟩, by unfold fw_np; decide +kernel⟩
theorem fg_FR_234 : fw_fld "FolderRights" 234 3 2 := ⟨_, _, _, "FolderRights$Entry", rfl, by decide, fw_i3, Or.inl rfl, Or.inl (fw_t 397 (by decide +kernel))⟩
theorem fg_FR_196 : fw_fld "FolderRights" 196 1 4 := ⟨_, _, _, "FolderRights$Groups", rfl, by decide, fw_i1, Or.inl rfl, Or.inl (fw_t 42 (by decide +kernel))⟩
theorem fg_FR_237 : fw_fld "FolderRights" 237 3 1 := ⟨_, _, _, "FolderRights$Entry", rfl, by decide, fw_i3, Or.inl rfl, Or.inl (fw_t 395 (by decide +kernel))⟩
theorem lk_FR_167 : fw_lk "FolderRights" 167 ⟨"FolderRights", "requireRight", "(I)V"⟩ := Or.inl (fw_t 551 (by decide +kernel))
theorem np_FR_requireRight : fw_np ⟨"FolderRights", "requireRight", "(I)V"⟩ 1 := by unfold fw_np; decide +kernel
theorem sc_FR_requireRight : Cond.static ⟨"FolderRights", "requireRight", "(I)V"⟩ ∈ lw_tbl := (fw_t 552 (by decide +kernel))
theorem fp_FR_explain_110 : fw_fpt m_FR_explain 110 2 6 .boolean := ⟨_, _, _, "FolderRights$Node", rfl, by decide, fw_i2, Or.inl rfl, ⟨fw_y2, fw_k2⟩, fw_n2, by decide +kernel, Or.inl ⟨rfl, Or.inl (fw_t 103 (by decide +kernel))⟩⟩
theorem lk_FR_172 : fw_lk "FolderRights" 172 ⟨"FolderRights", "fieldOf", "(IIII)I"⟩ := Or.inl (fw_t 556 (by decide +kernel))
theorem np_FR_fieldOf : fw_np ⟨"FolderRights", "fieldOf", "(IIII)I"⟩ 4 := by unfold fw_np; decide +kernel
theorem sc_FR_fieldOf : Cond.static ⟨"FolderRights", "fieldOf", "(IIII)I"⟩ ∈ lw_tbl := (fw_t 557 (by decide +kernel))
theorem vc_FR_176 : fw_vc "FolderRights" 176 0 m_FR_decidingPosition 4 := ⟨k_FR_decidingPosition, Or.inl (fw_t 559 (by decide +kernel)), (fw_t 561 (by decide +kernel)), ⟨_, _, _, rfl, (fw_p 18 (by decide +kernel))⟩, by unfold fw_np; decide +kernel⟩
theorem lk_FR_193 : fw_lk "FolderRights" 193 ⟨"FolderRights", "requirePlace", "(I)V"⟩ := Or.inl (fw_t 570 (by decide +kernel))
theorem np_FR_requirePlace : fw_np ⟨"FolderRights", "requirePlace", "(I)V"⟩ 1 := by unfold fw_np; decide +kernel
theorem sc_FR_requirePlace : Cond.static ⟨"FolderRights", "requirePlace", "(I)V"⟩ ∈ lw_tbl := (fw_t 571 (by decide +kernel))
theorem fp_FR_who_110 : fw_fpt m_FR_who 110 2 6 .boolean := ⟨_, _, _, "FolderRights$Node", rfl, by decide, fw_i2, Or.inl rfl, ⟨fw_y2, fw_k2⟩, fw_n2, by decide +kernel, Or.inl ⟨rfl, Or.inl (fw_t 103 (by decide +kernel))⟩⟩
theorem fp_FR_where_110 : fw_fpt m_FR_where 110 2 6 .boolean := ⟨_, _, _, "FolderRights$Node", rfl, by decide, fw_i2, Or.inl rfl, ⟨fw_y2, fw_k2⟩, fw_n2, by decide +kernel, Or.inl ⟨rfl, Or.inl (fw_t 103 (by decide +kernel))⟩⟩
theorem fp_FR_same_110 : fw_fpt m_FR_same 110 2 6 .boolean := ⟨_, _, _, "FolderRights$Node", rfl, by decide, fw_i2, Or.inl rfl, ⟨fw_y2, fw_k2⟩, fw_n2, by decide +kernel, Or.inl ⟨rfl, Or.inl (fw_t 103 (by decide +kernel))⟩⟩
theorem vc_FR_205 : fw_vc "FolderRights" 205 0 m_FR_countNodes 0 := ⟨k_FR_countNodes, Or.inl (fw_t 610 (by decide +kernel)), (fw_t 612 (by decide +kernel)), ⟨_, _, _, rfl, (fw_p 19 (by decide +kernel))⟩, by unfold fw_np; decide +kernel⟩
theorem vc_FR_208 : fw_vc "FolderRights" 208 0 m_FR_countEntries 0 := ⟨k_FR_countEntries, Or.inl (fw_t 614 (by decide +kernel)), (fw_t 616 (by decide +kernel)), ⟨_, _, _, rfl, (fw_p 20 (by decide +kernel))⟩, by unfold fw_np; decide +kernel⟩
theorem vc_FR_211 : fw_vc "FolderRights" 211 1 m_GR_countMembers 0 := ⟨k_GR_countMembers, Or.inl (fw_t 618 (by decide +kernel)), (fw_t 619 (by decide +kernel)), ⟨_, _, _, rfl, (fw_t 620 (by decide +kernel))⟩, by unfold fw_np; decide +kernel⟩
theorem lk_GR_38 : fw_lk "FolderRights$Groups" 38 ⟨"java/lang/Long", "bitCount", "(J)I"⟩ := Or.inl (fw_t 622 (by decide +kernel))
theorem np_LO_bitCount : fw_np ⟨"java/lang/Long", "bitCount", "(J)I"⟩ 1 := by unfold fw_np; decide +kernel
theorem sc_LO_bitCount : Cond.static ⟨"java/lang/Long", "bitCount", "(J)I"⟩ ∈ lw_tbl := (fw_t 623 (by decide +kernel))
theorem fw_rx13 : fw_rx prog_25_method_4_code 13 := ⟨by decide +kernel, by decide +kernel, by decide +kernel, by decide +kernel⟩
theorem tw_33 : ∀ w ∈ vx_atS "FolderRights" 33 "java/lang/IllegalStateException" ["java/lang/RuntimeException", "java/lang/Exception"], w ∈ lw_tbl ∧ fw_wk w = true := by decide +kernel
theorem tg_33_29 : ∀ w ∈ Cond.classLink "FolderRights" 29 "java/lang/IllegalStateException" :: Cond.initialized "java/lang/IllegalStateException" :: vx_atS "FolderRights" 33 "java/lang/IllegalStateException" ["java/lang/RuntimeException", "java/lang/Exception"], vx_ot w = true := by decide +kernel
theorem th_FR_31 : fw_thr "FolderRights" 29 31 33 "java/lang/IllegalStateException" "there are 60 users" ["java/lang/RuntimeException", "java/lang/Exception"] := ⟨by decide +kernel, by decide +kernel, (fw_t 145 (by decide +kernel)), (fw_t 11 (by decide +kernel)), (fw_t 186 (by decide +kernel)), tw_33, tg_33_29⟩
theorem th_FR_39 : fw_thr "FolderRights" 29 39 33 "java/lang/IllegalStateException" "there are 24 groups" ["java/lang/RuntimeException", "java/lang/Exception"] := ⟨by decide +kernel, by decide +kernel, (fw_t 145 (by decide +kernel)), (fw_t 11 (by decide +kernel)), (fw_t 220 (by decide +kernel)), tw_33, tg_33_29⟩
theorem th_FR_53 : fw_thr "FolderRights" 29 53 33 "java/lang/IllegalStateException" "a group would hold itself" ["java/lang/RuntimeException", "java/lang/Exception"] := ⟨by decide +kernel, by decide +kernel, (fw_t 145 (by decide +kernel)), (fw_t 11 (by decide +kernel)), (fw_t 265 (by decide +kernel)), tw_33, tg_33_29⟩
theorem tw_148 : ∀ w ∈ (Bundle.ownAtomsX "FolderRights" 148 "java/util/NoSuchElementException" 13 prog_25_method_4_code ["java/lang/RuntimeException", "java/lang/Exception"]).filter vx_no, w ∈ lw_tbl ∧ fw_wk w = true := by decide +kernel
theorem tg_148_144 : ∀ w ∈ Cond.classLink "FolderRights" 144 "java/util/NoSuchElementException" :: Cond.initialized "java/util/NoSuchElementException" :: (Bundle.ownAtomsX "FolderRights" 148 "java/util/NoSuchElementException" 13 prog_25_method_4_code ["java/lang/RuntimeException", "java/lang/Exception"]).filter vx_no, vx_ot w = true := by decide +kernel
theorem th_FR_250 : fw_thx "FolderRights" 144 250 148 13 prog_25_method_4_code "java/util/NoSuchElementException" "no such group" ["java/lang/RuntimeException", "java/lang/Exception"] := ⟨fw_rx13, by decide +kernel, by decide +kernel, (fw_t 233 (by decide +kernel)), (fw_t 12 (by decide +kernel)), (fw_t 242 (by decide +kernel)), tw_148, tg_148_144⟩
theorem th_FR_248 : fw_thx "FolderRights" 144 248 148 13 prog_25_method_4_code "java/util/NoSuchElementException" "no such user" ["java/lang/RuntimeException", "java/lang/Exception"] := ⟨fw_rx13, by decide +kernel, by decide +kernel, (fw_t 233 (by decide +kernel)), (fw_t 12 (by decide +kernel)), (fw_t 257 (by decide +kernel)), tw_148, tg_148_144⟩
theorem th_FR_78 : fw_thr "FolderRights" 29 78 33 "java/lang/IllegalStateException" "there are 150 nodes" ["java/lang/RuntimeException", "java/lang/Exception"] := ⟨by decide +kernel, by decide +kernel, (fw_t 145 (by decide +kernel)), (fw_t 11 (by decide +kernel)), (fw_t 325 (by decide +kernel)), tw_33, tg_33_29⟩
theorem th_FR_83 : fw_thr "FolderRights" 29 83 33 "java/lang/IllegalStateException" "it would be deeper than 20" ["java/lang/RuntimeException", "java/lang/Exception"] := ⟨by decide +kernel, by decide +kernel, (fw_t 145 (by decide +kernel)), (fw_t 11 (by decide +kernel)), (fw_t 330 (by decide +kernel)), tw_33, tg_33_29⟩
theorem th_FR_246 : fw_thx "FolderRights" 144 246 148 13 prog_25_method_4_code "java/util/NoSuchElementException" "no such node" ["java/lang/RuntimeException", "java/lang/Exception"] := ⟨fw_rx13, by decide +kernel, by decide +kernel, (fw_t 233 (by decide +kernel)), (fw_t 12 (by decide +kernel)), (fw_t 301 (by decide +kernel)), tw_148, tg_148_144⟩
theorem tw_96 : ∀ w ∈ vx_atS "FolderRights" 96 "java/lang/IllegalArgumentException" ["java/lang/RuntimeException", "java/lang/Exception"], w ∈ lw_tbl ∧ fw_wk w = true := by decide +kernel
theorem tg_96_92 : ∀ w ∈ Cond.classLink "FolderRights" 92 "java/lang/IllegalArgumentException" :: Cond.initialized "java/lang/IllegalArgumentException" :: vx_atS "FolderRights" 96 "java/lang/IllegalArgumentException" ["java/lang/RuntimeException", "java/lang/Exception"], vx_ot w = true := by decide +kernel
theorem th_FR_252 : fw_thr "FolderRights" 92 252 96 "java/lang/IllegalArgumentException" "the parent is a document" ["java/lang/RuntimeException", "java/lang/Exception"] := ⟨by decide +kernel, by decide +kernel, (fw_t 305 (by decide +kernel)), (fw_t 13 (by decide +kernel)), (fw_t 314 (by decide +kernel)), tw_96, tg_96_92⟩
theorem th_FR_94 : fw_thr "FolderRights" 92 94 96 "java/lang/IllegalArgumentException" "the parent is the node or lies below it" ["java/lang/RuntimeException", "java/lang/Exception"] := ⟨by decide +kernel, by decide +kernel, (fw_t 305 (by decide +kernel)), (fw_t 13 (by decide +kernel)), (fw_t 346 (by decide +kernel)), tw_96, tg_96_92⟩
theorem th_FR_101 : fw_thr "FolderRights" 29 101 33 "java/lang/IllegalStateException" "some node would be deeper than 20" ["java/lang/RuntimeException", "java/lang/Exception"] := ⟨by decide +kernel, by decide +kernel, (fw_t 145 (by decide +kernel)), (fw_t 11 (by decide +kernel)), (fw_t 354 (by decide +kernel)), tw_33, tg_33_29⟩
theorem th_FR_254 : fw_thr "FolderRights" 92 254 96 "java/lang/IllegalArgumentException" "it is the root" ["java/lang/RuntimeException", "java/lang/Exception"] := ⟨by decide +kernel, by decide +kernel, (fw_t 305 (by decide +kernel)), (fw_t 13 (by decide +kernel)), (fw_t 341 (by decide +kernel)), tw_96, tg_96_92⟩
theorem th_FR_117 : fw_thr "FolderRights" 29 117 33 "java/lang/IllegalStateException" "some node is below it" ["java/lang/RuntimeException", "java/lang/Exception"] := ⟨by decide +kernel, by decide +kernel, (fw_t 145 (by decide +kernel)), (fw_t 11 (by decide +kernel)), (fw_t 370 (by decide +kernel)), tw_33, tg_33_29⟩
theorem th_FR_127 : fw_thr "FolderRights" 92 127 96 "java/lang/IllegalArgumentException" "position is not 0 .. the number of entries" ["java/lang/RuntimeException", "java/lang/Exception"] := ⟨by decide +kernel, by decide +kernel, (fw_t 305 (by decide +kernel)), (fw_t 13 (by decide +kernel)), (fw_t 382 (by decide +kernel)), tw_96, tg_96_92⟩
theorem th_FR_129 : fw_thr "FolderRights" 92 129 96 "java/lang/IllegalArgumentException" "rights are not 1 .. 255" ["java/lang/RuntimeException", "java/lang/Exception"] := ⟨by decide +kernel, by decide +kernel, (fw_t 305 (by decide +kernel)), (fw_t 13 (by decide +kernel)), (fw_t 383 (by decide +kernel)), tw_96, tg_96_92⟩
theorem th_FR_131 : fw_thr "FolderRights" 92 131 96 "java/lang/IllegalArgumentException" "flags are not 1 .. 15, or 8 alone" ["java/lang/RuntimeException", "java/lang/Exception"] := ⟨by decide +kernel, by decide +kernel, (fw_t 305 (by decide +kernel)), (fw_t 13 (by decide +kernel)), (fw_t 384 (by decide +kernel)), tw_96, tg_96_92⟩
theorem th_FR_133 : fw_thr "FolderRights" 29 133 33 "java/lang/IllegalStateException" "there are twelve entries" ["java/lang/RuntimeException", "java/lang/Exception"] := ⟨by decide +kernel, by decide +kernel, (fw_t 145 (by decide +kernel)), (fw_t 11 (by decide +kernel)), (fw_t 385 (by decide +kernel)), tw_33, tg_33_29⟩
theorem th_FR_146 : fw_thx "FolderRights" 144 146 148 13 prog_25_method_4_code "java/util/NoSuchElementException" "no such entry" ["java/lang/RuntimeException", "java/lang/Exception"] := ⟨fw_rx13, by decide +kernel, by decide +kernel, (fw_t 233 (by decide +kernel)), (fw_t 12 (by decide +kernel)), (fw_t 473 (by decide +kernel)), tw_148, tg_148_144⟩
theorem th_FR_170 : fw_thr "FolderRights" 92 170 96 "java/lang/IllegalArgumentException" "no such field" ["java/lang/RuntimeException", "java/lang/Exception"] := ⟨by decide +kernel, by decide +kernel, (fw_t 305 (by decide +kernel)), (fw_t 13 (by decide +kernel)), (fw_t 555 (by decide +kernel)), tw_96, tg_96_92⟩
theorem th_FR_256 : fw_thr "FolderRights" 92 256 96 "java/lang/IllegalArgumentException" "right is not 0 .. 7" ["java/lang/RuntimeException", "java/lang/Exception"] := ⟨by decide +kernel, by decide +kernel, (fw_t 305 (by decide +kernel)), (fw_t 13 (by decide +kernel)), (fw_t 554 (by decide +kernel)), tw_96, tg_96_92⟩
theorem th_FR_258 : fw_thr "FolderRights" 92 258 96 "java/lang/IllegalArgumentException" "k is below 0" ["java/lang/RuntimeException", "java/lang/Exception"] := ⟨by decide +kernel, by decide +kernel, (fw_t 305 (by decide +kernel)), (fw_t 13 (by decide +kernel)), (fw_t 573 (by decide +kernel)), tw_96, tg_96_92⟩
theorem th_FR_203 : fw_thr "FolderRights" 92 203 96 "java/lang/IllegalArgumentException" "nothing to tell of a node" ["java/lang/RuntimeException", "java/lang/Exception"] := ⟨by decide +kernel, by decide +kernel, (fw_t 305 (by decide +kernel)), (fw_t 13 (by decide +kernel)), (fw_t 602 (by decide +kernel)), tw_96, tg_96_92⟩
theorem th_FR_214 : fw_thr "FolderRights" 92 214 96 "java/lang/IllegalArgumentException" "nothing to count" ["java/lang/RuntimeException", "java/lang/Exception"] := ⟨by decide +kernel, by decide +kernel, (fw_t 305 (by decide +kernel)), (fw_t 13 (by decide +kernel)), (fw_t 628 (by decide +kernel)), tw_96, tg_96_92⟩

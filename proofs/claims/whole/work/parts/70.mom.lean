abbrev m_MO_init : fw_M := (⟨"FolderRightsModel", "<init>", "()V"⟩, prog_6_method_1_code, 1, none, { frames := 1, cells := 16, slots := 13530, locals := 20 }, [])
theorem d_MO_init_0 : decode m_MO_init.2.1 0 = .ok (.aload_n 0, 1) := by decide +kernel
theorem d_MO_init_1 : decode m_MO_init.2.1 1 = .ok (.invokespecial 1, 3) := by decide +kernel
theorem d_MO_init_4 : decode m_MO_init.2.1 4 = .ok (.aload_n 0, 1) := by decide +kernel
theorem d_MO_init_5 : decode m_MO_init.2.1 5 = .ok (.iconst 1, 1) := by decide +kernel
theorem d_MO_init_6 : decode m_MO_init.2.1 6 = .ok (.putfield 7, 3) := by decide +kernel
theorem d_MO_init_9 : decode m_MO_init.2.1 9 = .ok (.aload_n 0, 1) := by decide +kernel
theorem d_MO_init_10 : decode m_MO_init.2.1 10 = .ok (.sipush 1440, 3) := by decide +kernel
theorem d_MO_init_13 : decode m_MO_init.2.1 13 = .ok (.newarray .boolean, 2) := by decide +kernel
theorem d_MO_init_15 : decode m_MO_init.2.1 15 = .ok (.putfield 13, 3) := by decide +kernel
theorem d_MO_init_18 : decode m_MO_init.2.1 18 = .ok (.aload_n 0, 1) := by decide +kernel
theorem d_MO_init_19 : decode m_MO_init.2.1 19 = .ok (.sipush 576, 3) := by decide +kernel
theorem d_MO_init_22 : decode m_MO_init.2.1 22 = .ok (.newarray .boolean, 2) := by decide +kernel
theorem d_MO_init_24 : decode m_MO_init.2.1 24 = .ok (.putfield 17, 3) := by decide +kernel
theorem d_MO_init_27 : decode m_MO_init.2.1 27 = .ok (.aload_n 0, 1) := by decide +kernel
theorem d_MO_init_28 : decode m_MO_init.2.1 28 = .ok (.bipush 24, 2) := by decide +kernel
theorem d_MO_init_30 : decode m_MO_init.2.1 30 = .ok (.newarray .boolean, 2) := by decide +kernel
theorem d_MO_init_32 : decode m_MO_init.2.1 32 = .ok (.putfield 20, 3) := by decide +kernel
theorem d_MO_init_35 : decode m_MO_init.2.1 35 = .ok (.aload_n 0, 1) := by decide +kernel
theorem d_MO_init_36 : decode m_MO_init.2.1 36 = .ok (.sipush 1440, 3) := by decide +kernel
theorem d_MO_init_39 : decode m_MO_init.2.1 39 = .ok (.newarray .boolean, 2) := by decide +kernel
theorem d_MO_init_41 : decode m_MO_init.2.1 41 = .ok (.putfield 23, 3) := by decide +kernel
theorem d_MO_init_44 : decode m_MO_init.2.1 44 = .ok (.aload_n 0, 1) := by decide +kernel
theorem d_MO_init_45 : decode m_MO_init.2.1 45 = .ok (.sipush 150, 3) := by decide +kernel
theorem d_MO_init_48 : decode m_MO_init.2.1 48 = .ok (.newarray .boolean, 2) := by decide +kernel
theorem d_MO_init_50 : decode m_MO_init.2.1 50 = .ok (.putfield 26, 3) := by decide +kernel
theorem d_MO_init_53 : decode m_MO_init.2.1 53 = .ok (.aload_n 0, 1) := by decide +kernel
theorem d_MO_init_54 : decode m_MO_init.2.1 54 = .ok (.sipush 150, 3) := by decide +kernel
theorem d_MO_init_57 : decode m_MO_init.2.1 57 = .ok (.newarray .boolean, 2) := by decide +kernel
theorem d_MO_init_59 : decode m_MO_init.2.1 59 = .ok (.putfield 29, 3) := by decide +kernel
theorem d_MO_init_62 : decode m_MO_init.2.1 62 = .ok (.aload_n 0, 1) := by decide +kernel
theorem d_MO_init_63 : decode m_MO_init.2.1 63 = .ok (.sipush 150, 3) := by decide +kernel
theorem d_MO_init_66 : decode m_MO_init.2.1 66 = .ok (.newarray .boolean, 2) := by decide +kernel
theorem d_MO_init_68 : decode m_MO_init.2.1 68 = .ok (.putfield 32, 3) := by decide +kernel
theorem d_MO_init_71 : decode m_MO_init.2.1 71 = .ok (.aload_n 0, 1) := by decide +kernel
theorem d_MO_init_72 : decode m_MO_init.2.1 72 = .ok (.sipush 150, 3) := by decide +kernel
theorem d_MO_init_75 : decode m_MO_init.2.1 75 = .ok (.newarray .boolean, 2) := by decide +kernel
theorem d_MO_init_77 : decode m_MO_init.2.1 77 = .ok (.putfield 35, 3) := by decide +kernel
theorem d_MO_init_80 : decode m_MO_init.2.1 80 = .ok (.aload_n 0, 1) := by decide +kernel
theorem d_MO_init_81 : decode m_MO_init.2.1 81 = .ok (.sipush 150, 3) := by decide +kernel
theorem d_MO_init_84 : decode m_MO_init.2.1 84 = .ok (.newarray .int, 2) := by decide +kernel
theorem d_MO_init_86 : decode m_MO_init.2.1 86 = .ok (.putfield 38, 3) := by decide +kernel
theorem d_MO_init_89 : decode m_MO_init.2.1 89 = .ok (.aload_n 0, 1) := by decide +kernel
theorem d_MO_init_90 : decode m_MO_init.2.1 90 = .ok (.sipush 150, 3) := by decide +kernel
theorem d_MO_init_93 : decode m_MO_init.2.1 93 = .ok (.newarray .int, 2) := by decide +kernel
theorem d_MO_init_95 : decode m_MO_init.2.1 95 = .ok (.putfield 42, 3) := by decide +kernel
theorem d_MO_init_98 : decode m_MO_init.2.1 98 = .ok (.aload_n 0, 1) := by decide +kernel
theorem d_MO_init_99 : decode m_MO_init.2.1 99 = .ok (.sipush 150, 3) := by decide +kernel
theorem d_MO_init_102 : decode m_MO_init.2.1 102 = .ok (.newarray .int, 2) := by decide +kernel
theorem d_MO_init_104 : decode m_MO_init.2.1 104 = .ok (.putfield 45, 3) := by decide +kernel
theorem d_MO_init_107 : decode m_MO_init.2.1 107 = .ok (.aload_n 0, 1) := by decide +kernel
theorem d_MO_init_108 : decode m_MO_init.2.1 108 = .ok (.sipush 1800, 3) := by decide +kernel
theorem d_MO_init_111 : decode m_MO_init.2.1 111 = .ok (.newarray .boolean, 2) := by decide +kernel
theorem d_MO_init_113 : decode m_MO_init.2.1 113 = .ok (.putfield 48, 3) := by decide +kernel
theorem d_MO_init_116 : decode m_MO_init.2.1 116 = .ok (.aload_n 0, 1) := by decide +kernel
theorem d_MO_init_117 : decode m_MO_init.2.1 117 = .ok (.sipush 1800, 3) := by decide +kernel
theorem d_MO_init_120 : decode m_MO_init.2.1 120 = .ok (.newarray .boolean, 2) := by decide +kernel
theorem d_MO_init_122 : decode m_MO_init.2.1 122 = .ok (.putfield 51, 3) := by decide +kernel
theorem d_MO_init_125 : decode m_MO_init.2.1 125 = .ok (.aload_n 0, 1) := by decide +kernel
theorem d_MO_init_126 : decode m_MO_init.2.1 126 = .ok (.sipush 1800, 3) := by decide +kernel
theorem d_MO_init_129 : decode m_MO_init.2.1 129 = .ok (.newarray .int, 2) := by decide +kernel
theorem d_MO_init_131 : decode m_MO_init.2.1 131 = .ok (.putfield 54, 3) := by decide +kernel
theorem d_MO_init_134 : decode m_MO_init.2.1 134 = .ok (.aload_n 0, 1) := by decide +kernel
theorem d_MO_init_135 : decode m_MO_init.2.1 135 = .ok (.sipush 1800, 3) := by decide +kernel
theorem d_MO_init_138 : decode m_MO_init.2.1 138 = .ok (.newarray .int, 2) := by decide +kernel
theorem d_MO_init_140 : decode m_MO_init.2.1 140 = .ok (.putfield 57, 3) := by decide +kernel
theorem d_MO_init_143 : decode m_MO_init.2.1 143 = .ok (.aload_n 0, 1) := by decide +kernel
theorem d_MO_init_144 : decode m_MO_init.2.1 144 = .ok (.sipush 1800, 3) := by decide +kernel
theorem d_MO_init_147 : decode m_MO_init.2.1 147 = .ok (.newarray .int, 2) := by decide +kernel
theorem d_MO_init_149 : decode m_MO_init.2.1 149 = .ok (.putfield 60, 3) := by decide +kernel
theorem d_MO_init_152 : decode m_MO_init.2.1 152 = .ok (.aload_n 0, 1) := by decide +kernel
theorem d_MO_init_153 : decode m_MO_init.2.1 153 = .ok (.getfield 26, 3) := by decide +kernel
theorem d_MO_init_156 : decode m_MO_init.2.1 156 = .ok (.iconst 0, 1) := by decide +kernel
theorem d_MO_init_157 : decode m_MO_init.2.1 157 = .ok (.iconst 1, 1) := by decide +kernel
theorem d_MO_init_158 : decode m_MO_init.2.1 158 = .ok (.bastore, 1) := by decide +kernel
theorem d_MO_init_159 : decode m_MO_init.2.1 159 = .ok (.aload_n 0, 1) := by decide +kernel
theorem d_MO_init_160 : decode m_MO_init.2.1 160 = .ok (.getfield 29, 3) := by decide +kernel
theorem d_MO_init_163 : decode m_MO_init.2.1 163 = .ok (.iconst 0, 1) := by decide +kernel
theorem d_MO_init_164 : decode m_MO_init.2.1 164 = .ok (.iconst 1, 1) := by decide +kernel
theorem d_MO_init_165 : decode m_MO_init.2.1 165 = .ok (.bastore, 1) := by decide +kernel
theorem d_MO_init_166 : decode m_MO_init.2.1 166 = .ok (.aload_n 0, 1) := by decide +kernel
theorem d_MO_init_167 : decode m_MO_init.2.1 167 = .ok (.getfield 35, 3) := by decide +kernel
theorem d_MO_init_170 : decode m_MO_init.2.1 170 = .ok (.iconst 0, 1) := by decide +kernel
theorem d_MO_init_171 : decode m_MO_init.2.1 171 = .ok (.iconst 1, 1) := by decide +kernel
theorem d_MO_init_172 : decode m_MO_init.2.1 172 = .ok (.bastore, 1) := by decide +kernel
theorem d_MO_init_173 : decode m_MO_init.2.1 173 = .ok (.aload_n 0, 1) := by decide +kernel
theorem d_MO_init_174 : decode m_MO_init.2.1 174 = .ok (.getfield 38, 3) := by decide +kernel
theorem d_MO_init_177 : decode m_MO_init.2.1 177 = .ok (.iconst 0, 1) := by decide +kernel
theorem d_MO_init_178 : decode m_MO_init.2.1 178 = .ok (.iconst (-1), 1) := by decide +kernel
theorem d_MO_init_179 : decode m_MO_init.2.1 179 = .ok (.iastore, 1) := by decide +kernel
theorem d_MO_init_180 : decode m_MO_init.2.1 180 = .ok (.return_, 1) := by decide +kernel
theorem k_MO_init : fw_cal m_MO_init := ⟨by decide +kernel, by decide +kernel, (fw_t 7 (by decide +kernel)), Or.inl ⟨rfl, fw_t 633 (by decide +kernel)⟩⟩
abbrev m_MO_thrown : fw_M := (⟨"FolderRightsModel", "thrown", "()I"⟩, prog_6_method_2_code, 1, (some .int), { frames := 0, cells := 0, slots := 0, locals := 0 }, [])
theorem d_MO_thrown_0 : decode m_MO_thrown.2.1 0 = .ok (.aload_n 0, 1) := by decide +kernel
theorem d_MO_thrown_1 : decode m_MO_thrown.2.1 1 = .ok (.getfield 63, 3) := by decide +kernel
theorem d_MO_thrown_4 : decode m_MO_thrown.2.1 4 = .ok (.ireturn, 1) := by decide +kernel
theorem k_MO_thrown : fw_cal m_MO_thrown := ⟨by decide +kernel, by decide +kernel, (fw_t 7 (by decide +kernel)), Or.inl ⟨rfl, fw_t 707 (by decide +kernel)⟩⟩
abbrev m_MO_user : fw_M := (⟨"FolderRightsModel", "user", "()I"⟩, prog_6_method_8_code, 1, (some .int), { frames := 1, cells := 0, slots := 0, locals := 23 }, [])
theorem d_MO_user_0 : decode m_MO_user.2.1 0 = .ok (.aload_n 0, 1) := by decide +kernel
theorem d_MO_user_1 : decode m_MO_user.2.1 1 = .ok (.aload_n 0, 1) := by decide +kernel
theorem d_MO_user_2 : decode m_MO_user.2.1 2 = .ok (.getfield 7, 3) := by decide +kernel
theorem d_MO_user_5 : decode m_MO_user.2.1 5 = .ok (.bipush 60, 2) := by decide +kernel
theorem d_MO_user_7 : decode m_MO_user.2.1 7 = .ok (.if_icmp .ge 7, 3) := by decide +kernel
theorem d_MO_user_10 : decode m_MO_user.2.1 10 = .ok (.iconst 1, 1) := by decide +kernel
theorem d_MO_user_11 : decode m_MO_user.2.1 11 = .ok (.goto 4, 3) := by decide +kernel
theorem d_MO_user_14 : decode m_MO_user.2.1 14 = .ok (.iconst 0, 1) := by decide +kernel
theorem d_MO_user_15 : decode m_MO_user.2.1 15 = .ok (.iconst 1, 1) := by decide +kernel
theorem d_MO_user_16 : decode m_MO_user.2.1 16 = .ok (.iconst 1, 1) := by decide +kernel
theorem d_MO_user_17 : decode m_MO_user.2.1 17 = .ok (.invokevirtual 69, 3) := by decide +kernel
theorem d_MO_user_20 : decode m_MO_user.2.1 20 = .ok (.ifCond .ne 5, 3) := by decide +kernel
theorem d_MO_user_23 : decode m_MO_user.2.1 23 = .ok (.iconst 0, 1) := by decide +kernel
theorem d_MO_user_24 : decode m_MO_user.2.1 24 = .ok (.ireturn, 1) := by decide +kernel
theorem d_MO_user_25 : decode m_MO_user.2.1 25 = .ok (.aload_n 0, 1) := by decide +kernel
theorem d_MO_user_26 : decode m_MO_user.2.1 26 = .ok (.dup, 1) := by decide +kernel
theorem d_MO_user_27 : decode m_MO_user.2.1 27 = .ok (.getfield 7, 3) := by decide +kernel
theorem d_MO_user_30 : decode m_MO_user.2.1 30 = .ok (.iconst 1, 1) := by decide +kernel
theorem d_MO_user_31 : decode m_MO_user.2.1 31 = .ok (.iadd, 1) := by decide +kernel
theorem d_MO_user_32 : decode m_MO_user.2.1 32 = .ok (.putfield 7, 3) := by decide +kernel
theorem d_MO_user_35 : decode m_MO_user.2.1 35 = .ok (.aload_n 0, 1) := by decide +kernel
theorem d_MO_user_36 : decode m_MO_user.2.1 36 = .ok (.getfield 7, 3) := by decide +kernel
theorem d_MO_user_39 : decode m_MO_user.2.1 39 = .ok (.iconst 1, 1) := by decide +kernel
theorem d_MO_user_40 : decode m_MO_user.2.1 40 = .ok (.isub, 1) := by decide +kernel
theorem d_MO_user_41 : decode m_MO_user.2.1 41 = .ok (.ireturn, 1) := by decide +kernel
theorem k_MO_user : fw_cal m_MO_user := ⟨by decide +kernel, by decide +kernel, (fw_t 7 (by decide +kernel)), Or.inl ⟨rfl, fw_t 711 (by decide +kernel)⟩⟩
abbrev m_MO_goes : fw_M := (⟨"FolderRightsModel", "goes", "(ZZZ)Z"⟩, prog_6_method_3_code, 4, (some .boolean), { frames := 0, cells := 0, slots := 0, locals := 0 }, [])
theorem d_MO_goes_0 : decode m_MO_goes.2.1 0 = .ok (.aload_n 0, 1) := by decide +kernel
theorem d_MO_goes_1 : decode m_MO_goes.2.1 1 = .ok (.iload_n 1, 1) := by decide +kernel
theorem d_MO_goes_2 : decode m_MO_goes.2.1 2 = .ok (.ifCond .ne 7, 3) := by decide +kernel
theorem d_MO_goes_5 : decode m_MO_goes.2.1 5 = .ok (.iconst 1, 1) := by decide +kernel
theorem d_MO_goes_6 : decode m_MO_goes.2.1 6 = .ok (.goto 20, 3) := by decide +kernel
theorem d_MO_goes_9 : decode m_MO_goes.2.1 9 = .ok (.iload_n 2, 1) := by decide +kernel
theorem d_MO_goes_10 : decode m_MO_goes.2.1 10 = .ok (.ifCond .ne 7, 3) := by decide +kernel
theorem d_MO_goes_13 : decode m_MO_goes.2.1 13 = .ok (.iconst 2, 1) := by decide +kernel
theorem d_MO_goes_14 : decode m_MO_goes.2.1 14 = .ok (.goto 12, 3) := by decide +kernel
theorem d_MO_goes_17 : decode m_MO_goes.2.1 17 = .ok (.iload_n 3, 1) := by decide +kernel
theorem d_MO_goes_18 : decode m_MO_goes.2.1 18 = .ok (.ifCond .ne 7, 3) := by decide +kernel
theorem d_MO_goes_21 : decode m_MO_goes.2.1 21 = .ok (.iconst 3, 1) := by decide +kernel
theorem d_MO_goes_22 : decode m_MO_goes.2.1 22 = .ok (.goto 4, 3) := by decide +kernel
theorem d_MO_goes_25 : decode m_MO_goes.2.1 25 = .ok (.iconst 0, 1) := by decide +kernel
theorem d_MO_goes_26 : decode m_MO_goes.2.1 26 = .ok (.putfield 63, 3) := by decide +kernel
theorem d_MO_goes_29 : decode m_MO_goes.2.1 29 = .ok (.aload_n 0, 1) := by decide +kernel
theorem d_MO_goes_30 : decode m_MO_goes.2.1 30 = .ok (.getfield 63, 3) := by decide +kernel
theorem d_MO_goes_33 : decode m_MO_goes.2.1 33 = .ok (.ifCond .ne 7, 3) := by decide +kernel
theorem d_MO_goes_36 : decode m_MO_goes.2.1 36 = .ok (.iconst 1, 1) := by decide +kernel
theorem d_MO_goes_37 : decode m_MO_goes.2.1 37 = .ok (.goto 4, 3) := by decide +kernel
theorem d_MO_goes_40 : decode m_MO_goes.2.1 40 = .ok (.iconst 0, 1) := by decide +kernel
theorem d_MO_goes_41 : decode m_MO_goes.2.1 41 = .ok (.ireturn, 1) := by decide +kernel
theorem k_MO_goes : fw_cal m_MO_goes := ⟨by decide +kernel, by decide +kernel, (fw_t 7 (by decide +kernel)), Or.inl ⟨rfl, fw_t 715 (by decide +kernel)⟩⟩
abbrev m_MO_group : fw_M := (⟨"FolderRightsModel", "group", "()I"⟩, prog_6_method_9_code, 1, (some .int), { frames := 1, cells := 0, slots := 0, locals := 23 }, [])
theorem d_MO_group_0 : decode m_MO_group.2.1 0 = .ok (.aload_n 0, 1) := by decide +kernel
theorem d_MO_group_1 : decode m_MO_group.2.1 1 = .ok (.aload_n 0, 1) := by decide +kernel
theorem d_MO_group_2 : decode m_MO_group.2.1 2 = .ok (.getfield 66, 3) := by decide +kernel
theorem d_MO_group_5 : decode m_MO_group.2.1 5 = .ok (.bipush 24, 2) := by decide +kernel
theorem d_MO_group_7 : decode m_MO_group.2.1 7 = .ok (.if_icmp .ge 7, 3) := by decide +kernel
theorem d_MO_group_10 : decode m_MO_group.2.1 10 = .ok (.iconst 1, 1) := by decide +kernel
theorem d_MO_group_11 : decode m_MO_group.2.1 11 = .ok (.goto 4, 3) := by decide +kernel
theorem d_MO_group_14 : decode m_MO_group.2.1 14 = .ok (.iconst 0, 1) := by decide +kernel
theorem d_MO_group_15 : decode m_MO_group.2.1 15 = .ok (.iconst 1, 1) := by decide +kernel
theorem d_MO_group_16 : decode m_MO_group.2.1 16 = .ok (.iconst 1, 1) := by decide +kernel
theorem d_MO_group_17 : decode m_MO_group.2.1 17 = .ok (.invokevirtual 69, 3) := by decide +kernel
theorem d_MO_group_20 : decode m_MO_group.2.1 20 = .ok (.ifCond .ne 5, 3) := by decide +kernel
theorem d_MO_group_23 : decode m_MO_group.2.1 23 = .ok (.iconst 0, 1) := by decide +kernel
theorem d_MO_group_24 : decode m_MO_group.2.1 24 = .ok (.ireturn, 1) := by decide +kernel
theorem d_MO_group_25 : decode m_MO_group.2.1 25 = .ok (.aload_n 0, 1) := by decide +kernel
theorem d_MO_group_26 : decode m_MO_group.2.1 26 = .ok (.dup, 1) := by decide +kernel
theorem d_MO_group_27 : decode m_MO_group.2.1 27 = .ok (.getfield 66, 3) := by decide +kernel
theorem d_MO_group_30 : decode m_MO_group.2.1 30 = .ok (.iconst 1, 1) := by decide +kernel
theorem d_MO_group_31 : decode m_MO_group.2.1 31 = .ok (.iadd, 1) := by decide +kernel
theorem d_MO_group_32 : decode m_MO_group.2.1 32 = .ok (.putfield 66, 3) := by decide +kernel
theorem d_MO_group_35 : decode m_MO_group.2.1 35 = .ok (.aload_n 0, 1) := by decide +kernel
theorem d_MO_group_36 : decode m_MO_group.2.1 36 = .ok (.getfield 66, 3) := by decide +kernel
theorem d_MO_group_39 : decode m_MO_group.2.1 39 = .ok (.iconst 1, 1) := by decide +kernel
theorem d_MO_group_40 : decode m_MO_group.2.1 40 = .ok (.isub, 1) := by decide +kernel
theorem d_MO_group_41 : decode m_MO_group.2.1 41 = .ok (.ireturn, 1) := by decide +kernel
theorem k_MO_group : fw_cal m_MO_group := ⟨by decide +kernel, by decide +kernel, (fw_t 7 (by decide +kernel)), Or.inl ⟨rfl, fw_t 719 (by decide +kernel)⟩⟩
abbrev m_MO_join : fw_M := (⟨"FolderRightsModel", "join", "(IIZ)Z"⟩, prog_6_method_12_code, 7, (some .boolean), { frames := 2, cells := 0, slots := 0, locals := 48 }, [])
theorem d_MO_join_0 : decode m_MO_join.2.1 0 = .ok (.aload_n 0, 1) := by decide +kernel
theorem d_MO_join_1 : decode m_MO_join.2.1 1 = .ok (.iload_n 1, 1) := by decide +kernel
theorem d_MO_join_2 : decode m_MO_join.2.1 2 = .ok (.invokevirtual 73, 3) := by decide +kernel
theorem d_MO_join_5 : decode m_MO_join.2.1 5 = .ok (.ifCond .eq 16, 3) := by decide +kernel
theorem d_MO_join_8 : decode m_MO_join.2.1 8 = .ok (.aload_n 0, 1) := by decide +kernel
theorem d_MO_join_9 : decode m_MO_join.2.1 9 = .ok (.iload_n 2, 1) := by decide +kernel
theorem d_MO_join_10 : decode m_MO_join.2.1 10 = .ok (.iload_n 3, 1) := by decide +kernel
theorem d_MO_join_11 : decode m_MO_join.2.1 11 = .ok (.invokevirtual 80, 3) := by decide +kernel
theorem d_MO_join_14 : decode m_MO_join.2.1 14 = .ok (.ifCond .eq 7, 3) := by decide +kernel
theorem d_MO_join_17 : decode m_MO_join.2.1 17 = .ok (.iconst 1, 1) := by decide +kernel
theorem d_MO_join_18 : decode m_MO_join.2.1 18 = .ok (.goto 4, 3) := by decide +kernel
theorem d_MO_join_21 : decode m_MO_join.2.1 21 = .ok (.iconst 0, 1) := by decide +kernel
theorem d_MO_join_22 : decode m_MO_join.2.1 22 = .ok (.istore 4, 2) := by decide +kernel
theorem d_MO_join_24 : decode m_MO_join.2.1 24 = .ok (.iconst 0, 1) := by decide +kernel
theorem d_MO_join_25 : decode m_MO_join.2.1 25 = .ok (.istore 5, 2) := by decide +kernel
theorem d_MO_join_27 : decode m_MO_join.2.1 27 = .ok (.iload 4, 2) := by decide +kernel
theorem d_MO_join_29 : decode m_MO_join.2.1 29 = .ok (.ifCond .eq 20, 3) := by decide +kernel
theorem d_MO_join_32 : decode m_MO_join.2.1 32 = .ok (.iload_n 3, 1) := by decide +kernel
theorem d_MO_join_33 : decode m_MO_join.2.1 33 = .ok (.ifCond .eq 16, 3) := by decide +kernel
theorem d_MO_join_36 : decode m_MO_join.2.1 36 = .ok (.aload_n 0, 1) := by decide +kernel
theorem d_MO_join_37 : decode m_MO_join.2.1 37 = .ok (.iload_n 2, 1) := by decide +kernel
theorem d_MO_join_38 : decode m_MO_join.2.1 38 = .ok (.invokevirtual 84, 3) := by decide +kernel
theorem d_MO_join_41 : decode m_MO_join.2.1 41 = .ok (.aload_n 0, 1) := by decide +kernel
theorem d_MO_join_42 : decode m_MO_join.2.1 42 = .ok (.getfield 20, 3) := by decide +kernel
theorem d_MO_join_45 : decode m_MO_join.2.1 45 = .ok (.iload_n 1, 1) := by decide +kernel
theorem d_MO_join_46 : decode m_MO_join.2.1 46 = .ok (.baload, 1) := by decide +kernel
theorem d_MO_join_47 : decode m_MO_join.2.1 47 = .ok (.istore 5, 2) := by decide +kernel
theorem d_MO_join_49 : decode m_MO_join.2.1 49 = .ok (.aload_n 0, 1) := by decide +kernel
theorem d_MO_join_50 : decode m_MO_join.2.1 50 = .ok (.iload 4, 2) := by decide +kernel
theorem d_MO_join_52 : decode m_MO_join.2.1 52 = .ok (.iload 5, 2) := by decide +kernel
theorem d_MO_join_54 : decode m_MO_join.2.1 54 = .ok (.ifCond .ne 7, 3) := by decide +kernel
theorem d_MO_join_57 : decode m_MO_join.2.1 57 = .ok (.iconst 1, 1) := by decide +kernel
theorem d_MO_join_58 : decode m_MO_join.2.1 58 = .ok (.goto 4, 3) := by decide +kernel
theorem d_MO_join_61 : decode m_MO_join.2.1 61 = .ok (.iconst 0, 1) := by decide +kernel
theorem d_MO_join_62 : decode m_MO_join.2.1 62 = .ok (.iconst 1, 1) := by decide +kernel
theorem d_MO_join_63 : decode m_MO_join.2.1 63 = .ok (.invokevirtual 69, 3) := by decide +kernel
theorem d_MO_join_66 : decode m_MO_join.2.1 66 = .ok (.ifCond .ne 5, 3) := by decide +kernel
theorem d_MO_join_69 : decode m_MO_join.2.1 69 = .ok (.iconst 0, 1) := by decide +kernel
theorem d_MO_join_70 : decode m_MO_join.2.1 70 = .ok (.ireturn, 1) := by decide +kernel
theorem d_MO_join_71 : decode m_MO_join.2.1 71 = .ok (.iload_n 3, 1) := by decide +kernel
theorem d_MO_join_72 : decode m_MO_join.2.1 72 = .ok (.ifCond .eq 17, 3) := by decide +kernel
theorem d_MO_join_75 : decode m_MO_join.2.1 75 = .ok (.aload_n 0, 1) := by decide +kernel
theorem d_MO_join_76 : decode m_MO_join.2.1 76 = .ok (.getfield 17, 3) := by decide +kernel
theorem d_MO_join_79 : decode m_MO_join.2.1 79 = .ok (.bipush 24, 2) := by decide +kernel
theorem d_MO_join_81 : decode m_MO_join.2.1 81 = .ok (.iload_n 1, 1) := by decide +kernel
theorem d_MO_join_82 : decode m_MO_join.2.1 82 = .ok (.imul, 1) := by decide +kernel
theorem d_MO_join_83 : decode m_MO_join.2.1 83 = .ok (.iload_n 2, 1) := by decide +kernel
theorem d_MO_join_84 : decode m_MO_join.2.1 84 = .ok (.iadd, 1) := by decide +kernel
theorem d_MO_join_85 : decode m_MO_join.2.1 85 = .ok (.baload, 1) := by decide +kernel
theorem d_MO_join_86 : decode m_MO_join.2.1 86 = .ok (.goto 14, 3) := by decide +kernel
theorem d_MO_join_89 : decode m_MO_join.2.1 89 = .ok (.aload_n 0, 1) := by decide +kernel
theorem d_MO_join_90 : decode m_MO_join.2.1 90 = .ok (.getfield 13, 3) := by decide +kernel
theorem d_MO_join_93 : decode m_MO_join.2.1 93 = .ok (.bipush 60, 2) := by decide +kernel
theorem d_MO_join_95 : decode m_MO_join.2.1 95 = .ok (.iload_n 1, 1) := by decide +kernel
theorem d_MO_join_96 : decode m_MO_join.2.1 96 = .ok (.imul, 1) := by decide +kernel
theorem d_MO_join_97 : decode m_MO_join.2.1 97 = .ok (.iload_n 2, 1) := by decide +kernel
theorem d_MO_join_98 : decode m_MO_join.2.1 98 = .ok (.iadd, 1) := by decide +kernel
theorem d_MO_join_99 : decode m_MO_join.2.1 99 = .ok (.baload, 1) := by decide +kernel
theorem d_MO_join_100 : decode m_MO_join.2.1 100 = .ok (.istore 6, 2) := by decide +kernel
theorem d_MO_join_102 : decode m_MO_join.2.1 102 = .ok (.iload_n 3, 1) := by decide +kernel
theorem d_MO_join_103 : decode m_MO_join.2.1 103 = .ok (.ifCond .eq 18, 3) := by decide +kernel
theorem d_MO_join_106 : decode m_MO_join.2.1 106 = .ok (.aload_n 0, 1) := by decide +kernel
theorem d_MO_join_107 : decode m_MO_join.2.1 107 = .ok (.getfield 17, 3) := by decide +kernel
theorem d_MO_join_110 : decode m_MO_join.2.1 110 = .ok (.bipush 24, 2) := by decide +kernel
theorem d_MO_join_112 : decode m_MO_join.2.1 112 = .ok (.iload_n 1, 1) := by decide +kernel
theorem d_MO_join_113 : decode m_MO_join.2.1 113 = .ok (.imul, 1) := by decide +kernel
theorem d_MO_join_114 : decode m_MO_join.2.1 114 = .ok (.iload_n 2, 1) := by decide +kernel
theorem d_MO_join_115 : decode m_MO_join.2.1 115 = .ok (.iadd, 1) := by decide +kernel
theorem d_MO_join_116 : decode m_MO_join.2.1 116 = .ok (.iconst 1, 1) := by decide +kernel
theorem d_MO_join_117 : decode m_MO_join.2.1 117 = .ok (.bastore, 1) := by decide +kernel
theorem d_MO_join_118 : decode m_MO_join.2.1 118 = .ok (.goto 15, 3) := by decide +kernel
theorem d_MO_join_121 : decode m_MO_join.2.1 121 = .ok (.aload_n 0, 1) := by decide +kernel
theorem d_MO_join_122 : decode m_MO_join.2.1 122 = .ok (.getfield 13, 3) := by decide +kernel
theorem d_MO_join_125 : decode m_MO_join.2.1 125 = .ok (.bipush 60, 2) := by decide +kernel
theorem d_MO_join_127 : decode m_MO_join.2.1 127 = .ok (.iload_n 1, 1) := by decide +kernel
theorem d_MO_join_128 : decode m_MO_join.2.1 128 = .ok (.imul, 1) := by decide +kernel
theorem d_MO_join_129 : decode m_MO_join.2.1 129 = .ok (.iload_n 2, 1) := by decide +kernel
theorem d_MO_join_130 : decode m_MO_join.2.1 130 = .ok (.iadd, 1) := by decide +kernel
theorem d_MO_join_131 : decode m_MO_join.2.1 131 = .ok (.iconst 1, 1) := by decide +kernel
theorem d_MO_join_132 : decode m_MO_join.2.1 132 = .ok (.bastore, 1) := by decide +kernel
theorem d_MO_join_133 : decode m_MO_join.2.1 133 = .ok (.aload_n 0, 1) := by decide +kernel
theorem d_MO_join_134 : decode m_MO_join.2.1 134 = .ok (.invokevirtual 88, 3) := by decide +kernel
theorem d_MO_join_137 : decode m_MO_join.2.1 137 = .ok (.iload 6, 2) := by decide +kernel
theorem d_MO_join_139 : decode m_MO_join.2.1 139 = .ok (.ifCond .ne 7, 3) := by decide +kernel
theorem d_MO_join_142 : decode m_MO_join.2.1 142 = .ok (.iconst 1, 1) := by decide +kernel
theorem d_MO_join_143 : decode m_MO_join.2.1 143 = .ok (.goto 4, 3) := by decide +kernel
theorem d_MO_join_146 : decode m_MO_join.2.1 146 = .ok (.iconst 0, 1) := by decide +kernel
theorem d_MO_join_147 : decode m_MO_join.2.1 147 = .ok (.ireturn, 1) := by decide +kernel
theorem k_MO_join : fw_cal m_MO_join := ⟨by decide +kernel, by decide +kernel, (fw_t 7 (by decide +kernel)), Or.inl ⟨rfl, fw_t 723 (by decide +kernel)⟩⟩
abbrev m_MO_isGroup : fw_M := (⟨"FolderRightsModel", "isGroup", "(I)Z"⟩, prog_6_method_6_code, 2, (some .boolean), { frames := 0, cells := 0, slots := 0, locals := 0 }, [])
theorem d_MO_isGroup_0 : decode m_MO_isGroup.2.1 0 = .ok (.iload_n 1, 1) := by decide +kernel
theorem d_MO_isGroup_1 : decode m_MO_isGroup.2.1 1 = .ok (.ifCond .lt 15, 3) := by decide +kernel
theorem d_MO_isGroup_4 : decode m_MO_isGroup.2.1 4 = .ok (.iload_n 1, 1) := by decide +kernel
theorem d_MO_isGroup_5 : decode m_MO_isGroup.2.1 5 = .ok (.aload_n 0, 1) := by decide +kernel
theorem d_MO_isGroup_6 : decode m_MO_isGroup.2.1 6 = .ok (.getfield 66, 3) := by decide +kernel
theorem d_MO_isGroup_9 : decode m_MO_isGroup.2.1 9 = .ok (.if_icmp .ge 7, 3) := by decide +kernel
theorem d_MO_isGroup_12 : decode m_MO_isGroup.2.1 12 = .ok (.iconst 1, 1) := by decide +kernel
theorem d_MO_isGroup_13 : decode m_MO_isGroup.2.1 13 = .ok (.goto 4, 3) := by decide +kernel
theorem d_MO_isGroup_16 : decode m_MO_isGroup.2.1 16 = .ok (.iconst 0, 1) := by decide +kernel
theorem d_MO_isGroup_17 : decode m_MO_isGroup.2.1 17 = .ok (.ireturn, 1) := by decide +kernel
theorem k_MO_isGroup : fw_cal m_MO_isGroup := ⟨by decide +kernel, by decide +kernel, (fw_t 7 (by decide +kernel)), Or.inl ⟨rfl, fw_t 727 (by decide +kernel)⟩⟩
abbrev m_MO_isMember : fw_M := (⟨"FolderRightsModel", "isMember", "(IZ)Z"⟩, prog_6_method_11_code, 3, (some .boolean), { frames := 1, cells := 0, slots := 0, locals := 21 }, [])
theorem d_MO_isMember_0 : decode m_MO_isMember.2.1 0 = .ok (.iload_n 2, 1) := by decide +kernel
theorem d_MO_isMember_1 : decode m_MO_isMember.2.1 1 = .ok (.ifCond .eq 11, 3) := by decide +kernel
theorem d_MO_isMember_4 : decode m_MO_isMember.2.1 4 = .ok (.aload_n 0, 1) := by decide +kernel
theorem d_MO_isMember_5 : decode m_MO_isMember.2.1 5 = .ok (.iload_n 1, 1) := by decide +kernel
theorem d_MO_isMember_6 : decode m_MO_isMember.2.1 6 = .ok (.invokevirtual 73, 3) := by decide +kernel
theorem d_MO_isMember_9 : decode m_MO_isMember.2.1 9 = .ok (.goto 8, 3) := by decide +kernel
theorem d_MO_isMember_12 : decode m_MO_isMember.2.1 12 = .ok (.aload_n 0, 1) := by decide +kernel
theorem d_MO_isMember_13 : decode m_MO_isMember.2.1 13 = .ok (.iload_n 1, 1) := by decide +kernel
theorem d_MO_isMember_14 : decode m_MO_isMember.2.1 14 = .ok (.invokevirtual 77, 3) := by decide +kernel
theorem d_MO_isMember_17 : decode m_MO_isMember.2.1 17 = .ok (.ireturn, 1) := by decide +kernel
theorem k_MO_isMember : fw_cal m_MO_isMember := ⟨by decide +kernel, by decide +kernel, (fw_t 7 (by decide +kernel)), Or.inl ⟨rfl, fw_t 731 (by decide +kernel)⟩⟩
abbrev m_MO_isUser : fw_M := (⟨"FolderRightsModel", "isUser", "(I)Z"⟩, prog_6_method_5_code, 2, (some .boolean), { frames := 0, cells := 0, slots := 0, locals := 0 }, [])
theorem d_MO_isUser_0 : decode m_MO_isUser.2.1 0 = .ok (.iload_n 1, 1) := by decide +kernel
theorem d_MO_isUser_1 : decode m_MO_isUser.2.1 1 = .ok (.ifCond .lt 15, 3) := by decide +kernel
theorem d_MO_isUser_4 : decode m_MO_isUser.2.1 4 = .ok (.iload_n 1, 1) := by decide +kernel
theorem d_MO_isUser_5 : decode m_MO_isUser.2.1 5 = .ok (.aload_n 0, 1) := by decide +kernel
theorem d_MO_isUser_6 : decode m_MO_isUser.2.1 6 = .ok (.getfield 7, 3) := by decide +kernel
theorem d_MO_isUser_9 : decode m_MO_isUser.2.1 9 = .ok (.if_icmp .ge 7, 3) := by decide +kernel
theorem d_MO_isUser_12 : decode m_MO_isUser.2.1 12 = .ok (.iconst 1, 1) := by decide +kernel
theorem d_MO_isUser_13 : decode m_MO_isUser.2.1 13 = .ok (.goto 4, 3) := by decide +kernel
theorem d_MO_isUser_16 : decode m_MO_isUser.2.1 16 = .ok (.iconst 0, 1) := by decide +kernel
theorem d_MO_isUser_17 : decode m_MO_isUser.2.1 17 = .ok (.ireturn, 1) := by decide +kernel
theorem k_MO_isUser : fw_cal m_MO_isUser := ⟨by decide +kernel, by decide +kernel, (fw_t 7 (by decide +kernel)), Or.inl ⟨rfl, fw_t 735 (by decide +kernel)⟩⟩
abbrev m_MO_findGroups : fw_M := (⟨"FolderRightsModel", "findGroups", "(I)V"⟩, prog_6_method_10_code, 5, none, { frames := 0, cells := 0, slots := 0, locals := 0 }, [])
theorem d_MO_findGroups_0 : decode m_MO_findGroups.2.1 0 = .ok (.iconst 0, 1) := by decide +kernel
theorem d_MO_findGroups_1 : decode m_MO_findGroups.2.1 1 = .ok (.istore_n 2, 1) := by decide +kernel
theorem d_MO_findGroups_2 : decode m_MO_findGroups.2.1 2 = .ok (.iload_n 2, 1) := by decide +kernel
theorem d_MO_findGroups_3 : decode m_MO_findGroups.2.1 3 = .ok (.bipush 24, 2) := by decide +kernel
theorem d_MO_findGroups_5 : decode m_MO_findGroups.2.1 5 = .ok (.if_icmp .ge 25, 3) := by decide +kernel
theorem d_MO_findGroups_8 : decode m_MO_findGroups.2.1 8 = .ok (.aload_n 0, 1) := by decide +kernel
theorem d_MO_findGroups_9 : decode m_MO_findGroups.2.1 9 = .ok (.getfield 20, 3) := by decide +kernel
theorem d_MO_findGroups_12 : decode m_MO_findGroups.2.1 12 = .ok (.iload_n 2, 1) := by decide +kernel
theorem d_MO_findGroups_13 : decode m_MO_findGroups.2.1 13 = .ok (.iload_n 2, 1) := by decide +kernel
theorem d_MO_findGroups_14 : decode m_MO_findGroups.2.1 14 = .ok (.iload_n 1, 1) := by decide +kernel
theorem d_MO_findGroups_15 : decode m_MO_findGroups.2.1 15 = .ok (.if_icmp .ne 7, 3) := by decide +kernel
theorem d_MO_findGroups_18 : decode m_MO_findGroups.2.1 18 = .ok (.iconst 1, 1) := by decide +kernel
theorem d_MO_findGroups_19 : decode m_MO_findGroups.2.1 19 = .ok (.goto 4, 3) := by decide +kernel
theorem d_MO_findGroups_22 : decode m_MO_findGroups.2.1 22 = .ok (.iconst 0, 1) := by decide +kernel
theorem d_MO_findGroups_23 : decode m_MO_findGroups.2.1 23 = .ok (.bastore, 1) := by decide +kernel
theorem d_MO_findGroups_24 : decode m_MO_findGroups.2.1 24 = .ok (.iinc 2 1, 3) := by decide +kernel
theorem d_MO_findGroups_27 : decode m_MO_findGroups.2.1 27 = .ok (.goto (-25), 3) := by decide +kernel
theorem d_MO_findGroups_30 : decode m_MO_findGroups.2.1 30 = .ok (.iconst 1, 1) := by decide +kernel
theorem d_MO_findGroups_31 : decode m_MO_findGroups.2.1 31 = .ok (.istore_n 2, 1) := by decide +kernel
theorem d_MO_findGroups_32 : decode m_MO_findGroups.2.1 32 = .ok (.iload_n 2, 1) := by decide +kernel
theorem d_MO_findGroups_33 : decode m_MO_findGroups.2.1 33 = .ok (.ifCond .eq 86, 3) := by decide +kernel
theorem d_MO_findGroups_36 : decode m_MO_findGroups.2.1 36 = .ok (.iconst 0, 1) := by decide +kernel
theorem d_MO_findGroups_37 : decode m_MO_findGroups.2.1 37 = .ok (.istore_n 2, 1) := by decide +kernel
theorem d_MO_findGroups_38 : decode m_MO_findGroups.2.1 38 = .ok (.iconst 0, 1) := by decide +kernel
theorem d_MO_findGroups_39 : decode m_MO_findGroups.2.1 39 = .ok (.istore_n 3, 1) := by decide +kernel
theorem d_MO_findGroups_40 : decode m_MO_findGroups.2.1 40 = .ok (.iload_n 3, 1) := by decide +kernel
theorem d_MO_findGroups_41 : decode m_MO_findGroups.2.1 41 = .ok (.aload_n 0, 1) := by decide +kernel
theorem d_MO_findGroups_42 : decode m_MO_findGroups.2.1 42 = .ok (.getfield 66, 3) := by decide +kernel
theorem d_MO_findGroups_45 : decode m_MO_findGroups.2.1 45 = .ok (.if_icmp .ge 71, 3) := by decide +kernel
theorem d_MO_findGroups_48 : decode m_MO_findGroups.2.1 48 = .ok (.iconst 0, 1) := by decide +kernel
theorem d_MO_findGroups_49 : decode m_MO_findGroups.2.1 49 = .ok (.istore 4, 2) := by decide +kernel
theorem d_MO_findGroups_51 : decode m_MO_findGroups.2.1 51 = .ok (.iload 4, 2) := by decide +kernel
theorem d_MO_findGroups_53 : decode m_MO_findGroups.2.1 53 = .ok (.aload_n 0, 1) := by decide +kernel
theorem d_MO_findGroups_54 : decode m_MO_findGroups.2.1 54 = .ok (.getfield 66, 3) := by decide +kernel
theorem d_MO_findGroups_57 : decode m_MO_findGroups.2.1 57 = .ok (.if_icmp .ge 53, 3) := by decide +kernel
theorem d_MO_findGroups_60 : decode m_MO_findGroups.2.1 60 = .ok (.aload_n 0, 1) := by decide +kernel
theorem d_MO_findGroups_61 : decode m_MO_findGroups.2.1 61 = .ok (.getfield 20, 3) := by decide +kernel
theorem d_MO_findGroups_64 : decode m_MO_findGroups.2.1 64 = .ok (.iload_n 3, 1) := by decide +kernel
theorem d_MO_findGroups_65 : decode m_MO_findGroups.2.1 65 = .ok (.baload, 1) := by decide +kernel
theorem d_MO_findGroups_66 : decode m_MO_findGroups.2.1 66 = .ok (.ifCond .eq 38, 3) := by decide +kernel
theorem d_MO_findGroups_69 : decode m_MO_findGroups.2.1 69 = .ok (.aload_n 0, 1) := by decide +kernel
theorem d_MO_findGroups_70 : decode m_MO_findGroups.2.1 70 = .ok (.getfield 17, 3) := by decide +kernel
theorem d_MO_findGroups_73 : decode m_MO_findGroups.2.1 73 = .ok (.bipush 24, 2) := by decide +kernel
theorem d_MO_findGroups_75 : decode m_MO_findGroups.2.1 75 = .ok (.iload_n 3, 1) := by decide +kernel
theorem d_MO_findGroups_76 : decode m_MO_findGroups.2.1 76 = .ok (.imul, 1) := by decide +kernel
theorem d_MO_findGroups_77 : decode m_MO_findGroups.2.1 77 = .ok (.iload 4, 2) := by decide +kernel
theorem d_MO_findGroups_79 : decode m_MO_findGroups.2.1 79 = .ok (.iadd, 1) := by decide +kernel
theorem d_MO_findGroups_80 : decode m_MO_findGroups.2.1 80 = .ok (.baload, 1) := by decide +kernel
theorem d_MO_findGroups_81 : decode m_MO_findGroups.2.1 81 = .ok (.ifCond .eq 23, 3) := by decide +kernel
theorem d_MO_findGroups_84 : decode m_MO_findGroups.2.1 84 = .ok (.aload_n 0, 1) := by decide +kernel
theorem d_MO_findGroups_85 : decode m_MO_findGroups.2.1 85 = .ok (.getfield 20, 3) := by decide +kernel
theorem d_MO_findGroups_88 : decode m_MO_findGroups.2.1 88 = .ok (.iload 4, 2) := by decide +kernel
theorem d_MO_findGroups_90 : decode m_MO_findGroups.2.1 90 = .ok (.baload, 1) := by decide +kernel
theorem d_MO_findGroups_91 : decode m_MO_findGroups.2.1 91 = .ok (.ifCond .ne 13, 3) := by decide +kernel
theorem d_MO_findGroups_94 : decode m_MO_findGroups.2.1 94 = .ok (.aload_n 0, 1) := by decide +kernel
theorem d_MO_findGroups_95 : decode m_MO_findGroups.2.1 95 = .ok (.getfield 20, 3) := by decide +kernel
theorem d_MO_findGroups_98 : decode m_MO_findGroups.2.1 98 = .ok (.iload 4, 2) := by decide +kernel
theorem d_MO_findGroups_100 : decode m_MO_findGroups.2.1 100 = .ok (.iconst 1, 1) := by decide +kernel
theorem d_MO_findGroups_101 : decode m_MO_findGroups.2.1 101 = .ok (.bastore, 1) := by decide +kernel
theorem d_MO_findGroups_102 : decode m_MO_findGroups.2.1 102 = .ok (.iconst 1, 1) := by decide +kernel
theorem d_MO_findGroups_103 : decode m_MO_findGroups.2.1 103 = .ok (.istore_n 2, 1) := by decide +kernel
theorem d_MO_findGroups_104 : decode m_MO_findGroups.2.1 104 = .ok (.iinc 4 1, 3) := by decide +kernel
theorem d_MO_findGroups_107 : decode m_MO_findGroups.2.1 107 = .ok (.goto (-56), 3) := by decide +kernel
theorem d_MO_findGroups_110 : decode m_MO_findGroups.2.1 110 = .ok (.iinc 3 1, 3) := by decide +kernel
theorem d_MO_findGroups_113 : decode m_MO_findGroups.2.1 113 = .ok (.goto (-73), 3) := by decide +kernel
theorem d_MO_findGroups_116 : decode m_MO_findGroups.2.1 116 = .ok (.goto (-84), 3) := by decide +kernel
theorem d_MO_findGroups_119 : decode m_MO_findGroups.2.1 119 = .ok (.return_, 1) := by decide +kernel
theorem k_MO_findGroups : fw_cal m_MO_findGroups := ⟨by decide +kernel, by decide +kernel, (fw_t 7 (by decide +kernel)), Or.inl ⟨rfl, fw_t 739 (by decide +kernel)⟩⟩
abbrev m_MO_settle : fw_M := (⟨"FolderRightsModel", "settle", "()V"⟩, prog_6_method_15_code, 5, none, { frames := 1, cells := 0, slots := 0, locals := 24 }, [])
theorem d_MO_settle_0 : decode m_MO_settle.2.1 0 = .ok (.iconst 0, 1) := by decide +kernel
theorem d_MO_settle_1 : decode m_MO_settle.2.1 1 = .ok (.istore_n 1, 1) := by decide +kernel
theorem d_MO_settle_2 : decode m_MO_settle.2.1 2 = .ok (.iload_n 1, 1) := by decide +kernel
theorem d_MO_settle_3 : decode m_MO_settle.2.1 3 = .ok (.aload_n 0, 1) := by decide +kernel
theorem d_MO_settle_4 : decode m_MO_settle.2.1 4 = .ok (.getfield 66, 3) := by decide +kernel
theorem d_MO_settle_7 : decode m_MO_settle.2.1 7 = .ok (.if_icmp .ge 97, 3) := by decide +kernel
theorem d_MO_settle_10 : decode m_MO_settle.2.1 10 = .ok (.aload_n 0, 1) := by decide +kernel
theorem d_MO_settle_11 : decode m_MO_settle.2.1 11 = .ok (.iload_n 1, 1) := by decide +kernel
theorem d_MO_settle_12 : decode m_MO_settle.2.1 12 = .ok (.invokevirtual 84, 3) := by decide +kernel
theorem d_MO_settle_15 : decode m_MO_settle.2.1 15 = .ok (.iconst 0, 1) := by decide +kernel
theorem d_MO_settle_16 : decode m_MO_settle.2.1 16 = .ok (.istore_n 2, 1) := by decide +kernel
theorem d_MO_settle_17 : decode m_MO_settle.2.1 17 = .ok (.iload_n 2, 1) := by decide +kernel
theorem d_MO_settle_18 : decode m_MO_settle.2.1 18 = .ok (.aload_n 0, 1) := by decide +kernel
theorem d_MO_settle_19 : decode m_MO_settle.2.1 19 = .ok (.getfield 7, 3) := by decide +kernel
theorem d_MO_settle_22 : decode m_MO_settle.2.1 22 = .ok (.if_icmp .ge 76, 3) := by decide +kernel
theorem d_MO_settle_25 : decode m_MO_settle.2.1 25 = .ok (.iconst 0, 1) := by decide +kernel
theorem d_MO_settle_26 : decode m_MO_settle.2.1 26 = .ok (.istore_n 3, 1) := by decide +kernel
theorem d_MO_settle_27 : decode m_MO_settle.2.1 27 = .ok (.iconst 0, 1) := by decide +kernel
theorem d_MO_settle_28 : decode m_MO_settle.2.1 28 = .ok (.istore 4, 2) := by decide +kernel
theorem d_MO_settle_30 : decode m_MO_settle.2.1 30 = .ok (.iload 4, 2) := by decide +kernel
theorem d_MO_settle_32 : decode m_MO_settle.2.1 32 = .ok (.aload_n 0, 1) := by decide +kernel
theorem d_MO_settle_33 : decode m_MO_settle.2.1 33 = .ok (.getfield 66, 3) := by decide +kernel
theorem d_MO_settle_36 : decode m_MO_settle.2.1 36 = .ok (.if_icmp .ge 44, 3) := by decide +kernel
theorem d_MO_settle_39 : decode m_MO_settle.2.1 39 = .ok (.iload_n 3, 1) := by decide +kernel
theorem d_MO_settle_40 : decode m_MO_settle.2.1 40 = .ok (.ifCond .ne 28, 3) := by decide +kernel
theorem d_MO_settle_43 : decode m_MO_settle.2.1 43 = .ok (.aload_n 0, 1) := by decide +kernel
theorem d_MO_settle_44 : decode m_MO_settle.2.1 44 = .ok (.getfield 20, 3) := by decide +kernel
theorem d_MO_settle_47 : decode m_MO_settle.2.1 47 = .ok (.iload 4, 2) := by decide +kernel
theorem d_MO_settle_49 : decode m_MO_settle.2.1 49 = .ok (.baload, 1) := by decide +kernel
theorem d_MO_settle_50 : decode m_MO_settle.2.1 50 = .ok (.ifCond .eq 22, 3) := by decide +kernel
theorem d_MO_settle_53 : decode m_MO_settle.2.1 53 = .ok (.aload_n 0, 1) := by decide +kernel
theorem d_MO_settle_54 : decode m_MO_settle.2.1 54 = .ok (.getfield 13, 3) := by decide +kernel
theorem d_MO_settle_57 : decode m_MO_settle.2.1 57 = .ok (.bipush 60, 2) := by decide +kernel
theorem d_MO_settle_59 : decode m_MO_settle.2.1 59 = .ok (.iload 4, 2) := by decide +kernel
theorem d_MO_settle_61 : decode m_MO_settle.2.1 61 = .ok (.imul, 1) := by decide +kernel
theorem d_MO_settle_62 : decode m_MO_settle.2.1 62 = .ok (.iload_n 2, 1) := by decide +kernel
theorem d_MO_settle_63 : decode m_MO_settle.2.1 63 = .ok (.iadd, 1) := by decide +kernel
theorem d_MO_settle_64 : decode m_MO_settle.2.1 64 = .ok (.baload, 1) := by decide +kernel
theorem d_MO_settle_65 : decode m_MO_settle.2.1 65 = .ok (.ifCond .eq 7, 3) := by decide +kernel
theorem d_MO_settle_68 : decode m_MO_settle.2.1 68 = .ok (.iconst 1, 1) := by decide +kernel
theorem d_MO_settle_69 : decode m_MO_settle.2.1 69 = .ok (.goto 4, 3) := by decide +kernel
theorem d_MO_settle_72 : decode m_MO_settle.2.1 72 = .ok (.iconst 0, 1) := by decide +kernel
theorem d_MO_settle_73 : decode m_MO_settle.2.1 73 = .ok (.istore_n 3, 1) := by decide +kernel
theorem d_MO_settle_74 : decode m_MO_settle.2.1 74 = .ok (.iinc 4 1, 3) := by decide +kernel
theorem d_MO_settle_77 : decode m_MO_settle.2.1 77 = .ok (.goto (-47), 3) := by decide +kernel
theorem d_MO_settle_80 : decode m_MO_settle.2.1 80 = .ok (.aload_n 0, 1) := by decide +kernel
theorem d_MO_settle_81 : decode m_MO_settle.2.1 81 = .ok (.getfield 23, 3) := by decide +kernel
theorem d_MO_settle_84 : decode m_MO_settle.2.1 84 = .ok (.bipush 60, 2) := by decide +kernel
theorem d_MO_settle_86 : decode m_MO_settle.2.1 86 = .ok (.iload_n 1, 1) := by decide +kernel
theorem d_MO_settle_87 : decode m_MO_settle.2.1 87 = .ok (.imul, 1) := by decide +kernel
theorem d_MO_settle_88 : decode m_MO_settle.2.1 88 = .ok (.iload_n 2, 1) := by decide +kernel
theorem d_MO_settle_89 : decode m_MO_settle.2.1 89 = .ok (.iadd, 1) := by decide +kernel
theorem d_MO_settle_90 : decode m_MO_settle.2.1 90 = .ok (.iload_n 3, 1) := by decide +kernel
theorem d_MO_settle_91 : decode m_MO_settle.2.1 91 = .ok (.bastore, 1) := by decide +kernel
theorem d_MO_settle_92 : decode m_MO_settle.2.1 92 = .ok (.iinc 2 1, 3) := by decide +kernel
theorem d_MO_settle_95 : decode m_MO_settle.2.1 95 = .ok (.goto (-78), 3) := by decide +kernel
theorem d_MO_settle_98 : decode m_MO_settle.2.1 98 = .ok (.iinc 1 1, 3) := by decide +kernel
theorem d_MO_settle_101 : decode m_MO_settle.2.1 101 = .ok (.goto (-99), 3) := by decide +kernel
theorem d_MO_settle_104 : decode m_MO_settle.2.1 104 = .ok (.return_, 1) := by decide +kernel
theorem k_MO_settle : fw_cal m_MO_settle := ⟨by decide +kernel, by decide +kernel, (fw_t 7 (by decide +kernel)), Or.inl ⟨rfl, fw_t 743 (by decide +kernel)⟩⟩
abbrev m_MO_leave : fw_M := (⟨"FolderRightsModel", "leave", "(IIZ)Z"⟩, prog_6_method_13_code, 5, (some .boolean), { frames := 2, cells := 0, slots := 0, locals := 48 }, [])
theorem d_MO_leave_0 : decode m_MO_leave.2.1 0 = .ok (.aload_n 0, 1) := by decide +kernel
theorem d_MO_leave_1 : decode m_MO_leave.2.1 1 = .ok (.aload_n 0, 1) := by decide +kernel
theorem d_MO_leave_2 : decode m_MO_leave.2.1 2 = .ok (.iload_n 1, 1) := by decide +kernel
theorem d_MO_leave_3 : decode m_MO_leave.2.1 3 = .ok (.invokevirtual 73, 3) := by decide +kernel
theorem d_MO_leave_6 : decode m_MO_leave.2.1 6 = .ok (.ifCond .eq 16, 3) := by decide +kernel
theorem d_MO_leave_9 : decode m_MO_leave.2.1 9 = .ok (.aload_n 0, 1) := by decide +kernel
theorem d_MO_leave_10 : decode m_MO_leave.2.1 10 = .ok (.iload_n 2, 1) := by decide +kernel
theorem d_MO_leave_11 : decode m_MO_leave.2.1 11 = .ok (.iload_n 3, 1) := by decide +kernel
theorem d_MO_leave_12 : decode m_MO_leave.2.1 12 = .ok (.invokevirtual 80, 3) := by decide +kernel
theorem d_MO_leave_15 : decode m_MO_leave.2.1 15 = .ok (.ifCond .eq 7, 3) := by decide +kernel
theorem d_MO_leave_18 : decode m_MO_leave.2.1 18 = .ok (.iconst 1, 1) := by decide +kernel
theorem d_MO_leave_19 : decode m_MO_leave.2.1 19 = .ok (.goto 4, 3) := by decide +kernel
theorem d_MO_leave_22 : decode m_MO_leave.2.1 22 = .ok (.iconst 0, 1) := by decide +kernel
theorem d_MO_leave_23 : decode m_MO_leave.2.1 23 = .ok (.iconst 1, 1) := by decide +kernel
theorem d_MO_leave_24 : decode m_MO_leave.2.1 24 = .ok (.iconst 1, 1) := by decide +kernel
theorem d_MO_leave_25 : decode m_MO_leave.2.1 25 = .ok (.invokevirtual 69, 3) := by decide +kernel
theorem d_MO_leave_28 : decode m_MO_leave.2.1 28 = .ok (.ifCond .ne 5, 3) := by decide +kernel
theorem d_MO_leave_31 : decode m_MO_leave.2.1 31 = .ok (.iconst 0, 1) := by decide +kernel
theorem d_MO_leave_32 : decode m_MO_leave.2.1 32 = .ok (.ireturn, 1) := by decide +kernel
theorem d_MO_leave_33 : decode m_MO_leave.2.1 33 = .ok (.iload_n 3, 1) := by decide +kernel
theorem d_MO_leave_34 : decode m_MO_leave.2.1 34 = .ok (.ifCond .eq 17, 3) := by decide +kernel
theorem d_MO_leave_37 : decode m_MO_leave.2.1 37 = .ok (.aload_n 0, 1) := by decide +kernel
theorem d_MO_leave_38 : decode m_MO_leave.2.1 38 = .ok (.getfield 17, 3) := by decide +kernel
theorem d_MO_leave_41 : decode m_MO_leave.2.1 41 = .ok (.bipush 24, 2) := by decide +kernel
theorem d_MO_leave_43 : decode m_MO_leave.2.1 43 = .ok (.iload_n 1, 1) := by decide +kernel
theorem d_MO_leave_44 : decode m_MO_leave.2.1 44 = .ok (.imul, 1) := by decide +kernel
theorem d_MO_leave_45 : decode m_MO_leave.2.1 45 = .ok (.iload_n 2, 1) := by decide +kernel
theorem d_MO_leave_46 : decode m_MO_leave.2.1 46 = .ok (.iadd, 1) := by decide +kernel
theorem d_MO_leave_47 : decode m_MO_leave.2.1 47 = .ok (.baload, 1) := by decide +kernel
theorem d_MO_leave_48 : decode m_MO_leave.2.1 48 = .ok (.goto 14, 3) := by decide +kernel
theorem d_MO_leave_51 : decode m_MO_leave.2.1 51 = .ok (.aload_n 0, 1) := by decide +kernel
theorem d_MO_leave_52 : decode m_MO_leave.2.1 52 = .ok (.getfield 13, 3) := by decide +kernel
theorem d_MO_leave_55 : decode m_MO_leave.2.1 55 = .ok (.bipush 60, 2) := by decide +kernel
theorem d_MO_leave_57 : decode m_MO_leave.2.1 57 = .ok (.iload_n 1, 1) := by decide +kernel
theorem d_MO_leave_58 : decode m_MO_leave.2.1 58 = .ok (.imul, 1) := by decide +kernel
theorem d_MO_leave_59 : decode m_MO_leave.2.1 59 = .ok (.iload_n 2, 1) := by decide +kernel
theorem d_MO_leave_60 : decode m_MO_leave.2.1 60 = .ok (.iadd, 1) := by decide +kernel
theorem d_MO_leave_61 : decode m_MO_leave.2.1 61 = .ok (.baload, 1) := by decide +kernel
theorem d_MO_leave_62 : decode m_MO_leave.2.1 62 = .ok (.istore 4, 2) := by decide +kernel
theorem d_MO_leave_64 : decode m_MO_leave.2.1 64 = .ok (.iload_n 3, 1) := by decide +kernel
theorem d_MO_leave_65 : decode m_MO_leave.2.1 65 = .ok (.ifCond .eq 18, 3) := by decide +kernel
theorem d_MO_leave_68 : decode m_MO_leave.2.1 68 = .ok (.aload_n 0, 1) := by decide +kernel
theorem d_MO_leave_69 : decode m_MO_leave.2.1 69 = .ok (.getfield 17, 3) := by decide +kernel
theorem d_MO_leave_72 : decode m_MO_leave.2.1 72 = .ok (.bipush 24, 2) := by decide +kernel
theorem d_MO_leave_74 : decode m_MO_leave.2.1 74 = .ok (.iload_n 1, 1) := by decide +kernel
theorem d_MO_leave_75 : decode m_MO_leave.2.1 75 = .ok (.imul, 1) := by decide +kernel
theorem d_MO_leave_76 : decode m_MO_leave.2.1 76 = .ok (.iload_n 2, 1) := by decide +kernel
theorem d_MO_leave_77 : decode m_MO_leave.2.1 77 = .ok (.iadd, 1) := by decide +kernel
theorem d_MO_leave_78 : decode m_MO_leave.2.1 78 = .ok (.iconst 0, 1) := by decide +kernel
theorem d_MO_leave_79 : decode m_MO_leave.2.1 79 = .ok (.bastore, 1) := by decide +kernel
theorem d_MO_leave_80 : decode m_MO_leave.2.1 80 = .ok (.goto 15, 3) := by decide +kernel
theorem d_MO_leave_83 : decode m_MO_leave.2.1 83 = .ok (.aload_n 0, 1) := by decide +kernel
theorem d_MO_leave_84 : decode m_MO_leave.2.1 84 = .ok (.getfield 13, 3) := by decide +kernel
theorem d_MO_leave_87 : decode m_MO_leave.2.1 87 = .ok (.bipush 60, 2) := by decide +kernel
theorem d_MO_leave_89 : decode m_MO_leave.2.1 89 = .ok (.iload_n 1, 1) := by decide +kernel
theorem d_MO_leave_90 : decode m_MO_leave.2.1 90 = .ok (.imul, 1) := by decide +kernel
theorem d_MO_leave_91 : decode m_MO_leave.2.1 91 = .ok (.iload_n 2, 1) := by decide +kernel
theorem d_MO_leave_92 : decode m_MO_leave.2.1 92 = .ok (.iadd, 1) := by decide +kernel
theorem d_MO_leave_93 : decode m_MO_leave.2.1 93 = .ok (.iconst 0, 1) := by decide +kernel
theorem d_MO_leave_94 : decode m_MO_leave.2.1 94 = .ok (.bastore, 1) := by decide +kernel
theorem d_MO_leave_95 : decode m_MO_leave.2.1 95 = .ok (.aload_n 0, 1) := by decide +kernel
theorem d_MO_leave_96 : decode m_MO_leave.2.1 96 = .ok (.invokevirtual 88, 3) := by decide +kernel
theorem d_MO_leave_99 : decode m_MO_leave.2.1 99 = .ok (.iload 4, 2) := by decide +kernel
theorem d_MO_leave_101 : decode m_MO_leave.2.1 101 = .ok (.ireturn, 1) := by decide +kernel
theorem k_MO_leave : fw_cal m_MO_leave := ⟨by decide +kernel, by decide +kernel, (fw_t 7 (by decide +kernel)), Or.inl ⟨rfl, fw_t 747 (by decide +kernel)⟩⟩
abbrev m_MO_node : fw_M := (⟨"FolderRightsModel", "node", "(IZI)I"⟩, prog_6_method_18_code, 6, (some .int), { frames := 1, cells := 0, slots := 0, locals := 23 }, [])
theorem d_MO_node_0 : decode m_MO_node.2.1 0 = .ok (.iconst 0, 1) := by decide +kernel
theorem d_MO_node_1 : decode m_MO_node.2.1 1 = .ok (.istore 4, 2) := by decide +kernel
theorem d_MO_node_3 : decode m_MO_node.2.1 3 = .ok (.iload 4, 2) := by decide +kernel
theorem d_MO_node_5 : decode m_MO_node.2.1 5 = .ok (.sipush 150, 3) := by decide +kernel
theorem d_MO_node_8 : decode m_MO_node.2.1 8 = .ok (.if_icmp .ge 19, 3) := by decide +kernel
theorem d_MO_node_11 : decode m_MO_node.2.1 11 = .ok (.aload_n 0, 1) := by decide +kernel
theorem d_MO_node_12 : decode m_MO_node.2.1 12 = .ok (.getfield 26, 3) := by decide +kernel
theorem d_MO_node_15 : decode m_MO_node.2.1 15 = .ok (.iload 4, 2) := by decide +kernel
theorem d_MO_node_17 : decode m_MO_node.2.1 17 = .ok (.baload, 1) := by decide +kernel
theorem d_MO_node_18 : decode m_MO_node.2.1 18 = .ok (.ifCond .eq 9, 3) := by decide +kernel
theorem d_MO_node_21 : decode m_MO_node.2.1 21 = .ok (.iinc 4 1, 3) := by decide +kernel
theorem d_MO_node_24 : decode m_MO_node.2.1 24 = .ok (.goto (-21), 3) := by decide +kernel
theorem d_MO_node_27 : decode m_MO_node.2.1 27 = .ok (.aload_n 0, 1) := by decide +kernel
theorem d_MO_node_28 : decode m_MO_node.2.1 28 = .ok (.iload_n 1, 1) := by decide +kernel
theorem d_MO_node_29 : decode m_MO_node.2.1 29 = .ok (.invokevirtual 91, 3) := by decide +kernel
theorem d_MO_node_32 : decode m_MO_node.2.1 32 = .ok (.ifCond .eq 15, 3) := by decide +kernel
theorem d_MO_node_35 : decode m_MO_node.2.1 35 = .ok (.aload_n 0, 1) := by decide +kernel
theorem d_MO_node_36 : decode m_MO_node.2.1 36 = .ok (.iload_n 3, 1) := by decide +kernel
theorem d_MO_node_37 : decode m_MO_node.2.1 37 = .ok (.invokevirtual 77, 3) := by decide +kernel
theorem d_MO_node_40 : decode m_MO_node.2.1 40 = .ok (.ifCond .eq 7, 3) := by decide +kernel
theorem d_MO_node_43 : decode m_MO_node.2.1 43 = .ok (.iconst 1, 1) := by decide +kernel
theorem d_MO_node_44 : decode m_MO_node.2.1 44 = .ok (.goto 4, 3) := by decide +kernel
theorem d_MO_node_47 : decode m_MO_node.2.1 47 = .ok (.iconst 0, 1) := by decide +kernel
theorem d_MO_node_48 : decode m_MO_node.2.1 48 = .ok (.istore 5, 2) := by decide +kernel
theorem d_MO_node_50 : decode m_MO_node.2.1 50 = .ok (.aload_n 0, 1) := by decide +kernel
theorem d_MO_node_51 : decode m_MO_node.2.1 51 = .ok (.iload 5, 2) := by decide +kernel
theorem d_MO_node_53 : decode m_MO_node.2.1 53 = .ok (.iload 5, 2) := by decide +kernel
theorem d_MO_node_55 : decode m_MO_node.2.1 55 = .ok (.ifCond .eq 16, 3) := by decide +kernel
theorem d_MO_node_58 : decode m_MO_node.2.1 58 = .ok (.aload_n 0, 1) := by decide +kernel
theorem d_MO_node_59 : decode m_MO_node.2.1 59 = .ok (.getfield 29, 3) := by decide +kernel
theorem d_MO_node_62 : decode m_MO_node.2.1 62 = .ok (.iload_n 1, 1) := by decide +kernel
theorem d_MO_node_63 : decode m_MO_node.2.1 63 = .ok (.baload, 1) := by decide +kernel
theorem d_MO_node_64 : decode m_MO_node.2.1 64 = .ok (.ifCond .eq 7, 3) := by decide +kernel
theorem d_MO_node_67 : decode m_MO_node.2.1 67 = .ok (.iconst 1, 1) := by decide +kernel
theorem d_MO_node_68 : decode m_MO_node.2.1 68 = .ok (.goto 4, 3) := by decide +kernel
theorem d_MO_node_71 : decode m_MO_node.2.1 71 = .ok (.iconst 0, 1) := by decide +kernel
theorem d_MO_node_72 : decode m_MO_node.2.1 72 = .ok (.iload 5, 2) := by decide +kernel
theorem d_MO_node_74 : decode m_MO_node.2.1 74 = .ok (.ifCond .eq 25, 3) := by decide +kernel
theorem d_MO_node_77 : decode m_MO_node.2.1 77 = .ok (.iload 4, 2) := by decide +kernel
theorem d_MO_node_79 : decode m_MO_node.2.1 79 = .ok (.sipush 150, 3) := by decide +kernel
theorem d_MO_node_82 : decode m_MO_node.2.1 82 = .ok (.if_icmp .ge 17, 3) := by decide +kernel
theorem d_MO_node_85 : decode m_MO_node.2.1 85 = .ok (.aload_n 0, 1) := by decide +kernel
theorem d_MO_node_86 : decode m_MO_node.2.1 86 = .ok (.iload_n 1, 1) := by decide +kernel
theorem d_MO_node_87 : decode m_MO_node.2.1 87 = .ok (.invokevirtual 94, 3) := by decide +kernel
theorem d_MO_node_90 : decode m_MO_node.2.1 90 = .ok (.bipush 20, 2) := by decide +kernel
theorem d_MO_node_92 : decode m_MO_node.2.1 92 = .ok (.if_icmp .ge 7, 3) := by decide +kernel
theorem d_MO_node_95 : decode m_MO_node.2.1 95 = .ok (.iconst 1, 1) := by decide +kernel
theorem d_MO_node_96 : decode m_MO_node.2.1 96 = .ok (.goto 4, 3) := by decide +kernel
theorem d_MO_node_99 : decode m_MO_node.2.1 99 = .ok (.iconst 0, 1) := by decide +kernel
theorem d_MO_node_100 : decode m_MO_node.2.1 100 = .ok (.invokevirtual 69, 3) := by decide +kernel
theorem d_MO_node_103 : decode m_MO_node.2.1 103 = .ok (.ifCond .ne 5, 3) := by decide +kernel
theorem d_MO_node_106 : decode m_MO_node.2.1 106 = .ok (.iconst 0, 1) := by decide +kernel
theorem d_MO_node_107 : decode m_MO_node.2.1 107 = .ok (.ireturn, 1) := by decide +kernel
theorem d_MO_node_108 : decode m_MO_node.2.1 108 = .ok (.aload_n 0, 1) := by decide +kernel
theorem d_MO_node_109 : decode m_MO_node.2.1 109 = .ok (.getfield 26, 3) := by decide +kernel
theorem d_MO_node_112 : decode m_MO_node.2.1 112 = .ok (.iload 4, 2) := by decide +kernel
theorem d_MO_node_114 : decode m_MO_node.2.1 114 = .ok (.iconst 1, 1) := by decide +kernel
theorem d_MO_node_115 : decode m_MO_node.2.1 115 = .ok (.bastore, 1) := by decide +kernel
theorem d_MO_node_116 : decode m_MO_node.2.1 116 = .ok (.aload_n 0, 1) := by decide +kernel
theorem d_MO_node_117 : decode m_MO_node.2.1 117 = .ok (.getfield 29, 3) := by decide +kernel
theorem d_MO_node_120 : decode m_MO_node.2.1 120 = .ok (.iload 4, 2) := by decide +kernel
theorem d_MO_node_122 : decode m_MO_node.2.1 122 = .ok (.iload_n 2, 1) := by decide +kernel
theorem d_MO_node_123 : decode m_MO_node.2.1 123 = .ok (.bastore, 1) := by decide +kernel
theorem d_MO_node_124 : decode m_MO_node.2.1 124 = .ok (.aload_n 0, 1) := by decide +kernel
theorem d_MO_node_125 : decode m_MO_node.2.1 125 = .ok (.getfield 32, 3) := by decide +kernel
theorem d_MO_node_128 : decode m_MO_node.2.1 128 = .ok (.iload 4, 2) := by decide +kernel
theorem d_MO_node_130 : decode m_MO_node.2.1 130 = .ok (.iconst 0, 1) := by decide +kernel
theorem d_MO_node_131 : decode m_MO_node.2.1 131 = .ok (.bastore, 1) := by decide +kernel
theorem d_MO_node_132 : decode m_MO_node.2.1 132 = .ok (.aload_n 0, 1) := by decide +kernel
theorem d_MO_node_133 : decode m_MO_node.2.1 133 = .ok (.getfield 35, 3) := by decide +kernel
theorem d_MO_node_136 : decode m_MO_node.2.1 136 = .ok (.iload 4, 2) := by decide +kernel
theorem d_MO_node_138 : decode m_MO_node.2.1 138 = .ok (.iconst 1, 1) := by decide +kernel
theorem d_MO_node_139 : decode m_MO_node.2.1 139 = .ok (.bastore, 1) := by decide +kernel
theorem d_MO_node_140 : decode m_MO_node.2.1 140 = .ok (.aload_n 0, 1) := by decide +kernel
theorem d_MO_node_141 : decode m_MO_node.2.1 141 = .ok (.getfield 38, 3) := by decide +kernel
theorem d_MO_node_144 : decode m_MO_node.2.1 144 = .ok (.iload 4, 2) := by decide +kernel
theorem d_MO_node_146 : decode m_MO_node.2.1 146 = .ok (.iload_n 1, 1) := by decide +kernel
theorem d_MO_node_147 : decode m_MO_node.2.1 147 = .ok (.iastore, 1) := by decide +kernel
theorem d_MO_node_148 : decode m_MO_node.2.1 148 = .ok (.aload_n 0, 1) := by decide +kernel
theorem d_MO_node_149 : decode m_MO_node.2.1 149 = .ok (.getfield 42, 3) := by decide +kernel
theorem d_MO_node_152 : decode m_MO_node.2.1 152 = .ok (.iload 4, 2) := by decide +kernel
theorem d_MO_node_154 : decode m_MO_node.2.1 154 = .ok (.iload_n 3, 1) := by decide +kernel
theorem d_MO_node_155 : decode m_MO_node.2.1 155 = .ok (.iastore, 1) := by decide +kernel
theorem d_MO_node_156 : decode m_MO_node.2.1 156 = .ok (.aload_n 0, 1) := by decide +kernel
theorem d_MO_node_157 : decode m_MO_node.2.1 157 = .ok (.getfield 45, 3) := by decide +kernel
theorem d_MO_node_160 : decode m_MO_node.2.1 160 = .ok (.iload 4, 2) := by decide +kernel
theorem d_MO_node_162 : decode m_MO_node.2.1 162 = .ok (.iconst 0, 1) := by decide +kernel
theorem d_MO_node_163 : decode m_MO_node.2.1 163 = .ok (.iastore, 1) := by decide +kernel
theorem d_MO_node_164 : decode m_MO_node.2.1 164 = .ok (.iload 4, 2) := by decide +kernel
theorem d_MO_node_166 : decode m_MO_node.2.1 166 = .ok (.ireturn, 1) := by decide +kernel
theorem k_MO_node : fw_cal m_MO_node := ⟨by decide +kernel, by decide +kernel, (fw_t 7 (by decide +kernel)), Or.inl ⟨rfl, fw_t 751 (by decide +kernel)⟩⟩
abbrev m_MO_isNode : fw_M := (⟨"FolderRightsModel", "isNode", "(I)Z"⟩, prog_6_method_7_code, 2, (some .boolean), { frames := 0, cells := 0, slots := 0, locals := 0 }, [])
theorem d_MO_isNode_0 : decode m_MO_isNode.2.1 0 = .ok (.iload_n 1, 1) := by decide +kernel
theorem d_MO_isNode_1 : decode m_MO_isNode.2.1 1 = .ok (.ifCond .lt 23, 3) := by decide +kernel
theorem d_MO_isNode_4 : decode m_MO_isNode.2.1 4 = .ok (.iload_n 1, 1) := by decide +kernel
theorem d_MO_isNode_5 : decode m_MO_isNode.2.1 5 = .ok (.sipush 150, 3) := by decide +kernel
theorem d_MO_isNode_8 : decode m_MO_isNode.2.1 8 = .ok (.if_icmp .ge 16, 3) := by decide +kernel
theorem d_MO_isNode_11 : decode m_MO_isNode.2.1 11 = .ok (.aload_n 0, 1) := by decide +kernel
theorem d_MO_isNode_12 : decode m_MO_isNode.2.1 12 = .ok (.getfield 26, 3) := by decide +kernel
theorem d_MO_isNode_15 : decode m_MO_isNode.2.1 15 = .ok (.iload_n 1, 1) := by decide +kernel
theorem d_MO_isNode_16 : decode m_MO_isNode.2.1 16 = .ok (.baload, 1) := by decide +kernel
theorem d_MO_isNode_17 : decode m_MO_isNode.2.1 17 = .ok (.ifCond .eq 7, 3) := by decide +kernel
theorem d_MO_isNode_20 : decode m_MO_isNode.2.1 20 = .ok (.iconst 1, 1) := by decide +kernel
theorem d_MO_isNode_21 : decode m_MO_isNode.2.1 21 = .ok (.goto 4, 3) := by decide +kernel
theorem d_MO_isNode_24 : decode m_MO_isNode.2.1 24 = .ok (.iconst 0, 1) := by decide +kernel
theorem d_MO_isNode_25 : decode m_MO_isNode.2.1 25 = .ok (.ireturn, 1) := by decide +kernel
theorem k_MO_isNode : fw_cal m_MO_isNode := ⟨by decide +kernel, by decide +kernel, (fw_t 7 (by decide +kernel)), Or.inl ⟨rfl, fw_t 755 (by decide +kernel)⟩⟩
abbrev m_MO_depth : fw_M := (⟨"FolderRightsModel", "depth", "(I)I"⟩, prog_6_method_16_code, 4, (some .int), { frames := 0, cells := 0, slots := 0, locals := 0 }, [])
theorem d_MO_depth_0 : decode m_MO_depth.2.1 0 = .ok (.iconst 0, 1) := by decide +kernel
theorem d_MO_depth_1 : decode m_MO_depth.2.1 1 = .ok (.istore_n 2, 1) := by decide +kernel
theorem d_MO_depth_2 : decode m_MO_depth.2.1 2 = .ok (.iload_n 1, 1) := by decide +kernel
theorem d_MO_depth_3 : decode m_MO_depth.2.1 3 = .ok (.istore_n 3, 1) := by decide +kernel
theorem d_MO_depth_4 : decode m_MO_depth.2.1 4 = .ok (.aload_n 0, 1) := by decide +kernel
theorem d_MO_depth_5 : decode m_MO_depth.2.1 5 = .ok (.getfield 38, 3) := by decide +kernel
theorem d_MO_depth_8 : decode m_MO_depth.2.1 8 = .ok (.iload_n 3, 1) := by decide +kernel
theorem d_MO_depth_9 : decode m_MO_depth.2.1 9 = .ok (.iaload, 1) := by decide +kernel
theorem d_MO_depth_10 : decode m_MO_depth.2.1 10 = .ok (.iconst (-1), 1) := by decide +kernel
theorem d_MO_depth_11 : decode m_MO_depth.2.1 11 = .ok (.if_icmp .eq 16, 3) := by decide +kernel
theorem d_MO_depth_14 : decode m_MO_depth.2.1 14 = .ok (.aload_n 0, 1) := by decide +kernel
theorem d_MO_depth_15 : decode m_MO_depth.2.1 15 = .ok (.getfield 38, 3) := by decide +kernel
theorem d_MO_depth_18 : decode m_MO_depth.2.1 18 = .ok (.iload_n 3, 1) := by decide +kernel
theorem d_MO_depth_19 : decode m_MO_depth.2.1 19 = .ok (.iaload, 1) := by decide +kernel
theorem d_MO_depth_20 : decode m_MO_depth.2.1 20 = .ok (.istore_n 3, 1) := by decide +kernel
theorem d_MO_depth_21 : decode m_MO_depth.2.1 21 = .ok (.iinc 2 1, 3) := by decide +kernel
theorem d_MO_depth_24 : decode m_MO_depth.2.1 24 = .ok (.goto (-20), 3) := by decide +kernel
theorem d_MO_depth_27 : decode m_MO_depth.2.1 27 = .ok (.iload_n 2, 1) := by decide +kernel
theorem d_MO_depth_28 : decode m_MO_depth.2.1 28 = .ok (.ireturn, 1) := by decide +kernel
theorem k_MO_depth : fw_cal m_MO_depth := ⟨by decide +kernel, by decide +kernel, (fw_t 7 (by decide +kernel)), Or.inl ⟨rfl, fw_t 759 (by decide +kernel)⟩⟩
abbrev m_MO_move : fw_M := (⟨"FolderRightsModel", "move", "(II)I"⟩, prog_6_method_21_code, 5, (some .int), { frames := 2, cells := 0, slots := 0, locals := 47 }, [])
theorem d_MO_move_0 : decode m_MO_move.2.1 0 = .ok (.aload_n 0, 1) := by decide +kernel
theorem d_MO_move_1 : decode m_MO_move.2.1 1 = .ok (.iload_n 1, 1) := by decide +kernel
theorem d_MO_move_2 : decode m_MO_move.2.1 2 = .ok (.invokevirtual 91, 3) := by decide +kernel
theorem d_MO_move_5 : decode m_MO_move.2.1 5 = .ok (.ifCond .eq 15, 3) := by decide +kernel
theorem d_MO_move_8 : decode m_MO_move.2.1 8 = .ok (.aload_n 0, 1) := by decide +kernel
theorem d_MO_move_9 : decode m_MO_move.2.1 9 = .ok (.iload_n 2, 1) := by decide +kernel
theorem d_MO_move_10 : decode m_MO_move.2.1 10 = .ok (.invokevirtual 91, 3) := by decide +kernel
theorem d_MO_move_13 : decode m_MO_move.2.1 13 = .ok (.ifCond .eq 7, 3) := by decide +kernel
theorem d_MO_move_16 : decode m_MO_move.2.1 16 = .ok (.iconst 1, 1) := by decide +kernel
theorem d_MO_move_17 : decode m_MO_move.2.1 17 = .ok (.goto 4, 3) := by decide +kernel
theorem d_MO_move_20 : decode m_MO_move.2.1 20 = .ok (.iconst 0, 1) := by decide +kernel
theorem d_MO_move_21 : decode m_MO_move.2.1 21 = .ok (.istore_n 3, 1) := by decide +kernel
theorem d_MO_move_22 : decode m_MO_move.2.1 22 = .ok (.iload_n 3, 1) := by decide +kernel
theorem d_MO_move_23 : decode m_MO_move.2.1 23 = .ok (.ifCond .eq 29, 3) := by decide +kernel
theorem d_MO_move_26 : decode m_MO_move.2.1 26 = .ok (.iload_n 1, 1) := by decide +kernel
theorem d_MO_move_27 : decode m_MO_move.2.1 27 = .ok (.ifCond .le 25, 3) := by decide +kernel
theorem d_MO_move_30 : decode m_MO_move.2.1 30 = .ok (.aload_n 0, 1) := by decide +kernel
theorem d_MO_move_31 : decode m_MO_move.2.1 31 = .ok (.getfield 29, 3) := by decide +kernel
theorem d_MO_move_34 : decode m_MO_move.2.1 34 = .ok (.iload_n 2, 1) := by decide +kernel
theorem d_MO_move_35 : decode m_MO_move.2.1 35 = .ok (.baload, 1) := by decide +kernel
theorem d_MO_move_36 : decode m_MO_move.2.1 36 = .ok (.ifCond .eq 16, 3) := by decide +kernel
theorem d_MO_move_39 : decode m_MO_move.2.1 39 = .ok (.aload_n 0, 1) := by decide +kernel
theorem d_MO_move_40 : decode m_MO_move.2.1 40 = .ok (.iload_n 2, 1) := by decide +kernel
theorem d_MO_move_41 : decode m_MO_move.2.1 41 = .ok (.iload_n 1, 1) := by decide +kernel
theorem d_MO_move_42 : decode m_MO_move.2.1 42 = .ok (.invokevirtual 98, 3) := by decide +kernel
theorem d_MO_move_45 : decode m_MO_move.2.1 45 = .ok (.ifCond .ne 7, 3) := by decide +kernel
theorem d_MO_move_48 : decode m_MO_move.2.1 48 = .ok (.iconst 1, 1) := by decide +kernel
theorem d_MO_move_49 : decode m_MO_move.2.1 49 = .ok (.goto 4, 3) := by decide +kernel
theorem d_MO_move_52 : decode m_MO_move.2.1 52 = .ok (.iconst 0, 1) := by decide +kernel
theorem d_MO_move_53 : decode m_MO_move.2.1 53 = .ok (.istore 4, 2) := by decide +kernel
theorem d_MO_move_55 : decode m_MO_move.2.1 55 = .ok (.aload_n 0, 1) := by decide +kernel
theorem d_MO_move_56 : decode m_MO_move.2.1 56 = .ok (.iload_n 3, 1) := by decide +kernel
theorem d_MO_move_57 : decode m_MO_move.2.1 57 = .ok (.iload 4, 2) := by decide +kernel
theorem d_MO_move_59 : decode m_MO_move.2.1 59 = .ok (.iload 4, 2) := by decide +kernel
theorem d_MO_move_61 : decode m_MO_move.2.1 61 = .ok (.ifCond .eq 25, 3) := by decide +kernel
theorem d_MO_move_64 : decode m_MO_move.2.1 64 = .ok (.aload_n 0, 1) := by decide +kernel
theorem d_MO_move_65 : decode m_MO_move.2.1 65 = .ok (.iload_n 2, 1) := by decide +kernel
theorem d_MO_move_66 : decode m_MO_move.2.1 66 = .ok (.invokevirtual 94, 3) := by decide +kernel
theorem d_MO_move_69 : decode m_MO_move.2.1 69 = .ok (.iconst 1, 1) := by decide +kernel
theorem d_MO_move_70 : decode m_MO_move.2.1 70 = .ok (.iadd, 1) := by decide +kernel
theorem d_MO_move_71 : decode m_MO_move.2.1 71 = .ok (.aload_n 0, 1) := by decide +kernel
theorem d_MO_move_72 : decode m_MO_move.2.1 72 = .ok (.iload_n 1, 1) := by decide +kernel
theorem d_MO_move_73 : decode m_MO_move.2.1 73 = .ok (.invokevirtual 102, 3) := by decide +kernel
theorem d_MO_move_76 : decode m_MO_move.2.1 76 = .ok (.iadd, 1) := by decide +kernel
theorem d_MO_move_77 : decode m_MO_move.2.1 77 = .ok (.bipush 20, 2) := by decide +kernel
theorem d_MO_move_79 : decode m_MO_move.2.1 79 = .ok (.if_icmp .gt 7, 3) := by decide +kernel
theorem d_MO_move_82 : decode m_MO_move.2.1 82 = .ok (.iconst 1, 1) := by decide +kernel
theorem d_MO_move_83 : decode m_MO_move.2.1 83 = .ok (.goto 4, 3) := by decide +kernel
theorem d_MO_move_86 : decode m_MO_move.2.1 86 = .ok (.iconst 0, 1) := by decide +kernel
theorem d_MO_move_87 : decode m_MO_move.2.1 87 = .ok (.invokevirtual 69, 3) := by decide +kernel
theorem d_MO_move_90 : decode m_MO_move.2.1 90 = .ok (.ifCond .ne 5, 3) := by decide +kernel
theorem d_MO_move_93 : decode m_MO_move.2.1 93 = .ok (.iconst 0, 1) := by decide +kernel
theorem d_MO_move_94 : decode m_MO_move.2.1 94 = .ok (.ireturn, 1) := by decide +kernel
theorem d_MO_move_95 : decode m_MO_move.2.1 95 = .ok (.aload_n 0, 1) := by decide +kernel
theorem d_MO_move_96 : decode m_MO_move.2.1 96 = .ok (.getfield 38, 3) := by decide +kernel
theorem d_MO_move_99 : decode m_MO_move.2.1 99 = .ok (.iload_n 1, 1) := by decide +kernel
theorem d_MO_move_100 : decode m_MO_move.2.1 100 = .ok (.iload_n 2, 1) := by decide +kernel
theorem d_MO_move_101 : decode m_MO_move.2.1 101 = .ok (.iastore, 1) := by decide +kernel
theorem d_MO_move_102 : decode m_MO_move.2.1 102 = .ok (.aload_n 0, 1) := by decide +kernel
theorem d_MO_move_103 : decode m_MO_move.2.1 103 = .ok (.iload_n 1, 1) := by decide +kernel
theorem d_MO_move_104 : decode m_MO_move.2.1 104 = .ok (.iconst 1, 1) := by decide +kernel
theorem d_MO_move_105 : decode m_MO_move.2.1 105 = .ok (.invokevirtual 105, 3) := by decide +kernel
theorem d_MO_move_108 : decode m_MO_move.2.1 108 = .ok (.aload_n 0, 1) := by decide +kernel
theorem d_MO_move_109 : decode m_MO_move.2.1 109 = .ok (.iload_n 1, 1) := by decide +kernel
theorem d_MO_move_110 : decode m_MO_move.2.1 110 = .ok (.invokevirtual 94, 3) := by decide +kernel
theorem d_MO_move_113 : decode m_MO_move.2.1 113 = .ok (.ireturn, 1) := by decide +kernel
theorem k_MO_move : fw_cal m_MO_move := ⟨by decide +kernel, by decide +kernel, (fw_t 7 (by decide +kernel)), Or.inl ⟨rfl, fw_t 763 (by decide +kernel)⟩⟩
abbrev m_MO_under : fw_M := (⟨"FolderRightsModel", "under", "(II)Z"⟩, prog_6_method_17_code, 4, (some .boolean), { frames := 0, cells := 0, slots := 0, locals := 0 }, [])
theorem d_MO_under_0 : decode m_MO_under.2.1 0 = .ok (.iload_n 1, 1) := by decide +kernel
theorem d_MO_under_1 : decode m_MO_under.2.1 1 = .ok (.istore_n 3, 1) := by decide +kernel
theorem d_MO_under_2 : decode m_MO_under.2.1 2 = .ok (.iload_n 3, 1) := by decide +kernel
theorem d_MO_under_3 : decode m_MO_under.2.1 3 = .ok (.iconst (-1), 1) := by decide +kernel
theorem d_MO_under_4 : decode m_MO_under.2.1 4 = .ok (.if_icmp .eq 18, 3) := by decide +kernel
theorem d_MO_under_7 : decode m_MO_under.2.1 7 = .ok (.iload_n 3, 1) := by decide +kernel
theorem d_MO_under_8 : decode m_MO_under.2.1 8 = .ok (.iload_n 2, 1) := by decide +kernel
theorem d_MO_under_9 : decode m_MO_under.2.1 9 = .ok (.if_icmp .eq 13, 3) := by decide +kernel
theorem d_MO_under_12 : decode m_MO_under.2.1 12 = .ok (.aload_n 0, 1) := by decide +kernel
theorem d_MO_under_13 : decode m_MO_under.2.1 13 = .ok (.getfield 38, 3) := by decide +kernel
theorem d_MO_under_16 : decode m_MO_under.2.1 16 = .ok (.iload_n 3, 1) := by decide +kernel
theorem d_MO_under_17 : decode m_MO_under.2.1 17 = .ok (.iaload, 1) := by decide +kernel
theorem d_MO_under_18 : decode m_MO_under.2.1 18 = .ok (.istore_n 3, 1) := by decide +kernel
theorem d_MO_under_19 : decode m_MO_under.2.1 19 = .ok (.goto (-17), 3) := by decide +kernel
theorem d_MO_under_22 : decode m_MO_under.2.1 22 = .ok (.iload_n 3, 1) := by decide +kernel
theorem d_MO_under_23 : decode m_MO_under.2.1 23 = .ok (.iload_n 2, 1) := by decide +kernel
theorem d_MO_under_24 : decode m_MO_under.2.1 24 = .ok (.if_icmp .ne 7, 3) := by decide +kernel
theorem d_MO_under_27 : decode m_MO_under.2.1 27 = .ok (.iconst 1, 1) := by decide +kernel
theorem d_MO_under_28 : decode m_MO_under.2.1 28 = .ok (.goto 4, 3) := by decide +kernel
theorem d_MO_under_31 : decode m_MO_under.2.1 31 = .ok (.iconst 0, 1) := by decide +kernel
theorem d_MO_under_32 : decode m_MO_under.2.1 32 = .ok (.ireturn, 1) := by decide +kernel
theorem k_MO_under : fw_cal m_MO_under := ⟨by decide +kernel, by decide +kernel, (fw_t 7 (by decide +kernel)), Or.inl ⟨rfl, fw_t 767 (by decide +kernel)⟩⟩
abbrev m_MO_height : fw_M := (⟨"FolderRightsModel", "height", "(I)I"⟩, prog_6_method_20_code, 5, (some .int), { frames := 1, cells := 0, slots := 0, locals := 23 }, [])
theorem d_MO_height_0 : decode m_MO_height.2.1 0 = .ok (.iconst 0, 1) := by decide +kernel
theorem d_MO_height_1 : decode m_MO_height.2.1 1 = .ok (.istore_n 2, 1) := by decide +kernel
theorem d_MO_height_2 : decode m_MO_height.2.1 2 = .ok (.iconst 0, 1) := by decide +kernel
theorem d_MO_height_3 : decode m_MO_height.2.1 3 = .ok (.istore_n 3, 1) := by decide +kernel
theorem d_MO_height_4 : decode m_MO_height.2.1 4 = .ok (.iload_n 3, 1) := by decide +kernel
theorem d_MO_height_5 : decode m_MO_height.2.1 5 = .ok (.sipush 150, 3) := by decide +kernel
theorem d_MO_height_8 : decode m_MO_height.2.1 8 = .ok (.if_icmp .ge 57, 3) := by decide +kernel
theorem d_MO_height_11 : decode m_MO_height.2.1 11 = .ok (.aload_n 0, 1) := by decide +kernel
theorem d_MO_height_12 : decode m_MO_height.2.1 12 = .ok (.getfield 26, 3) := by decide +kernel
theorem d_MO_height_15 : decode m_MO_height.2.1 15 = .ok (.iload_n 3, 1) := by decide +kernel
theorem d_MO_height_16 : decode m_MO_height.2.1 16 = .ok (.baload, 1) := by decide +kernel
theorem d_MO_height_17 : decode m_MO_height.2.1 17 = .ok (.ifCond .eq 26, 3) := by decide +kernel
theorem d_MO_height_20 : decode m_MO_height.2.1 20 = .ok (.aload_n 0, 1) := by decide +kernel
theorem d_MO_height_21 : decode m_MO_height.2.1 21 = .ok (.iload_n 3, 1) := by decide +kernel
theorem d_MO_height_22 : decode m_MO_height.2.1 22 = .ok (.iload_n 1, 1) := by decide +kernel
theorem d_MO_height_23 : decode m_MO_height.2.1 23 = .ok (.invokevirtual 98, 3) := by decide +kernel
theorem d_MO_height_26 : decode m_MO_height.2.1 26 = .ok (.ifCond .eq 17, 3) := by decide +kernel
theorem d_MO_height_29 : decode m_MO_height.2.1 29 = .ok (.aload_n 0, 1) := by decide +kernel
theorem d_MO_height_30 : decode m_MO_height.2.1 30 = .ok (.iload_n 3, 1) := by decide +kernel
theorem d_MO_height_31 : decode m_MO_height.2.1 31 = .ok (.invokevirtual 94, 3) := by decide +kernel
theorem d_MO_height_34 : decode m_MO_height.2.1 34 = .ok (.aload_n 0, 1) := by decide +kernel
theorem d_MO_height_35 : decode m_MO_height.2.1 35 = .ok (.iload_n 1, 1) := by decide +kernel
theorem d_MO_height_36 : decode m_MO_height.2.1 36 = .ok (.invokevirtual 94, 3) := by decide +kernel
theorem d_MO_height_39 : decode m_MO_height.2.1 39 = .ok (.isub, 1) := by decide +kernel
theorem d_MO_height_40 : decode m_MO_height.2.1 40 = .ok (.goto 4, 3) := by decide +kernel
theorem d_MO_height_43 : decode m_MO_height.2.1 43 = .ok (.iconst 0, 1) := by decide +kernel
theorem d_MO_height_44 : decode m_MO_height.2.1 44 = .ok (.istore 4, 2) := by decide +kernel
theorem d_MO_height_46 : decode m_MO_height.2.1 46 = .ok (.iload 4, 2) := by decide +kernel
theorem d_MO_height_48 : decode m_MO_height.2.1 48 = .ok (.iload_n 2, 1) := by decide +kernel
theorem d_MO_height_49 : decode m_MO_height.2.1 49 = .ok (.if_icmp .le 8, 3) := by decide +kernel
theorem d_MO_height_52 : decode m_MO_height.2.1 52 = .ok (.iload 4, 2) := by decide +kernel
theorem d_MO_height_54 : decode m_MO_height.2.1 54 = .ok (.goto 4, 3) := by decide +kernel
theorem d_MO_height_57 : decode m_MO_height.2.1 57 = .ok (.iload_n 2, 1) := by decide +kernel
theorem d_MO_height_58 : decode m_MO_height.2.1 58 = .ok (.istore_n 2, 1) := by decide +kernel
theorem d_MO_height_59 : decode m_MO_height.2.1 59 = .ok (.iinc 3 1, 3) := by decide +kernel
theorem d_MO_height_62 : decode m_MO_height.2.1 62 = .ok (.goto (-58), 3) := by decide +kernel
theorem d_MO_height_65 : decode m_MO_height.2.1 65 = .ok (.iload_n 2, 1) := by decide +kernel
theorem d_MO_height_66 : decode m_MO_height.2.1 66 = .ok (.ireturn, 1) := by decide +kernel
theorem k_MO_height : fw_cal m_MO_height := ⟨by decide +kernel, by decide +kernel, (fw_t 7 (by decide +kernel)), Or.inl ⟨rfl, fw_t 771 (by decide +kernel)⟩⟩
abbrev m_MO_spread : fw_M := (⟨"FolderRightsModel", "spread", "(IZ)V"⟩, prog_6_method_19_code, 4, none, { frames := 1, cells := 0, slots := 0, locals := 23 }, [])
theorem d_MO_spread_0 : decode m_MO_spread.2.1 0 = .ok (.iconst 0, 1) := by decide +kernel
theorem d_MO_spread_1 : decode m_MO_spread.2.1 1 = .ok (.istore_n 3, 1) := by decide +kernel
theorem d_MO_spread_2 : decode m_MO_spread.2.1 2 = .ok (.iload_n 3, 1) := by decide +kernel
theorem d_MO_spread_3 : decode m_MO_spread.2.1 3 = .ok (.sipush 150, 3) := by decide +kernel
theorem d_MO_spread_6 : decode m_MO_spread.2.1 6 = .ok (.if_icmp .ge 56, 3) := by decide +kernel
theorem d_MO_spread_9 : decode m_MO_spread.2.1 9 = .ok (.aload_n 0, 1) := by decide +kernel
theorem d_MO_spread_10 : decode m_MO_spread.2.1 10 = .ok (.getfield 35, 3) := by decide +kernel
theorem d_MO_spread_13 : decode m_MO_spread.2.1 13 = .ok (.iload_n 3, 1) := by decide +kernel
theorem d_MO_spread_14 : decode m_MO_spread.2.1 14 = .ok (.aload_n 0, 1) := by decide +kernel
theorem d_MO_spread_15 : decode m_MO_spread.2.1 15 = .ok (.getfield 35, 3) := by decide +kernel
theorem d_MO_spread_18 : decode m_MO_spread.2.1 18 = .ok (.iload_n 3, 1) := by decide +kernel
theorem d_MO_spread_19 : decode m_MO_spread.2.1 19 = .ok (.baload, 1) := by decide +kernel
theorem d_MO_spread_20 : decode m_MO_spread.2.1 20 = .ok (.ifCond .ne 30, 3) := by decide +kernel
theorem d_MO_spread_23 : decode m_MO_spread.2.1 23 = .ok (.aload_n 0, 1) := by decide +kernel
theorem d_MO_spread_24 : decode m_MO_spread.2.1 24 = .ok (.getfield 26, 3) := by decide +kernel
theorem d_MO_spread_27 : decode m_MO_spread.2.1 27 = .ok (.iload_n 3, 1) := by decide +kernel
theorem d_MO_spread_28 : decode m_MO_spread.2.1 28 = .ok (.baload, 1) := by decide +kernel
theorem d_MO_spread_29 : decode m_MO_spread.2.1 29 = .ok (.ifCond .eq 25, 3) := by decide +kernel
theorem d_MO_spread_32 : decode m_MO_spread.2.1 32 = .ok (.aload_n 0, 1) := by decide +kernel
theorem d_MO_spread_33 : decode m_MO_spread.2.1 33 = .ok (.iload_n 3, 1) := by decide +kernel
theorem d_MO_spread_34 : decode m_MO_spread.2.1 34 = .ok (.iload_n 1, 1) := by decide +kernel
theorem d_MO_spread_35 : decode m_MO_spread.2.1 35 = .ok (.invokevirtual 98, 3) := by decide +kernel
theorem d_MO_spread_38 : decode m_MO_spread.2.1 38 = .ok (.ifCond .eq 16, 3) := by decide +kernel
theorem d_MO_spread_41 : decode m_MO_spread.2.1 41 = .ok (.iload_n 2, 1) := by decide +kernel
theorem d_MO_spread_42 : decode m_MO_spread.2.1 42 = .ok (.ifCond .ne 8, 3) := by decide +kernel
theorem d_MO_spread_45 : decode m_MO_spread.2.1 45 = .ok (.iload_n 3, 1) := by decide +kernel
theorem d_MO_spread_46 : decode m_MO_spread.2.1 46 = .ok (.iload_n 1, 1) := by decide +kernel
theorem d_MO_spread_47 : decode m_MO_spread.2.1 47 = .ok (.if_icmp .eq 7, 3) := by decide +kernel
theorem d_MO_spread_50 : decode m_MO_spread.2.1 50 = .ok (.iconst 1, 1) := by decide +kernel
theorem d_MO_spread_51 : decode m_MO_spread.2.1 51 = .ok (.goto 4, 3) := by decide +kernel
theorem d_MO_spread_54 : decode m_MO_spread.2.1 54 = .ok (.iconst 0, 1) := by decide +kernel
theorem d_MO_spread_55 : decode m_MO_spread.2.1 55 = .ok (.bastore, 1) := by decide +kernel
theorem d_MO_spread_56 : decode m_MO_spread.2.1 56 = .ok (.iinc 3 1, 3) := by decide +kernel
theorem d_MO_spread_59 : decode m_MO_spread.2.1 59 = .ok (.goto (-57), 3) := by decide +kernel
theorem d_MO_spread_62 : decode m_MO_spread.2.1 62 = .ok (.return_, 1) := by decide +kernel
theorem k_MO_spread : fw_cal m_MO_spread := ⟨by decide +kernel, by decide +kernel, (fw_t 7 (by decide +kernel)), Or.inl ⟨rfl, fw_t 775 (by decide +kernel)⟩⟩
abbrev m_MO_remove : fw_M := (⟨"FolderRightsModel", "remove", "(I)I"⟩, prog_6_method_23_code, 2, (some .int), { frames := 1, cells := 0, slots := 0, locals := 23 }, [])
theorem d_MO_remove_0 : decode m_MO_remove.2.1 0 = .ok (.aload_n 0, 1) := by decide +kernel
theorem d_MO_remove_1 : decode m_MO_remove.2.1 1 = .ok (.aload_n 0, 1) := by decide +kernel
theorem d_MO_remove_2 : decode m_MO_remove.2.1 2 = .ok (.iload_n 1, 1) := by decide +kernel
theorem d_MO_remove_3 : decode m_MO_remove.2.1 3 = .ok (.invokevirtual 91, 3) := by decide +kernel
theorem d_MO_remove_6 : decode m_MO_remove.2.1 6 = .ok (.iload_n 1, 1) := by decide +kernel
theorem d_MO_remove_7 : decode m_MO_remove.2.1 7 = .ok (.ifCond .le 7, 3) := by decide +kernel
theorem d_MO_remove_10 : decode m_MO_remove.2.1 10 = .ok (.iconst 1, 1) := by decide +kernel
theorem d_MO_remove_11 : decode m_MO_remove.2.1 11 = .ok (.goto 4, 3) := by decide +kernel
theorem d_MO_remove_14 : decode m_MO_remove.2.1 14 = .ok (.iconst 0, 1) := by decide +kernel
theorem d_MO_remove_15 : decode m_MO_remove.2.1 15 = .ok (.aload_n 0, 1) := by decide +kernel
theorem d_MO_remove_16 : decode m_MO_remove.2.1 16 = .ok (.iload_n 1, 1) := by decide +kernel
theorem d_MO_remove_17 : decode m_MO_remove.2.1 17 = .ok (.invokevirtual 91, 3) := by decide +kernel
theorem d_MO_remove_20 : decode m_MO_remove.2.1 20 = .ok (.ifCond .eq 15, 3) := by decide +kernel
theorem d_MO_remove_23 : decode m_MO_remove.2.1 23 = .ok (.aload_n 0, 1) := by decide +kernel
theorem d_MO_remove_24 : decode m_MO_remove.2.1 24 = .ok (.iload_n 1, 1) := by decide +kernel
theorem d_MO_remove_25 : decode m_MO_remove.2.1 25 = .ok (.invokevirtual 109, 3) := by decide +kernel
theorem d_MO_remove_28 : decode m_MO_remove.2.1 28 = .ok (.ifCond .ne 7, 3) := by decide +kernel
theorem d_MO_remove_31 : decode m_MO_remove.2.1 31 = .ok (.iconst 1, 1) := by decide +kernel
theorem d_MO_remove_32 : decode m_MO_remove.2.1 32 = .ok (.goto 4, 3) := by decide +kernel
theorem d_MO_remove_35 : decode m_MO_remove.2.1 35 = .ok (.iconst 0, 1) := by decide +kernel
theorem d_MO_remove_36 : decode m_MO_remove.2.1 36 = .ok (.invokevirtual 69, 3) := by decide +kernel
theorem d_MO_remove_39 : decode m_MO_remove.2.1 39 = .ok (.ifCond .ne 5, 3) := by decide +kernel
theorem d_MO_remove_42 : decode m_MO_remove.2.1 42 = .ok (.iconst 0, 1) := by decide +kernel
theorem d_MO_remove_43 : decode m_MO_remove.2.1 43 = .ok (.ireturn, 1) := by decide +kernel
theorem d_MO_remove_44 : decode m_MO_remove.2.1 44 = .ok (.aload_n 0, 1) := by decide +kernel
theorem d_MO_remove_45 : decode m_MO_remove.2.1 45 = .ok (.getfield 26, 3) := by decide +kernel
theorem d_MO_remove_48 : decode m_MO_remove.2.1 48 = .ok (.iload_n 1, 1) := by decide +kernel
theorem d_MO_remove_49 : decode m_MO_remove.2.1 49 = .ok (.iconst 0, 1) := by decide +kernel
theorem d_MO_remove_50 : decode m_MO_remove.2.1 50 = .ok (.bastore, 1) := by decide +kernel
theorem d_MO_remove_51 : decode m_MO_remove.2.1 51 = .ok (.aload_n 0, 1) := by decide +kernel
theorem d_MO_remove_52 : decode m_MO_remove.2.1 52 = .ok (.getfield 35, 3) := by decide +kernel
theorem d_MO_remove_55 : decode m_MO_remove.2.1 55 = .ok (.iload_n 1, 1) := by decide +kernel
theorem d_MO_remove_56 : decode m_MO_remove.2.1 56 = .ok (.iconst 0, 1) := by decide +kernel
theorem d_MO_remove_57 : decode m_MO_remove.2.1 57 = .ok (.bastore, 1) := by decide +kernel
theorem d_MO_remove_58 : decode m_MO_remove.2.1 58 = .ok (.aload_n 0, 1) := by decide +kernel
theorem d_MO_remove_59 : decode m_MO_remove.2.1 59 = .ok (.getfield 45, 3) := by decide +kernel
theorem d_MO_remove_62 : decode m_MO_remove.2.1 62 = .ok (.iload_n 1, 1) := by decide +kernel
theorem d_MO_remove_63 : decode m_MO_remove.2.1 63 = .ok (.iaload, 1) := by decide +kernel
theorem d_MO_remove_64 : decode m_MO_remove.2.1 64 = .ok (.ireturn, 1) := by decide +kernel
theorem k_MO_remove : fw_cal m_MO_remove := ⟨by decide +kernel, by decide +kernel, (fw_t 7 (by decide +kernel)), Or.inl ⟨rfl, fw_t 779 (by decide +kernel)⟩⟩
abbrev m_MO_children : fw_M := (⟨"FolderRightsModel", "children", "(I)I"⟩, prog_6_method_22_code, 4, (some .int), { frames := 0, cells := 0, slots := 0, locals := 0 }, [])
theorem d_MO_children_0 : decode m_MO_children.2.1 0 = .ok (.iconst 0, 1) := by decide +kernel
theorem d_MO_children_1 : decode m_MO_children.2.1 1 = .ok (.istore_n 2, 1) := by decide +kernel
theorem d_MO_children_2 : decode m_MO_children.2.1 2 = .ok (.iconst 1, 1) := by decide +kernel
theorem d_MO_children_3 : decode m_MO_children.2.1 3 = .ok (.istore_n 3, 1) := by decide +kernel
theorem d_MO_children_4 : decode m_MO_children.2.1 4 = .ok (.iload_n 3, 1) := by decide +kernel
theorem d_MO_children_5 : decode m_MO_children.2.1 5 = .ok (.sipush 150, 3) := by decide +kernel
theorem d_MO_children_8 : decode m_MO_children.2.1 8 = .ok (.if_icmp .ge 36, 3) := by decide +kernel
theorem d_MO_children_11 : decode m_MO_children.2.1 11 = .ok (.aload_n 0, 1) := by decide +kernel
theorem d_MO_children_12 : decode m_MO_children.2.1 12 = .ok (.getfield 26, 3) := by decide +kernel
theorem d_MO_children_15 : decode m_MO_children.2.1 15 = .ok (.iload_n 3, 1) := by decide +kernel
theorem d_MO_children_16 : decode m_MO_children.2.1 16 = .ok (.baload, 1) := by decide +kernel
theorem d_MO_children_17 : decode m_MO_children.2.1 17 = .ok (.ifCond .eq 19, 3) := by decide +kernel
theorem d_MO_children_20 : decode m_MO_children.2.1 20 = .ok (.aload_n 0, 1) := by decide +kernel
theorem d_MO_children_21 : decode m_MO_children.2.1 21 = .ok (.getfield 38, 3) := by decide +kernel
theorem d_MO_children_24 : decode m_MO_children.2.1 24 = .ok (.iload_n 3, 1) := by decide +kernel
theorem d_MO_children_25 : decode m_MO_children.2.1 25 = .ok (.iaload, 1) := by decide +kernel
theorem d_MO_children_26 : decode m_MO_children.2.1 26 = .ok (.iload_n 1, 1) := by decide +kernel
theorem d_MO_children_27 : decode m_MO_children.2.1 27 = .ok (.if_icmp .ne 9, 3) := by decide +kernel
theorem d_MO_children_30 : decode m_MO_children.2.1 30 = .ok (.iload_n 2, 1) := by decide +kernel
theorem d_MO_children_31 : decode m_MO_children.2.1 31 = .ok (.iconst 1, 1) := by decide +kernel
theorem d_MO_children_32 : decode m_MO_children.2.1 32 = .ok (.iadd, 1) := by decide +kernel
theorem d_MO_children_33 : decode m_MO_children.2.1 33 = .ok (.goto 4, 3) := by decide +kernel
theorem d_MO_children_36 : decode m_MO_children.2.1 36 = .ok (.iload_n 2, 1) := by decide +kernel
theorem d_MO_children_37 : decode m_MO_children.2.1 37 = .ok (.istore_n 2, 1) := by decide +kernel
theorem d_MO_children_38 : decode m_MO_children.2.1 38 = .ok (.iinc 3 1, 3) := by decide +kernel
theorem d_MO_children_41 : decode m_MO_children.2.1 41 = .ok (.goto (-37), 3) := by decide +kernel
theorem d_MO_children_44 : decode m_MO_children.2.1 44 = .ok (.iload_n 2, 1) := by decide +kernel
theorem d_MO_children_45 : decode m_MO_children.2.1 45 = .ok (.ireturn, 1) := by decide +kernel
theorem k_MO_children : fw_cal m_MO_children := ⟨by decide +kernel, by decide +kernel, (fw_t 7 (by decide +kernel)), Or.inl ⟨rfl, fw_t 783 (by decide +kernel)⟩⟩
abbrev m_MO_entry : fw_M := (⟨"FolderRightsModel", "entry", "(IIZIZII)I"⟩, prog_6_method_25_code, 11, (some .int), { frames := 2, cells := 0, slots := 0, locals := 46 }, [])
theorem d_MO_entry_0 : decode m_MO_entry.2.1 0 = .ok (.aload_n 0, 1) := by decide +kernel
theorem d_MO_entry_1 : decode m_MO_entry.2.1 1 = .ok (.iload_n 1, 1) := by decide +kernel
theorem d_MO_entry_2 : decode m_MO_entry.2.1 2 = .ok (.invokevirtual 91, 3) := by decide +kernel
theorem d_MO_entry_5 : decode m_MO_entry.2.1 5 = .ok (.ifCond .eq 18, 3) := by decide +kernel
theorem d_MO_entry_8 : decode m_MO_entry.2.1 8 = .ok (.aload_n 0, 1) := by decide +kernel
theorem d_MO_entry_9 : decode m_MO_entry.2.1 9 = .ok (.iload 4, 2) := by decide +kernel
theorem d_MO_entry_11 : decode m_MO_entry.2.1 11 = .ok (.iload 5, 2) := by decide +kernel
theorem d_MO_entry_13 : decode m_MO_entry.2.1 13 = .ok (.invokevirtual 80, 3) := by decide +kernel
theorem d_MO_entry_16 : decode m_MO_entry.2.1 16 = .ok (.ifCond .eq 7, 3) := by decide +kernel
theorem d_MO_entry_19 : decode m_MO_entry.2.1 19 = .ok (.iconst 1, 1) := by decide +kernel
theorem d_MO_entry_20 : decode m_MO_entry.2.1 20 = .ok (.goto 4, 3) := by decide +kernel
theorem d_MO_entry_23 : decode m_MO_entry.2.1 23 = .ok (.iconst 0, 1) := by decide +kernel
theorem d_MO_entry_24 : decode m_MO_entry.2.1 24 = .ok (.istore 8, 2) := by decide +kernel
theorem d_MO_entry_26 : decode m_MO_entry.2.1 26 = .ok (.iload 8, 2) := by decide +kernel
theorem d_MO_entry_28 : decode m_MO_entry.2.1 28 = .ok (.ifCond .eq 51, 3) := by decide +kernel
theorem d_MO_entry_31 : decode m_MO_entry.2.1 31 = .ok (.iload_n 2, 1) := by decide +kernel
theorem d_MO_entry_32 : decode m_MO_entry.2.1 32 = .ok (.ifCond .lt 47, 3) := by decide +kernel
theorem d_MO_entry_35 : decode m_MO_entry.2.1 35 = .ok (.iload_n 2, 1) := by decide +kernel
theorem d_MO_entry_36 : decode m_MO_entry.2.1 36 = .ok (.aload_n 0, 1) := by decide +kernel
theorem d_MO_entry_37 : decode m_MO_entry.2.1 37 = .ok (.getfield 45, 3) := by decide +kernel
theorem d_MO_entry_40 : decode m_MO_entry.2.1 40 = .ok (.iload_n 1, 1) := by decide +kernel
theorem d_MO_entry_41 : decode m_MO_entry.2.1 41 = .ok (.iaload, 1) := by decide +kernel
theorem d_MO_entry_42 : decode m_MO_entry.2.1 42 = .ok (.if_icmp .gt 37, 3) := by decide +kernel
theorem d_MO_entry_45 : decode m_MO_entry.2.1 45 = .ok (.iload 6, 2) := by decide +kernel
theorem d_MO_entry_47 : decode m_MO_entry.2.1 47 = .ok (.iconst 1, 1) := by decide +kernel
theorem d_MO_entry_48 : decode m_MO_entry.2.1 48 = .ok (.sipush 255, 3) := by decide +kernel
theorem d_MO_entry_51 : decode m_MO_entry.2.1 51 = .ok (.invokestatic 112, 3) := by decide +kernel
theorem d_MO_entry_54 : decode m_MO_entry.2.1 54 = .ok (.ifCond .eq 25, 3) := by decide +kernel
theorem d_MO_entry_57 : decode m_MO_entry.2.1 57 = .ok (.iload 7, 2) := by decide +kernel
theorem d_MO_entry_59 : decode m_MO_entry.2.1 59 = .ok (.iconst 1, 1) := by decide +kernel
theorem d_MO_entry_60 : decode m_MO_entry.2.1 60 = .ok (.bipush 15, 2) := by decide +kernel
theorem d_MO_entry_62 : decode m_MO_entry.2.1 62 = .ok (.invokestatic 112, 3) := by decide +kernel
theorem d_MO_entry_65 : decode m_MO_entry.2.1 65 = .ok (.ifCond .eq 14, 3) := by decide +kernel
theorem d_MO_entry_68 : decode m_MO_entry.2.1 68 = .ok (.iload 7, 2) := by decide +kernel
theorem d_MO_entry_70 : decode m_MO_entry.2.1 70 = .ok (.bipush 8, 2) := by decide +kernel
theorem d_MO_entry_72 : decode m_MO_entry.2.1 72 = .ok (.if_icmp .eq 7, 3) := by decide +kernel
theorem d_MO_entry_75 : decode m_MO_entry.2.1 75 = .ok (.iconst 1, 1) := by decide +kernel
theorem d_MO_entry_76 : decode m_MO_entry.2.1 76 = .ok (.goto 4, 3) := by decide +kernel
theorem d_MO_entry_79 : decode m_MO_entry.2.1 79 = .ok (.iconst 0, 1) := by decide +kernel
theorem d_MO_entry_80 : decode m_MO_entry.2.1 80 = .ok (.istore 9, 2) := by decide +kernel
theorem d_MO_entry_82 : decode m_MO_entry.2.1 82 = .ok (.aload_n 0, 1) := by decide +kernel
theorem d_MO_entry_83 : decode m_MO_entry.2.1 83 = .ok (.iload 8, 2) := by decide +kernel
theorem d_MO_entry_85 : decode m_MO_entry.2.1 85 = .ok (.iload 9, 2) := by decide +kernel
theorem d_MO_entry_87 : decode m_MO_entry.2.1 87 = .ok (.iload 8, 2) := by decide +kernel
theorem d_MO_entry_89 : decode m_MO_entry.2.1 89 = .ok (.ifCond .eq 18, 3) := by decide +kernel
theorem d_MO_entry_92 : decode m_MO_entry.2.1 92 = .ok (.aload_n 0, 1) := by decide +kernel
theorem d_MO_entry_93 : decode m_MO_entry.2.1 93 = .ok (.getfield 45, 3) := by decide +kernel
theorem d_MO_entry_96 : decode m_MO_entry.2.1 96 = .ok (.iload_n 1, 1) := by decide +kernel
theorem d_MO_entry_97 : decode m_MO_entry.2.1 97 = .ok (.iaload, 1) := by decide +kernel
theorem d_MO_entry_98 : decode m_MO_entry.2.1 98 = .ok (.bipush 12, 2) := by decide +kernel
theorem d_MO_entry_100 : decode m_MO_entry.2.1 100 = .ok (.if_icmp .ge 7, 3) := by decide +kernel
theorem d_MO_entry_103 : decode m_MO_entry.2.1 103 = .ok (.iconst 1, 1) := by decide +kernel
theorem d_MO_entry_104 : decode m_MO_entry.2.1 104 = .ok (.goto 4, 3) := by decide +kernel
theorem d_MO_entry_107 : decode m_MO_entry.2.1 107 = .ok (.iconst 0, 1) := by decide +kernel
theorem d_MO_entry_108 : decode m_MO_entry.2.1 108 = .ok (.invokevirtual 69, 3) := by decide +kernel
theorem d_MO_entry_111 : decode m_MO_entry.2.1 111 = .ok (.ifCond .ne 5, 3) := by decide +kernel
theorem d_MO_entry_114 : decode m_MO_entry.2.1 114 = .ok (.iconst 0, 1) := by decide +kernel
theorem d_MO_entry_115 : decode m_MO_entry.2.1 115 = .ok (.ireturn, 1) := by decide +kernel
theorem d_MO_entry_116 : decode m_MO_entry.2.1 116 = .ok (.aload_n 0, 1) := by decide +kernel
theorem d_MO_entry_117 : decode m_MO_entry.2.1 117 = .ok (.getfield 45, 3) := by decide +kernel
theorem d_MO_entry_120 : decode m_MO_entry.2.1 120 = .ok (.iload_n 1, 1) := by decide +kernel
theorem d_MO_entry_121 : decode m_MO_entry.2.1 121 = .ok (.iaload, 1) := by decide +kernel
theorem d_MO_entry_122 : decode m_MO_entry.2.1 122 = .ok (.istore 10, 2) := by decide +kernel
theorem d_MO_entry_124 : decode m_MO_entry.2.1 124 = .ok (.iload 10, 2) := by decide +kernel
theorem d_MO_entry_126 : decode m_MO_entry.2.1 126 = .ok (.iload_n 2, 1) := by decide +kernel
theorem d_MO_entry_127 : decode m_MO_entry.2.1 127 = .ok (.if_icmp .le 29, 3) := by decide +kernel
theorem d_MO_entry_130 : decode m_MO_entry.2.1 130 = .ok (.aload_n 0, 1) := by decide +kernel
theorem d_MO_entry_131 : decode m_MO_entry.2.1 131 = .ok (.bipush 12, 2) := by decide +kernel
theorem d_MO_entry_133 : decode m_MO_entry.2.1 133 = .ok (.iload_n 1, 1) := by decide +kernel
theorem d_MO_entry_134 : decode m_MO_entry.2.1 134 = .ok (.imul, 1) := by decide +kernel
theorem d_MO_entry_135 : decode m_MO_entry.2.1 135 = .ok (.iload 10, 2) := by decide +kernel
theorem d_MO_entry_137 : decode m_MO_entry.2.1 137 = .ok (.iadd, 1) := by decide +kernel
theorem d_MO_entry_138 : decode m_MO_entry.2.1 138 = .ok (.iconst 1, 1) := by decide +kernel
theorem d_MO_entry_139 : decode m_MO_entry.2.1 139 = .ok (.isub, 1) := by decide +kernel
theorem d_MO_entry_140 : decode m_MO_entry.2.1 140 = .ok (.bipush 12, 2) := by decide +kernel
theorem d_MO_entry_142 : decode m_MO_entry.2.1 142 = .ok (.iload_n 1, 1) := by decide +kernel
theorem d_MO_entry_143 : decode m_MO_entry.2.1 143 = .ok (.imul, 1) := by decide +kernel
theorem d_MO_entry_144 : decode m_MO_entry.2.1 144 = .ok (.iload 10, 2) := by decide +kernel
theorem d_MO_entry_146 : decode m_MO_entry.2.1 146 = .ok (.iadd, 1) := by decide +kernel
theorem d_MO_entry_147 : decode m_MO_entry.2.1 147 = .ok (.invokevirtual 116, 3) := by decide +kernel
theorem d_MO_entry_150 : decode m_MO_entry.2.1 150 = .ok (.iinc 10 (-1), 3) := by decide +kernel
theorem d_MO_entry_153 : decode m_MO_entry.2.1 153 = .ok (.goto (-29), 3) := by decide +kernel
theorem d_MO_entry_156 : decode m_MO_entry.2.1 156 = .ok (.bipush 12, 2) := by decide +kernel
theorem d_MO_entry_158 : decode m_MO_entry.2.1 158 = .ok (.iload_n 1, 1) := by decide +kernel
theorem d_MO_entry_159 : decode m_MO_entry.2.1 159 = .ok (.imul, 1) := by decide +kernel
theorem d_MO_entry_160 : decode m_MO_entry.2.1 160 = .ok (.iload_n 2, 1) := by decide +kernel
theorem d_MO_entry_161 : decode m_MO_entry.2.1 161 = .ok (.iadd, 1) := by decide +kernel
theorem d_MO_entry_162 : decode m_MO_entry.2.1 162 = .ok (.istore 10, 2) := by decide +kernel
theorem d_MO_entry_164 : decode m_MO_entry.2.1 164 = .ok (.aload_n 0, 1) := by decide +kernel
theorem d_MO_entry_165 : decode m_MO_entry.2.1 165 = .ok (.getfield 48, 3) := by decide +kernel
theorem d_MO_entry_168 : decode m_MO_entry.2.1 168 = .ok (.iload 10, 2) := by decide +kernel
theorem d_MO_entry_170 : decode m_MO_entry.2.1 170 = .ok (.iload_n 3, 1) := by decide +kernel
theorem d_MO_entry_171 : decode m_MO_entry.2.1 171 = .ok (.bastore, 1) := by decide +kernel
theorem d_MO_entry_172 : decode m_MO_entry.2.1 172 = .ok (.aload_n 0, 1) := by decide +kernel
theorem d_MO_entry_173 : decode m_MO_entry.2.1 173 = .ok (.getfield 51, 3) := by decide +kernel
theorem d_MO_entry_176 : decode m_MO_entry.2.1 176 = .ok (.iload 10, 2) := by decide +kernel
theorem d_MO_entry_178 : decode m_MO_entry.2.1 178 = .ok (.iload 5, 2) := by decide +kernel
theorem d_MO_entry_180 : decode m_MO_entry.2.1 180 = .ok (.bastore, 1) := by decide +kernel
theorem d_MO_entry_181 : decode m_MO_entry.2.1 181 = .ok (.aload_n 0, 1) := by decide +kernel
theorem d_MO_entry_182 : decode m_MO_entry.2.1 182 = .ok (.getfield 54, 3) := by decide +kernel
theorem d_MO_entry_185 : decode m_MO_entry.2.1 185 = .ok (.iload 10, 2) := by decide +kernel
theorem d_MO_entry_187 : decode m_MO_entry.2.1 187 = .ok (.iload 4, 2) := by decide +kernel
theorem d_MO_entry_189 : decode m_MO_entry.2.1 189 = .ok (.iastore, 1) := by decide +kernel
theorem d_MO_entry_190 : decode m_MO_entry.2.1 190 = .ok (.aload_n 0, 1) := by decide +kernel
theorem d_MO_entry_191 : decode m_MO_entry.2.1 191 = .ok (.getfield 57, 3) := by decide +kernel
theorem d_MO_entry_194 : decode m_MO_entry.2.1 194 = .ok (.iload 10, 2) := by decide +kernel
theorem d_MO_entry_196 : decode m_MO_entry.2.1 196 = .ok (.iload 6, 2) := by decide +kernel
theorem d_MO_entry_198 : decode m_MO_entry.2.1 198 = .ok (.iastore, 1) := by decide +kernel
theorem d_MO_entry_199 : decode m_MO_entry.2.1 199 = .ok (.aload_n 0, 1) := by decide +kernel
theorem d_MO_entry_200 : decode m_MO_entry.2.1 200 = .ok (.getfield 60, 3) := by decide +kernel
theorem d_MO_entry_203 : decode m_MO_entry.2.1 203 = .ok (.iload 10, 2) := by decide +kernel
theorem d_MO_entry_205 : decode m_MO_entry.2.1 205 = .ok (.iload 7, 2) := by decide +kernel
theorem d_MO_entry_207 : decode m_MO_entry.2.1 207 = .ok (.iastore, 1) := by decide +kernel
theorem d_MO_entry_208 : decode m_MO_entry.2.1 208 = .ok (.aload_n 0, 1) := by decide +kernel
theorem d_MO_entry_209 : decode m_MO_entry.2.1 209 = .ok (.getfield 45, 3) := by decide +kernel
theorem d_MO_entry_212 : decode m_MO_entry.2.1 212 = .ok (.iload_n 1, 1) := by decide +kernel
theorem d_MO_entry_213 : decode m_MO_entry.2.1 213 = .ok (.dup2, 1) := by decide +kernel
theorem d_MO_entry_214 : decode m_MO_entry.2.1 214 = .ok (.iaload, 1) := by decide +kernel
theorem d_MO_entry_215 : decode m_MO_entry.2.1 215 = .ok (.iconst 1, 1) := by decide +kernel
theorem d_MO_entry_216 : decode m_MO_entry.2.1 216 = .ok (.iadd, 1) := by decide +kernel
theorem d_MO_entry_217 : decode m_MO_entry.2.1 217 = .ok (.iastore, 1) := by decide +kernel
theorem d_MO_entry_218 : decode m_MO_entry.2.1 218 = .ok (.aload_n 0, 1) := by decide +kernel
theorem d_MO_entry_219 : decode m_MO_entry.2.1 219 = .ok (.iload_n 1, 1) := by decide +kernel
theorem d_MO_entry_220 : decode m_MO_entry.2.1 220 = .ok (.iconst 0, 1) := by decide +kernel
theorem d_MO_entry_221 : decode m_MO_entry.2.1 221 = .ok (.invokevirtual 105, 3) := by decide +kernel
theorem d_MO_entry_224 : decode m_MO_entry.2.1 224 = .ok (.aload_n 0, 1) := by decide +kernel
theorem d_MO_entry_225 : decode m_MO_entry.2.1 225 = .ok (.getfield 45, 3) := by decide +kernel
theorem d_MO_entry_228 : decode m_MO_entry.2.1 228 = .ok (.iload_n 1, 1) := by decide +kernel
theorem d_MO_entry_229 : decode m_MO_entry.2.1 229 = .ok (.iaload, 1) := by decide +kernel
theorem d_MO_entry_230 : decode m_MO_entry.2.1 230 = .ok (.ireturn, 1) := by decide +kernel
theorem k_MO_entry : fw_cal m_MO_entry := ⟨by decide +kernel, by decide +kernel, (fw_t 7 (by decide +kernel)), Or.inl ⟨rfl, fw_t 787 (by decide +kernel)⟩⟩
abbrev m_MO_within : fw_M := (⟨"FolderRightsModel", "within", "(III)Z"⟩, prog_6_method_4_code, 3, (some .boolean), { frames := 0, cells := 0, slots := 0, locals := 0 }, [])
theorem d_MO_within_0 : decode m_MO_within.2.1 0 = .ok (.iload_n 0, 1) := by decide +kernel
theorem d_MO_within_1 : decode m_MO_within.2.1 1 = .ok (.iload_n 1, 1) := by decide +kernel
theorem d_MO_within_2 : decode m_MO_within.2.1 2 = .ok (.if_icmp .lt 12, 3) := by decide +kernel
theorem d_MO_within_5 : decode m_MO_within.2.1 5 = .ok (.iload_n 0, 1) := by decide +kernel
theorem d_MO_within_6 : decode m_MO_within.2.1 6 = .ok (.iload_n 2, 1) := by decide +kernel
theorem d_MO_within_7 : decode m_MO_within.2.1 7 = .ok (.if_icmp .gt 7, 3) := by decide +kernel
theorem d_MO_within_10 : decode m_MO_within.2.1 10 = .ok (.iconst 1, 1) := by decide +kernel
theorem d_MO_within_11 : decode m_MO_within.2.1 11 = .ok (.goto 4, 3) := by decide +kernel
theorem d_MO_within_14 : decode m_MO_within.2.1 14 = .ok (.iconst 0, 1) := by decide +kernel
theorem d_MO_within_15 : decode m_MO_within.2.1 15 = .ok (.ireturn, 1) := by decide +kernel
theorem k_MO_within : fw_cal m_MO_within := ⟨by decide +kernel, by decide +kernel, (fw_t 7 (by decide +kernel)), Or.inl ⟨rfl, fw_t 790 (by decide +kernel)⟩⟩
abbrev m_MO_copyEntry : fw_M := (⟨"FolderRightsModel", "copyEntry", "(II)V"⟩, prog_6_method_24_code, 3, none, { frames := 0, cells := 0, slots := 0, locals := 0 }, [])
theorem d_MO_copyEntry_0 : decode m_MO_copyEntry.2.1 0 = .ok (.aload_n 0, 1) := by decide +kernel
theorem d_MO_copyEntry_1 : decode m_MO_copyEntry.2.1 1 = .ok (.getfield 48, 3) := by decide +kernel
theorem d_MO_copyEntry_4 : decode m_MO_copyEntry.2.1 4 = .ok (.iload_n 2, 1) := by decide +kernel
theorem d_MO_copyEntry_5 : decode m_MO_copyEntry.2.1 5 = .ok (.aload_n 0, 1) := by decide +kernel
theorem d_MO_copyEntry_6 : decode m_MO_copyEntry.2.1 6 = .ok (.getfield 48, 3) := by decide +kernel
theorem d_MO_copyEntry_9 : decode m_MO_copyEntry.2.1 9 = .ok (.iload_n 1, 1) := by decide +kernel
theorem d_MO_copyEntry_10 : decode m_MO_copyEntry.2.1 10 = .ok (.baload, 1) := by decide +kernel
theorem d_MO_copyEntry_11 : decode m_MO_copyEntry.2.1 11 = .ok (.bastore, 1) := by decide +kernel
theorem d_MO_copyEntry_12 : decode m_MO_copyEntry.2.1 12 = .ok (.aload_n 0, 1) := by decide +kernel
theorem d_MO_copyEntry_13 : decode m_MO_copyEntry.2.1 13 = .ok (.getfield 51, 3) := by decide +kernel
theorem d_MO_copyEntry_16 : decode m_MO_copyEntry.2.1 16 = .ok (.iload_n 2, 1) := by decide +kernel
theorem d_MO_copyEntry_17 : decode m_MO_copyEntry.2.1 17 = .ok (.aload_n 0, 1) := by decide +kernel
theorem d_MO_copyEntry_18 : decode m_MO_copyEntry.2.1 18 = .ok (.getfield 51, 3) := by decide +kernel
theorem d_MO_copyEntry_21 : decode m_MO_copyEntry.2.1 21 = .ok (.iload_n 1, 1) := by decide +kernel
theorem d_MO_copyEntry_22 : decode m_MO_copyEntry.2.1 22 = .ok (.baload, 1) := by decide +kernel
theorem d_MO_copyEntry_23 : decode m_MO_copyEntry.2.1 23 = .ok (.bastore, 1) := by decide +kernel
theorem d_MO_copyEntry_24 : decode m_MO_copyEntry.2.1 24 = .ok (.aload_n 0, 1) := by decide +kernel
theorem d_MO_copyEntry_25 : decode m_MO_copyEntry.2.1 25 = .ok (.getfield 54, 3) := by decide +kernel
theorem d_MO_copyEntry_28 : decode m_MO_copyEntry.2.1 28 = .ok (.iload_n 2, 1) := by decide +kernel
theorem d_MO_copyEntry_29 : decode m_MO_copyEntry.2.1 29 = .ok (.aload_n 0, 1) := by decide +kernel
theorem d_MO_copyEntry_30 : decode m_MO_copyEntry.2.1 30 = .ok (.getfield 54, 3) := by decide +kernel
theorem d_MO_copyEntry_33 : decode m_MO_copyEntry.2.1 33 = .ok (.iload_n 1, 1) := by decide +kernel
theorem d_MO_copyEntry_34 : decode m_MO_copyEntry.2.1 34 = .ok (.iaload, 1) := by decide +kernel
theorem d_MO_copyEntry_35 : decode m_MO_copyEntry.2.1 35 = .ok (.iastore, 1) := by decide +kernel
theorem d_MO_copyEntry_36 : decode m_MO_copyEntry.2.1 36 = .ok (.aload_n 0, 1) := by decide +kernel
theorem d_MO_copyEntry_37 : decode m_MO_copyEntry.2.1 37 = .ok (.getfield 57, 3) := by decide +kernel
theorem d_MO_copyEntry_40 : decode m_MO_copyEntry.2.1 40 = .ok (.iload_n 2, 1) := by decide +kernel
theorem d_MO_copyEntry_41 : decode m_MO_copyEntry.2.1 41 = .ok (.aload_n 0, 1) := by decide +kernel
theorem d_MO_copyEntry_42 : decode m_MO_copyEntry.2.1 42 = .ok (.getfield 57, 3) := by decide +kernel
theorem d_MO_copyEntry_45 : decode m_MO_copyEntry.2.1 45 = .ok (.iload_n 1, 1) := by decide +kernel
theorem d_MO_copyEntry_46 : decode m_MO_copyEntry.2.1 46 = .ok (.iaload, 1) := by decide +kernel
theorem d_MO_copyEntry_47 : decode m_MO_copyEntry.2.1 47 = .ok (.iastore, 1) := by decide +kernel
theorem d_MO_copyEntry_48 : decode m_MO_copyEntry.2.1 48 = .ok (.aload_n 0, 1) := by decide +kernel
theorem d_MO_copyEntry_49 : decode m_MO_copyEntry.2.1 49 = .ok (.getfield 60, 3) := by decide +kernel
theorem d_MO_copyEntry_52 : decode m_MO_copyEntry.2.1 52 = .ok (.iload_n 2, 1) := by decide +kernel
theorem d_MO_copyEntry_53 : decode m_MO_copyEntry.2.1 53 = .ok (.aload_n 0, 1) := by decide +kernel
theorem d_MO_copyEntry_54 : decode m_MO_copyEntry.2.1 54 = .ok (.getfield 60, 3) := by decide +kernel
theorem d_MO_copyEntry_57 : decode m_MO_copyEntry.2.1 57 = .ok (.iload_n 1, 1) := by decide +kernel
theorem d_MO_copyEntry_58 : decode m_MO_copyEntry.2.1 58 = .ok (.iaload, 1) := by decide +kernel
theorem d_MO_copyEntry_59 : decode m_MO_copyEntry.2.1 59 = .ok (.iastore, 1) := by decide +kernel
theorem d_MO_copyEntry_60 : decode m_MO_copyEntry.2.1 60 = .ok (.return_, 1) := by decide +kernel
theorem k_MO_copyEntry : fw_cal m_MO_copyEntry := ⟨by decide +kernel, by decide +kernel, (fw_t 7 (by decide +kernel)), Or.inl ⟨rfl, fw_t 794 (by decide +kernel)⟩⟩
abbrev m_MO_dropEntry : fw_M := (⟨"FolderRightsModel", "dropEntry", "(II)I"⟩, prog_6_method_26_code, 4, (some .int), { frames := 2, cells := 0, slots := 0, locals := 46 }, [])
theorem d_MO_dropEntry_0 : decode m_MO_dropEntry.2.1 0 = .ok (.aload_n 0, 1) := by decide +kernel
theorem d_MO_dropEntry_1 : decode m_MO_dropEntry.2.1 1 = .ok (.aload_n 0, 1) := by decide +kernel
theorem d_MO_dropEntry_2 : decode m_MO_dropEntry.2.1 2 = .ok (.iload_n 1, 1) := by decide +kernel
theorem d_MO_dropEntry_3 : decode m_MO_dropEntry.2.1 3 = .ok (.invokevirtual 91, 3) := by decide +kernel
theorem d_MO_dropEntry_6 : decode m_MO_dropEntry.2.1 6 = .ok (.ifCond .eq 21, 3) := by decide +kernel
theorem d_MO_dropEntry_9 : decode m_MO_dropEntry.2.1 9 = .ok (.iload_n 2, 1) := by decide +kernel
theorem d_MO_dropEntry_10 : decode m_MO_dropEntry.2.1 10 = .ok (.ifCond .lt 17, 3) := by decide +kernel
theorem d_MO_dropEntry_13 : decode m_MO_dropEntry.2.1 13 = .ok (.iload_n 2, 1) := by decide +kernel
theorem d_MO_dropEntry_14 : decode m_MO_dropEntry.2.1 14 = .ok (.aload_n 0, 1) := by decide +kernel
theorem d_MO_dropEntry_15 : decode m_MO_dropEntry.2.1 15 = .ok (.getfield 45, 3) := by decide +kernel
theorem d_MO_dropEntry_18 : decode m_MO_dropEntry.2.1 18 = .ok (.iload_n 1, 1) := by decide +kernel
theorem d_MO_dropEntry_19 : decode m_MO_dropEntry.2.1 19 = .ok (.iaload, 1) := by decide +kernel
theorem d_MO_dropEntry_20 : decode m_MO_dropEntry.2.1 20 = .ok (.if_icmp .ge 7, 3) := by decide +kernel
theorem d_MO_dropEntry_23 : decode m_MO_dropEntry.2.1 23 = .ok (.iconst 1, 1) := by decide +kernel
theorem d_MO_dropEntry_24 : decode m_MO_dropEntry.2.1 24 = .ok (.goto 4, 3) := by decide +kernel
theorem d_MO_dropEntry_27 : decode m_MO_dropEntry.2.1 27 = .ok (.iconst 0, 1) := by decide +kernel
theorem d_MO_dropEntry_28 : decode m_MO_dropEntry.2.1 28 = .ok (.iconst 1, 1) := by decide +kernel
theorem d_MO_dropEntry_29 : decode m_MO_dropEntry.2.1 29 = .ok (.iconst 1, 1) := by decide +kernel
theorem d_MO_dropEntry_30 : decode m_MO_dropEntry.2.1 30 = .ok (.invokevirtual 69, 3) := by decide +kernel
theorem d_MO_dropEntry_33 : decode m_MO_dropEntry.2.1 33 = .ok (.ifCond .ne 5, 3) := by decide +kernel
theorem d_MO_dropEntry_36 : decode m_MO_dropEntry.2.1 36 = .ok (.iconst 0, 1) := by decide +kernel
theorem d_MO_dropEntry_37 : decode m_MO_dropEntry.2.1 37 = .ok (.ireturn, 1) := by decide +kernel
theorem d_MO_dropEntry_38 : decode m_MO_dropEntry.2.1 38 = .ok (.iload_n 2, 1) := by decide +kernel
theorem d_MO_dropEntry_39 : decode m_MO_dropEntry.2.1 39 = .ok (.istore_n 3, 1) := by decide +kernel
theorem d_MO_dropEntry_40 : decode m_MO_dropEntry.2.1 40 = .ok (.iload_n 3, 1) := by decide +kernel
theorem d_MO_dropEntry_41 : decode m_MO_dropEntry.2.1 41 = .ok (.iconst 1, 1) := by decide +kernel
theorem d_MO_dropEntry_42 : decode m_MO_dropEntry.2.1 42 = .ok (.iadd, 1) := by decide +kernel
theorem d_MO_dropEntry_43 : decode m_MO_dropEntry.2.1 43 = .ok (.aload_n 0, 1) := by decide +kernel
theorem d_MO_dropEntry_44 : decode m_MO_dropEntry.2.1 44 = .ok (.getfield 45, 3) := by decide +kernel
theorem d_MO_dropEntry_47 : decode m_MO_dropEntry.2.1 47 = .ok (.iload_n 1, 1) := by decide +kernel
theorem d_MO_dropEntry_48 : decode m_MO_dropEntry.2.1 48 = .ok (.iaload, 1) := by decide +kernel
theorem d_MO_dropEntry_49 : decode m_MO_dropEntry.2.1 49 = .ok (.if_icmp .ge 27, 3) := by decide +kernel
theorem d_MO_dropEntry_52 : decode m_MO_dropEntry.2.1 52 = .ok (.aload_n 0, 1) := by decide +kernel
theorem d_MO_dropEntry_53 : decode m_MO_dropEntry.2.1 53 = .ok (.bipush 12, 2) := by decide +kernel
theorem d_MO_dropEntry_55 : decode m_MO_dropEntry.2.1 55 = .ok (.iload_n 1, 1) := by decide +kernel
theorem d_MO_dropEntry_56 : decode m_MO_dropEntry.2.1 56 = .ok (.imul, 1) := by decide +kernel
theorem d_MO_dropEntry_57 : decode m_MO_dropEntry.2.1 57 = .ok (.iload_n 3, 1) := by decide +kernel
theorem d_MO_dropEntry_58 : decode m_MO_dropEntry.2.1 58 = .ok (.iadd, 1) := by decide +kernel
theorem d_MO_dropEntry_59 : decode m_MO_dropEntry.2.1 59 = .ok (.iconst 1, 1) := by decide +kernel
theorem d_MO_dropEntry_60 : decode m_MO_dropEntry.2.1 60 = .ok (.iadd, 1) := by decide +kernel
theorem d_MO_dropEntry_61 : decode m_MO_dropEntry.2.1 61 = .ok (.bipush 12, 2) := by decide +kernel
theorem d_MO_dropEntry_63 : decode m_MO_dropEntry.2.1 63 = .ok (.iload_n 1, 1) := by decide +kernel
theorem d_MO_dropEntry_64 : decode m_MO_dropEntry.2.1 64 = .ok (.imul, 1) := by decide +kernel
theorem d_MO_dropEntry_65 : decode m_MO_dropEntry.2.1 65 = .ok (.iload_n 3, 1) := by decide +kernel
theorem d_MO_dropEntry_66 : decode m_MO_dropEntry.2.1 66 = .ok (.iadd, 1) := by decide +kernel
theorem d_MO_dropEntry_67 : decode m_MO_dropEntry.2.1 67 = .ok (.invokevirtual 116, 3) := by decide +kernel
theorem d_MO_dropEntry_70 : decode m_MO_dropEntry.2.1 70 = .ok (.iinc 3 1, 3) := by decide +kernel
theorem d_MO_dropEntry_73 : decode m_MO_dropEntry.2.1 73 = .ok (.goto (-33), 3) := by decide +kernel
theorem d_MO_dropEntry_76 : decode m_MO_dropEntry.2.1 76 = .ok (.aload_n 0, 1) := by decide +kernel
theorem d_MO_dropEntry_77 : decode m_MO_dropEntry.2.1 77 = .ok (.getfield 45, 3) := by decide +kernel
theorem d_MO_dropEntry_80 : decode m_MO_dropEntry.2.1 80 = .ok (.iload_n 1, 1) := by decide +kernel
theorem d_MO_dropEntry_81 : decode m_MO_dropEntry.2.1 81 = .ok (.dup2, 1) := by decide +kernel
theorem d_MO_dropEntry_82 : decode m_MO_dropEntry.2.1 82 = .ok (.iaload, 1) := by decide +kernel
theorem d_MO_dropEntry_83 : decode m_MO_dropEntry.2.1 83 = .ok (.iconst 1, 1) := by decide +kernel
theorem d_MO_dropEntry_84 : decode m_MO_dropEntry.2.1 84 = .ok (.isub, 1) := by decide +kernel
theorem d_MO_dropEntry_85 : decode m_MO_dropEntry.2.1 85 = .ok (.iastore, 1) := by decide +kernel
theorem d_MO_dropEntry_86 : decode m_MO_dropEntry.2.1 86 = .ok (.aload_n 0, 1) := by decide +kernel
theorem d_MO_dropEntry_87 : decode m_MO_dropEntry.2.1 87 = .ok (.iload_n 1, 1) := by decide +kernel
theorem d_MO_dropEntry_88 : decode m_MO_dropEntry.2.1 88 = .ok (.iconst 0, 1) := by decide +kernel
theorem d_MO_dropEntry_89 : decode m_MO_dropEntry.2.1 89 = .ok (.invokevirtual 105, 3) := by decide +kernel
theorem d_MO_dropEntry_92 : decode m_MO_dropEntry.2.1 92 = .ok (.aload_n 0, 1) := by decide +kernel
theorem d_MO_dropEntry_93 : decode m_MO_dropEntry.2.1 93 = .ok (.getfield 45, 3) := by decide +kernel
theorem d_MO_dropEntry_96 : decode m_MO_dropEntry.2.1 96 = .ok (.iload_n 1, 1) := by decide +kernel
theorem d_MO_dropEntry_97 : decode m_MO_dropEntry.2.1 97 = .ok (.iaload, 1) := by decide +kernel
theorem d_MO_dropEntry_98 : decode m_MO_dropEntry.2.1 98 = .ok (.ireturn, 1) := by decide +kernel
theorem k_MO_dropEntry : fw_cal m_MO_dropEntry := ⟨by decide +kernel, by decide +kernel, (fw_t 7 (by decide +kernel)), Or.inl ⟨rfl, fw_t 798 (by decide +kernel)⟩⟩
abbrev m_MO_block : fw_M := (⟨"FolderRightsModel", "block", "(IZ)Z"⟩, prog_6_method_27_code, 4, (some .boolean), { frames := 2, cells := 0, slots := 0, locals := 46 }, [])
theorem d_MO_block_0 : decode m_MO_block.2.1 0 = .ok (.aload_n 0, 1) := by decide +kernel
theorem d_MO_block_1 : decode m_MO_block.2.1 1 = .ok (.aload_n 0, 1) := by decide +kernel
theorem d_MO_block_2 : decode m_MO_block.2.1 2 = .ok (.iload_n 1, 1) := by decide +kernel
theorem d_MO_block_3 : decode m_MO_block.2.1 3 = .ok (.invokevirtual 91, 3) := by decide +kernel
theorem d_MO_block_6 : decode m_MO_block.2.1 6 = .ok (.iconst 1, 1) := by decide +kernel
theorem d_MO_block_7 : decode m_MO_block.2.1 7 = .ok (.iconst 1, 1) := by decide +kernel
theorem d_MO_block_8 : decode m_MO_block.2.1 8 = .ok (.invokevirtual 69, 3) := by decide +kernel
theorem d_MO_block_11 : decode m_MO_block.2.1 11 = .ok (.ifCond .ne 5, 3) := by decide +kernel
theorem d_MO_block_14 : decode m_MO_block.2.1 14 = .ok (.iconst 0, 1) := by decide +kernel
theorem d_MO_block_15 : decode m_MO_block.2.1 15 = .ok (.ireturn, 1) := by decide +kernel
theorem d_MO_block_16 : decode m_MO_block.2.1 16 = .ok (.aload_n 0, 1) := by decide +kernel
theorem d_MO_block_17 : decode m_MO_block.2.1 17 = .ok (.getfield 32, 3) := by decide +kernel
theorem d_MO_block_20 : decode m_MO_block.2.1 20 = .ok (.iload_n 1, 1) := by decide +kernel
theorem d_MO_block_21 : decode m_MO_block.2.1 21 = .ok (.baload, 1) := by decide +kernel
theorem d_MO_block_22 : decode m_MO_block.2.1 22 = .ok (.istore_n 3, 1) := by decide +kernel
theorem d_MO_block_23 : decode m_MO_block.2.1 23 = .ok (.aload_n 0, 1) := by decide +kernel
theorem d_MO_block_24 : decode m_MO_block.2.1 24 = .ok (.getfield 32, 3) := by decide +kernel
theorem d_MO_block_27 : decode m_MO_block.2.1 27 = .ok (.iload_n 1, 1) := by decide +kernel
theorem d_MO_block_28 : decode m_MO_block.2.1 28 = .ok (.iload_n 2, 1) := by decide +kernel
theorem d_MO_block_29 : decode m_MO_block.2.1 29 = .ok (.bastore, 1) := by decide +kernel
theorem d_MO_block_30 : decode m_MO_block.2.1 30 = .ok (.iload_n 3, 1) := by decide +kernel
theorem d_MO_block_31 : decode m_MO_block.2.1 31 = .ok (.iload_n 2, 1) := by decide +kernel
theorem d_MO_block_32 : decode m_MO_block.2.1 32 = .ok (.if_icmp .eq 9, 3) := by decide +kernel
theorem d_MO_block_35 : decode m_MO_block.2.1 35 = .ok (.aload_n 0, 1) := by decide +kernel
theorem d_MO_block_36 : decode m_MO_block.2.1 36 = .ok (.iload_n 1, 1) := by decide +kernel
theorem d_MO_block_37 : decode m_MO_block.2.1 37 = .ok (.iconst 1, 1) := by decide +kernel
theorem d_MO_block_38 : decode m_MO_block.2.1 38 = .ok (.invokevirtual 105, 3) := by decide +kernel
theorem d_MO_block_41 : decode m_MO_block.2.1 41 = .ok (.iload_n 3, 1) := by decide +kernel
theorem d_MO_block_42 : decode m_MO_block.2.1 42 = .ok (.ireturn, 1) := by decide +kernel
theorem k_MO_block : fw_cal m_MO_block := ⟨by decide +kernel, by decide +kernel, (fw_t 7 (by decide +kernel)), Or.inl ⟨rfl, fw_t 802 (by decide +kernel)⟩⟩
abbrev m_MO_owner : fw_M := (⟨"FolderRightsModel", "owner", "(II)I"⟩, prog_6_method_28_code, 4, (some .int), { frames := 1, cells := 0, slots := 0, locals := 23 }, [])
theorem d_MO_owner_0 : decode m_MO_owner.2.1 0 = .ok (.aload_n 0, 1) := by decide +kernel
theorem d_MO_owner_1 : decode m_MO_owner.2.1 1 = .ok (.aload_n 0, 1) := by decide +kernel
theorem d_MO_owner_2 : decode m_MO_owner.2.1 2 = .ok (.iload_n 1, 1) := by decide +kernel
theorem d_MO_owner_3 : decode m_MO_owner.2.1 3 = .ok (.invokevirtual 91, 3) := by decide +kernel
theorem d_MO_owner_6 : decode m_MO_owner.2.1 6 = .ok (.ifCond .eq 15, 3) := by decide +kernel
theorem d_MO_owner_9 : decode m_MO_owner.2.1 9 = .ok (.aload_n 0, 1) := by decide +kernel
theorem d_MO_owner_10 : decode m_MO_owner.2.1 10 = .ok (.iload_n 2, 1) := by decide +kernel
theorem d_MO_owner_11 : decode m_MO_owner.2.1 11 = .ok (.invokevirtual 77, 3) := by decide +kernel
theorem d_MO_owner_14 : decode m_MO_owner.2.1 14 = .ok (.ifCond .eq 7, 3) := by decide +kernel
theorem d_MO_owner_17 : decode m_MO_owner.2.1 17 = .ok (.iconst 1, 1) := by decide +kernel
theorem d_MO_owner_18 : decode m_MO_owner.2.1 18 = .ok (.goto 4, 3) := by decide +kernel
theorem d_MO_owner_21 : decode m_MO_owner.2.1 21 = .ok (.iconst 0, 1) := by decide +kernel
theorem d_MO_owner_22 : decode m_MO_owner.2.1 22 = .ok (.iconst 1, 1) := by decide +kernel
theorem d_MO_owner_23 : decode m_MO_owner.2.1 23 = .ok (.iconst 1, 1) := by decide +kernel
theorem d_MO_owner_24 : decode m_MO_owner.2.1 24 = .ok (.invokevirtual 69, 3) := by decide +kernel
theorem d_MO_owner_27 : decode m_MO_owner.2.1 27 = .ok (.ifCond .ne 5, 3) := by decide +kernel
theorem d_MO_owner_30 : decode m_MO_owner.2.1 30 = .ok (.iconst 0, 1) := by decide +kernel
theorem d_MO_owner_31 : decode m_MO_owner.2.1 31 = .ok (.ireturn, 1) := by decide +kernel
theorem d_MO_owner_32 : decode m_MO_owner.2.1 32 = .ok (.aload_n 0, 1) := by decide +kernel
theorem d_MO_owner_33 : decode m_MO_owner.2.1 33 = .ok (.getfield 42, 3) := by decide +kernel
theorem d_MO_owner_36 : decode m_MO_owner.2.1 36 = .ok (.iload_n 1, 1) := by decide +kernel
theorem d_MO_owner_37 : decode m_MO_owner.2.1 37 = .ok (.iaload, 1) := by decide +kernel
theorem d_MO_owner_38 : decode m_MO_owner.2.1 38 = .ok (.istore_n 3, 1) := by decide +kernel
theorem d_MO_owner_39 : decode m_MO_owner.2.1 39 = .ok (.aload_n 0, 1) := by decide +kernel
theorem d_MO_owner_40 : decode m_MO_owner.2.1 40 = .ok (.getfield 42, 3) := by decide +kernel
theorem d_MO_owner_43 : decode m_MO_owner.2.1 43 = .ok (.iload_n 1, 1) := by decide +kernel
theorem d_MO_owner_44 : decode m_MO_owner.2.1 44 = .ok (.iload_n 2, 1) := by decide +kernel
theorem d_MO_owner_45 : decode m_MO_owner.2.1 45 = .ok (.iastore, 1) := by decide +kernel
theorem d_MO_owner_46 : decode m_MO_owner.2.1 46 = .ok (.iload_n 3, 1) := by decide +kernel
theorem d_MO_owner_47 : decode m_MO_owner.2.1 47 = .ok (.ireturn, 1) := by decide +kernel
theorem k_MO_owner : fw_cal m_MO_owner := ⟨by decide +kernel, by decide +kernel, (fw_t 7 (by decide +kernel)), Or.inl ⟨rfl, fw_t 806 (by decide +kernel)⟩⟩
abbrev m_MO_rights : fw_M := (⟨"FolderRightsModel", "rights", "(II)I"⟩, prog_6_method_34_code, 3, (some .int), { frames := 5, cells := 0, slots := 0, locals := 122 }, [])
theorem d_MO_rights_0 : decode m_MO_rights.2.1 0 = .ok (.aload_n 0, 1) := by decide +kernel
theorem d_MO_rights_1 : decode m_MO_rights.2.1 1 = .ok (.aload_n 0, 1) := by decide +kernel
theorem d_MO_rights_2 : decode m_MO_rights.2.1 2 = .ok (.iload_n 1, 1) := by decide +kernel
theorem d_MO_rights_3 : decode m_MO_rights.2.1 3 = .ok (.invokevirtual 77, 3) := by decide +kernel
theorem d_MO_rights_6 : decode m_MO_rights.2.1 6 = .ok (.ifCond .eq 15, 3) := by decide +kernel
theorem d_MO_rights_9 : decode m_MO_rights.2.1 9 = .ok (.aload_n 0, 1) := by decide +kernel
theorem d_MO_rights_10 : decode m_MO_rights.2.1 10 = .ok (.iload_n 2, 1) := by decide +kernel
theorem d_MO_rights_11 : decode m_MO_rights.2.1 11 = .ok (.invokevirtual 91, 3) := by decide +kernel
theorem d_MO_rights_14 : decode m_MO_rights.2.1 14 = .ok (.ifCond .eq 7, 3) := by decide +kernel
theorem d_MO_rights_17 : decode m_MO_rights.2.1 17 = .ok (.iconst 1, 1) := by decide +kernel
theorem d_MO_rights_18 : decode m_MO_rights.2.1 18 = .ok (.goto 4, 3) := by decide +kernel
theorem d_MO_rights_21 : decode m_MO_rights.2.1 21 = .ok (.iconst 0, 1) := by decide +kernel
theorem d_MO_rights_22 : decode m_MO_rights.2.1 22 = .ok (.iconst 1, 1) := by decide +kernel
theorem d_MO_rights_23 : decode m_MO_rights.2.1 23 = .ok (.iconst 1, 1) := by decide +kernel
theorem d_MO_rights_24 : decode m_MO_rights.2.1 24 = .ok (.invokevirtual 69, 3) := by decide +kernel
theorem d_MO_rights_27 : decode m_MO_rights.2.1 27 = .ok (.ifCond .ne 5, 3) := by decide +kernel
theorem d_MO_rights_30 : decode m_MO_rights.2.1 30 = .ok (.iconst 0, 1) := by decide +kernel
theorem d_MO_rights_31 : decode m_MO_rights.2.1 31 = .ok (.ireturn, 1) := by decide +kernel
theorem d_MO_rights_32 : decode m_MO_rights.2.1 32 = .ok (.aload_n 0, 1) := by decide +kernel
theorem d_MO_rights_33 : decode m_MO_rights.2.1 33 = .ok (.getfield 35, 3) := by decide +kernel
theorem d_MO_rights_36 : decode m_MO_rights.2.1 36 = .ok (.iload_n 2, 1) := by decide +kernel
theorem d_MO_rights_37 : decode m_MO_rights.2.1 37 = .ok (.iconst 0, 1) := by decide +kernel
theorem d_MO_rights_38 : decode m_MO_rights.2.1 38 = .ok (.bastore, 1) := by decide +kernel
theorem d_MO_rights_39 : decode m_MO_rights.2.1 39 = .ok (.aload_n 0, 1) := by decide +kernel
theorem d_MO_rights_40 : decode m_MO_rights.2.1 40 = .ok (.iload_n 1, 1) := by decide +kernel
theorem d_MO_rights_41 : decode m_MO_rights.2.1 41 = .ok (.iload_n 2, 1) := by decide +kernel
theorem d_MO_rights_42 : decode m_MO_rights.2.1 42 = .ok (.invokevirtual 145, 3) := by decide +kernel
theorem d_MO_rights_45 : decode m_MO_rights.2.1 45 = .ok (.ireturn, 1) := by decide +kernel
theorem k_MO_rights : fw_cal m_MO_rights := ⟨by decide +kernel, by decide +kernel, (fw_t 7 (by decide +kernel)), Or.inl ⟨rfl, fw_t 810 (by decide +kernel)⟩⟩
abbrev m_MO_rightsOf : fw_M := (⟨"FolderRightsModel", "rightsOf", "(II)I"⟩, prog_6_method_33_code, 5, (some .int), { frames := 4, cells := 0, slots := 0, locals := 98 }, [])
theorem d_MO_rightsOf_0 : decode m_MO_rightsOf.2.1 0 = .ok (.iconst 0, 1) := by decide +kernel
theorem d_MO_rightsOf_1 : decode m_MO_rightsOf.2.1 1 = .ok (.istore_n 3, 1) := by decide +kernel
theorem d_MO_rightsOf_2 : decode m_MO_rightsOf.2.1 2 = .ok (.iconst 0, 1) := by decide +kernel
theorem d_MO_rightsOf_3 : decode m_MO_rightsOf.2.1 3 = .ok (.istore 4, 2) := by decide +kernel
theorem d_MO_rightsOf_5 : decode m_MO_rightsOf.2.1 5 = .ok (.iload 4, 2) := by decide +kernel
theorem d_MO_rightsOf_7 : decode m_MO_rightsOf.2.1 7 = .ok (.bipush 8, 2) := by decide +kernel
theorem d_MO_rightsOf_9 : decode m_MO_rightsOf.2.1 9 = .ok (.if_icmp .ge 31, 3) := by decide +kernel
theorem d_MO_rightsOf_12 : decode m_MO_rightsOf.2.1 12 = .ok (.aload_n 0, 1) := by decide +kernel
theorem d_MO_rightsOf_13 : decode m_MO_rightsOf.2.1 13 = .ok (.iload_n 1, 1) := by decide +kernel
theorem d_MO_rightsOf_14 : decode m_MO_rightsOf.2.1 14 = .ok (.iload_n 2, 1) := by decide +kernel
theorem d_MO_rightsOf_15 : decode m_MO_rightsOf.2.1 15 = .ok (.iload 4, 2) := by decide +kernel
theorem d_MO_rightsOf_17 : decode m_MO_rightsOf.2.1 17 = .ok (.invokevirtual 142, 3) := by decide +kernel
theorem d_MO_rightsOf_20 : decode m_MO_rightsOf.2.1 20 = .ok (.ifCond .eq 12, 3) := by decide +kernel
theorem d_MO_rightsOf_23 : decode m_MO_rightsOf.2.1 23 = .ok (.iload_n 3, 1) := by decide +kernel
theorem d_MO_rightsOf_24 : decode m_MO_rightsOf.2.1 24 = .ok (.iconst 1, 1) := by decide +kernel
theorem d_MO_rightsOf_25 : decode m_MO_rightsOf.2.1 25 = .ok (.iload 4, 2) := by decide +kernel
theorem d_MO_rightsOf_27 : decode m_MO_rightsOf.2.1 27 = .ok (.ishl, 1) := by decide +kernel
theorem d_MO_rightsOf_28 : decode m_MO_rightsOf.2.1 28 = .ok (.ior, 1) := by decide +kernel
theorem d_MO_rightsOf_29 : decode m_MO_rightsOf.2.1 29 = .ok (.goto 4, 3) := by decide +kernel
theorem d_MO_rightsOf_32 : decode m_MO_rightsOf.2.1 32 = .ok (.iload_n 3, 1) := by decide +kernel
theorem d_MO_rightsOf_33 : decode m_MO_rightsOf.2.1 33 = .ok (.istore_n 3, 1) := by decide +kernel
theorem d_MO_rightsOf_34 : decode m_MO_rightsOf.2.1 34 = .ok (.iinc 4 1, 3) := by decide +kernel
theorem d_MO_rightsOf_37 : decode m_MO_rightsOf.2.1 37 = .ok (.goto (-32), 3) := by decide +kernel
theorem d_MO_rightsOf_40 : decode m_MO_rightsOf.2.1 40 = .ok (.iload_n 3, 1) := by decide +kernel
theorem d_MO_rightsOf_41 : decode m_MO_rightsOf.2.1 41 = .ok (.ireturn, 1) := by decide +kernel
theorem k_MO_rightsOf : fw_cal m_MO_rightsOf := ⟨by decide +kernel, by decide +kernel, (fw_t 7 (by decide +kernel)), Or.inl ⟨rfl, fw_t 814 (by decide +kernel)⟩⟩
abbrev m_MO_decide : fw_M := (⟨"FolderRightsModel", "decide", "(III)Z"⟩, prog_6_method_32_code, 7, (some .boolean), { frames := 3, cells := 0, slots := 0, locals := 72 }, [])
theorem d_MO_decide_0 : decode m_MO_decide.2.1 0 = .ok (.aload_n 0, 1) := by decide +kernel
theorem d_MO_decide_1 : decode m_MO_decide.2.1 1 = .ok (.iload_n 2, 1) := by decide +kernel
theorem d_MO_decide_2 : decode m_MO_decide.2.1 2 = .ok (.putfield 129, 3) := by decide +kernel
theorem d_MO_decide_5 : decode m_MO_decide.2.1 5 = .ok (.aload_n 0, 1) := by decide +kernel
theorem d_MO_decide_6 : decode m_MO_decide.2.1 6 = .ok (.iconst (-1), 1) := by decide +kernel
theorem d_MO_decide_7 : decode m_MO_decide.2.1 7 = .ok (.putfield 132, 3) := by decide +kernel
theorem d_MO_decide_10 : decode m_MO_decide.2.1 10 = .ok (.aload_n 0, 1) := by decide +kernel
theorem d_MO_decide_11 : decode m_MO_decide.2.1 11 = .ok (.iconst 0, 1) := by decide +kernel
theorem d_MO_decide_12 : decode m_MO_decide.2.1 12 = .ok (.putfield 135, 3) := by decide +kernel
theorem d_MO_decide_15 : decode m_MO_decide.2.1 15 = .ok (.iload_n 3, 1) := by decide +kernel
theorem d_MO_decide_16 : decode m_MO_decide.2.1 16 = .ok (.bipush 7, 2) := by decide +kernel
theorem d_MO_decide_18 : decode m_MO_decide.2.1 18 = .ok (.if_icmp .ne 15, 3) := by decide +kernel
theorem d_MO_decide_21 : decode m_MO_decide.2.1 21 = .ok (.aload_n 0, 1) := by decide +kernel
theorem d_MO_decide_22 : decode m_MO_decide.2.1 22 = .ok (.getfield 42, 3) := by decide +kernel
theorem d_MO_decide_25 : decode m_MO_decide.2.1 25 = .ok (.iload_n 2, 1) := by decide +kernel
theorem d_MO_decide_26 : decode m_MO_decide.2.1 26 = .ok (.iaload, 1) := by decide +kernel
theorem d_MO_decide_27 : decode m_MO_decide.2.1 27 = .ok (.iload_n 1, 1) := by decide +kernel
theorem d_MO_decide_28 : decode m_MO_decide.2.1 28 = .ok (.if_icmp .ne 5, 3) := by decide +kernel
theorem d_MO_decide_31 : decode m_MO_decide.2.1 31 = .ok (.iconst 1, 1) := by decide +kernel
theorem d_MO_decide_32 : decode m_MO_decide.2.1 32 = .ok (.ireturn, 1) := by decide +kernel
theorem d_MO_decide_33 : decode m_MO_decide.2.1 33 = .ok (.iload_n 2, 1) := by decide +kernel
theorem d_MO_decide_34 : decode m_MO_decide.2.1 34 = .ok (.istore 4, 2) := by decide +kernel
theorem d_MO_decide_36 : decode m_MO_decide.2.1 36 = .ok (.iload 4, 2) := by decide +kernel
theorem d_MO_decide_38 : decode m_MO_decide.2.1 38 = .ok (.iconst (-1), 1) := by decide +kernel
theorem d_MO_decide_39 : decode m_MO_decide.2.1 39 = .ok (.if_icmp .eq 115, 3) := by decide +kernel
theorem d_MO_decide_42 : decode m_MO_decide.2.1 42 = .ok (.aload_n 0, 1) := by decide +kernel
theorem d_MO_decide_43 : decode m_MO_decide.2.1 43 = .ok (.iload 4, 2) := by decide +kernel
theorem d_MO_decide_45 : decode m_MO_decide.2.1 45 = .ok (.iload_n 2, 1) := by decide +kernel
theorem d_MO_decide_46 : decode m_MO_decide.2.1 46 = .ok (.iload_n 1, 1) := by decide +kernel
theorem d_MO_decide_47 : decode m_MO_decide.2.1 47 = .ok (.iload_n 3, 1) := by decide +kernel
theorem d_MO_decide_48 : decode m_MO_decide.2.1 48 = .ok (.iconst 0, 1) := by decide +kernel
theorem d_MO_decide_49 : decode m_MO_decide.2.1 49 = .ok (.invokevirtual 138, 3) := by decide +kernel
theorem d_MO_decide_52 : decode m_MO_decide.2.1 52 = .ok (.istore 5, 2) := by decide +kernel
theorem d_MO_decide_54 : decode m_MO_decide.2.1 54 = .ok (.aload_n 0, 1) := by decide +kernel
theorem d_MO_decide_55 : decode m_MO_decide.2.1 55 = .ok (.iload 4, 2) := by decide +kernel
theorem d_MO_decide_57 : decode m_MO_decide.2.1 57 = .ok (.iload_n 2, 1) := by decide +kernel
theorem d_MO_decide_58 : decode m_MO_decide.2.1 58 = .ok (.iload_n 1, 1) := by decide +kernel
theorem d_MO_decide_59 : decode m_MO_decide.2.1 59 = .ok (.iload_n 3, 1) := by decide +kernel
theorem d_MO_decide_60 : decode m_MO_decide.2.1 60 = .ok (.iconst 1, 1) := by decide +kernel
theorem d_MO_decide_61 : decode m_MO_decide.2.1 61 = .ok (.invokevirtual 138, 3) := by decide +kernel
theorem d_MO_decide_64 : decode m_MO_decide.2.1 64 = .ok (.istore 6, 2) := by decide +kernel
theorem d_MO_decide_66 : decode m_MO_decide.2.1 66 = .ok (.iload 5, 2) := by decide +kernel
theorem d_MO_decide_68 : decode m_MO_decide.2.1 68 = .ok (.iconst (-1), 1) := by decide +kernel
theorem d_MO_decide_69 : decode m_MO_decide.2.1 69 = .ok (.if_icmp .ne 9, 3) := by decide +kernel
theorem d_MO_decide_72 : decode m_MO_decide.2.1 72 = .ok (.iload 6, 2) := by decide +kernel
theorem d_MO_decide_74 : decode m_MO_decide.2.1 74 = .ok (.iconst (-1), 1) := by decide +kernel
theorem d_MO_decide_75 : decode m_MO_decide.2.1 75 = .ok (.if_icmp .eq 53, 3) := by decide +kernel
theorem d_MO_decide_78 : decode m_MO_decide.2.1 78 = .ok (.aload_n 0, 1) := by decide +kernel
theorem d_MO_decide_79 : decode m_MO_decide.2.1 79 = .ok (.iload 4, 2) := by decide +kernel
theorem d_MO_decide_81 : decode m_MO_decide.2.1 81 = .ok (.putfield 129, 3) := by decide +kernel
theorem d_MO_decide_84 : decode m_MO_decide.2.1 84 = .ok (.aload_n 0, 1) := by decide +kernel
theorem d_MO_decide_85 : decode m_MO_decide.2.1 85 = .ok (.iload 5, 2) := by decide +kernel
theorem d_MO_decide_87 : decode m_MO_decide.2.1 87 = .ok (.iconst (-1), 1) := by decide +kernel
theorem d_MO_decide_88 : decode m_MO_decide.2.1 88 = .ok (.if_icmp .eq 8, 3) := by decide +kernel
theorem d_MO_decide_91 : decode m_MO_decide.2.1 91 = .ok (.iload 5, 2) := by decide +kernel
theorem d_MO_decide_93 : decode m_MO_decide.2.1 93 = .ok (.goto 5, 3) := by decide +kernel
theorem d_MO_decide_96 : decode m_MO_decide.2.1 96 = .ok (.iload 6, 2) := by decide +kernel
theorem d_MO_decide_98 : decode m_MO_decide.2.1 98 = .ok (.putfield 132, 3) := by decide +kernel
theorem d_MO_decide_101 : decode m_MO_decide.2.1 101 = .ok (.aload_n 0, 1) := by decide +kernel
theorem d_MO_decide_102 : decode m_MO_decide.2.1 102 = .ok (.iload 5, 2) := by decide +kernel
theorem d_MO_decide_104 : decode m_MO_decide.2.1 104 = .ok (.iconst (-1), 1) := by decide +kernel
theorem d_MO_decide_105 : decode m_MO_decide.2.1 105 = .ok (.if_icmp .eq 7, 3) := by decide +kernel
theorem d_MO_decide_108 : decode m_MO_decide.2.1 108 = .ok (.iconst 2, 1) := by decide +kernel
theorem d_MO_decide_109 : decode m_MO_decide.2.1 109 = .ok (.goto 4, 3) := by decide +kernel
theorem d_MO_decide_112 : decode m_MO_decide.2.1 112 = .ok (.iconst 1, 1) := by decide +kernel
theorem d_MO_decide_113 : decode m_MO_decide.2.1 113 = .ok (.putfield 135, 3) := by decide +kernel
theorem d_MO_decide_116 : decode m_MO_decide.2.1 116 = .ok (.iload 5, 2) := by decide +kernel
theorem d_MO_decide_118 : decode m_MO_decide.2.1 118 = .ok (.iconst (-1), 1) := by decide +kernel
theorem d_MO_decide_119 : decode m_MO_decide.2.1 119 = .ok (.if_icmp .ne 7, 3) := by decide +kernel
theorem d_MO_decide_122 : decode m_MO_decide.2.1 122 = .ok (.iconst 1, 1) := by decide +kernel
theorem d_MO_decide_123 : decode m_MO_decide.2.1 123 = .ok (.goto 4, 3) := by decide +kernel
theorem d_MO_decide_126 : decode m_MO_decide.2.1 126 = .ok (.iconst 0, 1) := by decide +kernel
theorem d_MO_decide_127 : decode m_MO_decide.2.1 127 = .ok (.ireturn, 1) := by decide +kernel
theorem d_MO_decide_128 : decode m_MO_decide.2.1 128 = .ok (.aload_n 0, 1) := by decide +kernel
theorem d_MO_decide_129 : decode m_MO_decide.2.1 129 = .ok (.getfield 32, 3) := by decide +kernel
theorem d_MO_decide_132 : decode m_MO_decide.2.1 132 = .ok (.iload 4, 2) := by decide +kernel
theorem d_MO_decide_134 : decode m_MO_decide.2.1 134 = .ok (.baload, 1) := by decide +kernel
theorem d_MO_decide_135 : decode m_MO_decide.2.1 135 = .ok (.ifCond .eq 7, 3) := by decide +kernel
theorem d_MO_decide_138 : decode m_MO_decide.2.1 138 = .ok (.iconst (-1), 1) := by decide +kernel
theorem d_MO_decide_139 : decode m_MO_decide.2.1 139 = .ok (.goto 10, 3) := by decide +kernel
theorem d_MO_decide_142 : decode m_MO_decide.2.1 142 = .ok (.aload_n 0, 1) := by decide +kernel
theorem d_MO_decide_143 : decode m_MO_decide.2.1 143 = .ok (.getfield 38, 3) := by decide +kernel
theorem d_MO_decide_146 : decode m_MO_decide.2.1 146 = .ok (.iload 4, 2) := by decide +kernel
theorem d_MO_decide_148 : decode m_MO_decide.2.1 148 = .ok (.iaload, 1) := by decide +kernel
theorem d_MO_decide_149 : decode m_MO_decide.2.1 149 = .ok (.istore 4, 2) := by decide +kernel
theorem d_MO_decide_151 : decode m_MO_decide.2.1 151 = .ok (.goto (-115), 3) := by decide +kernel
theorem d_MO_decide_154 : decode m_MO_decide.2.1 154 = .ok (.aload_n 0, 1) := by decide +kernel
theorem d_MO_decide_155 : decode m_MO_decide.2.1 155 = .ok (.iconst (-1), 1) := by decide +kernel
theorem d_MO_decide_156 : decode m_MO_decide.2.1 156 = .ok (.putfield 129, 3) := by decide +kernel
theorem d_MO_decide_159 : decode m_MO_decide.2.1 159 = .ok (.aload_n 0, 1) := by decide +kernel
theorem d_MO_decide_160 : decode m_MO_decide.2.1 160 = .ok (.iconst 3, 1) := by decide +kernel
theorem d_MO_decide_161 : decode m_MO_decide.2.1 161 = .ok (.putfield 135, 3) := by decide +kernel
theorem d_MO_decide_164 : decode m_MO_decide.2.1 164 = .ok (.iconst 0, 1) := by decide +kernel
theorem d_MO_decide_165 : decode m_MO_decide.2.1 165 = .ok (.ireturn, 1) := by decide +kernel
theorem k_MO_decide : fw_cal m_MO_decide := ⟨by decide +kernel, by decide +kernel, (fw_t 7 (by decide +kernel)), Or.inl ⟨rfl, fw_t 818 (by decide +kernel)⟩⟩
abbrev m_MO_first : fw_M := (⟨"FolderRightsModel", "first", "(IIIIZ)I"⟩, prog_6_method_31_code, 8, (some .int), { frames := 2, cells := 0, slots := 0, locals := 45 }, [])
theorem d_MO_first_0 : decode m_MO_first.2.1 0 = .ok (.iconst 0, 1) := by decide +kernel
theorem d_MO_first_1 : decode m_MO_first.2.1 1 = .ok (.istore 6, 2) := by decide +kernel
theorem d_MO_first_3 : decode m_MO_first.2.1 3 = .ok (.iload 6, 2) := by decide +kernel
theorem d_MO_first_5 : decode m_MO_first.2.1 5 = .ok (.aload_n 0, 1) := by decide +kernel
theorem d_MO_first_6 : decode m_MO_first.2.1 6 = .ok (.getfield 45, 3) := by decide +kernel
theorem d_MO_first_9 : decode m_MO_first.2.1 9 = .ok (.iload_n 1, 1) := by decide +kernel
theorem d_MO_first_10 : decode m_MO_first.2.1 10 = .ok (.iaload, 1) := by decide +kernel
theorem d_MO_first_11 : decode m_MO_first.2.1 11 = .ok (.if_icmp .ge 56, 3) := by decide +kernel
theorem d_MO_first_14 : decode m_MO_first.2.1 14 = .ok (.bipush 12, 2) := by decide +kernel
theorem d_MO_first_16 : decode m_MO_first.2.1 16 = .ok (.iload_n 1, 1) := by decide +kernel
theorem d_MO_first_17 : decode m_MO_first.2.1 17 = .ok (.imul, 1) := by decide +kernel
theorem d_MO_first_18 : decode m_MO_first.2.1 18 = .ok (.iload 6, 2) := by decide +kernel
theorem d_MO_first_20 : decode m_MO_first.2.1 20 = .ok (.iadd, 1) := by decide +kernel
theorem d_MO_first_21 : decode m_MO_first.2.1 21 = .ok (.istore 7, 2) := by decide +kernel
theorem d_MO_first_23 : decode m_MO_first.2.1 23 = .ok (.aload_n 0, 1) := by decide +kernel
theorem d_MO_first_24 : decode m_MO_first.2.1 24 = .ok (.getfield 48, 3) := by decide +kernel
theorem d_MO_first_27 : decode m_MO_first.2.1 27 = .ok (.iload 7, 2) := by decide +kernel
theorem d_MO_first_29 : decode m_MO_first.2.1 29 = .ok (.baload, 1) := by decide +kernel
theorem d_MO_first_30 : decode m_MO_first.2.1 30 = .ok (.iload 5, 2) := by decide +kernel
theorem d_MO_first_32 : decode m_MO_first.2.1 32 = .ok (.if_icmp .ne 29, 3) := by decide +kernel
theorem d_MO_first_35 : decode m_MO_first.2.1 35 = .ok (.aload_n 0, 1) := by decide +kernel
theorem d_MO_first_36 : decode m_MO_first.2.1 36 = .ok (.iload 7, 2) := by decide +kernel
theorem d_MO_first_38 : decode m_MO_first.2.1 38 = .ok (.iload_n 1, 1) := by decide +kernel
theorem d_MO_first_39 : decode m_MO_first.2.1 39 = .ok (.iload_n 2, 1) := by decide +kernel
theorem d_MO_first_40 : decode m_MO_first.2.1 40 = .ok (.invokevirtual 123, 3) := by decide +kernel
theorem d_MO_first_43 : decode m_MO_first.2.1 43 = .ok (.ifCond .eq 18, 3) := by decide +kernel
theorem d_MO_first_46 : decode m_MO_first.2.1 46 = .ok (.aload_n 0, 1) := by decide +kernel
theorem d_MO_first_47 : decode m_MO_first.2.1 47 = .ok (.iload 7, 2) := by decide +kernel
theorem d_MO_first_49 : decode m_MO_first.2.1 49 = .ok (.iload_n 3, 1) := by decide +kernel
theorem d_MO_first_50 : decode m_MO_first.2.1 50 = .ok (.iload 4, 2) := by decide +kernel
theorem d_MO_first_52 : decode m_MO_first.2.1 52 = .ok (.invokevirtual 126, 3) := by decide +kernel
theorem d_MO_first_55 : decode m_MO_first.2.1 55 = .ok (.ifCond .eq 6, 3) := by decide +kernel
theorem d_MO_first_58 : decode m_MO_first.2.1 58 = .ok (.iload 6, 2) := by decide +kernel
theorem d_MO_first_60 : decode m_MO_first.2.1 60 = .ok (.ireturn, 1) := by decide +kernel
theorem d_MO_first_61 : decode m_MO_first.2.1 61 = .ok (.iinc 6 1, 3) := by decide +kernel
theorem d_MO_first_64 : decode m_MO_first.2.1 64 = .ok (.goto (-61), 3) := by decide +kernel
theorem d_MO_first_67 : decode m_MO_first.2.1 67 = .ok (.iconst (-1), 1) := by decide +kernel
theorem d_MO_first_68 : decode m_MO_first.2.1 68 = .ok (.ireturn, 1) := by decide +kernel
theorem k_MO_first : fw_cal m_MO_first := ⟨by decide +kernel, by decide +kernel, (fw_t 7 (by decide +kernel)), Or.inl ⟨rfl, fw_t 822 (by decide +kernel)⟩⟩
abbrev m_MO_reaches : fw_M := (⟨"FolderRightsModel", "reaches", "(III)Z"⟩, prog_6_method_29_code, 4, (some .boolean), { frames := 0, cells := 0, slots := 0, locals := 0 }, [])
theorem d_MO_reaches_0 : decode m_MO_reaches.2.1 0 = .ok (.iload_n 2, 1) := by decide +kernel
theorem d_MO_reaches_1 : decode m_MO_reaches.2.1 1 = .ok (.iload_n 3, 1) := by decide +kernel
theorem d_MO_reaches_2 : decode m_MO_reaches.2.1 2 = .ok (.if_icmp .ne 20, 3) := by decide +kernel
theorem d_MO_reaches_5 : decode m_MO_reaches.2.1 5 = .ok (.aload_n 0, 1) := by decide +kernel
theorem d_MO_reaches_6 : decode m_MO_reaches.2.1 6 = .ok (.getfield 60, 3) := by decide +kernel
theorem d_MO_reaches_9 : decode m_MO_reaches.2.1 9 = .ok (.iload_n 1, 1) := by decide +kernel
theorem d_MO_reaches_10 : decode m_MO_reaches.2.1 10 = .ok (.iaload, 1) := by decide +kernel
theorem d_MO_reaches_11 : decode m_MO_reaches.2.1 11 = .ok (.iconst 1, 1) := by decide +kernel
theorem d_MO_reaches_12 : decode m_MO_reaches.2.1 12 = .ok (.iand, 1) := by decide +kernel
theorem d_MO_reaches_13 : decode m_MO_reaches.2.1 13 = .ok (.ifCond .eq 7, 3) := by decide +kernel
theorem d_MO_reaches_16 : decode m_MO_reaches.2.1 16 = .ok (.iconst 1, 1) := by decide +kernel
theorem d_MO_reaches_17 : decode m_MO_reaches.2.1 17 = .ok (.goto 4, 3) := by decide +kernel
theorem d_MO_reaches_20 : decode m_MO_reaches.2.1 20 = .ok (.iconst 0, 1) := by decide +kernel
theorem d_MO_reaches_21 : decode m_MO_reaches.2.1 21 = .ok (.ireturn, 1) := by decide +kernel
theorem d_MO_reaches_22 : decode m_MO_reaches.2.1 22 = .ok (.aload_n 0, 1) := by decide +kernel
theorem d_MO_reaches_23 : decode m_MO_reaches.2.1 23 = .ok (.getfield 60, 3) := by decide +kernel
theorem d_MO_reaches_26 : decode m_MO_reaches.2.1 26 = .ok (.iload_n 1, 1) := by decide +kernel
theorem d_MO_reaches_27 : decode m_MO_reaches.2.1 27 = .ok (.iaload, 1) := by decide +kernel
theorem d_MO_reaches_28 : decode m_MO_reaches.2.1 28 = .ok (.aload_n 0, 1) := by decide +kernel
theorem d_MO_reaches_29 : decode m_MO_reaches.2.1 29 = .ok (.getfield 29, 3) := by decide +kernel
theorem d_MO_reaches_32 : decode m_MO_reaches.2.1 32 = .ok (.iload_n 3, 1) := by decide +kernel
theorem d_MO_reaches_33 : decode m_MO_reaches.2.1 33 = .ok (.baload, 1) := by decide +kernel
theorem d_MO_reaches_34 : decode m_MO_reaches.2.1 34 = .ok (.ifCond .eq 7, 3) := by decide +kernel
theorem d_MO_reaches_37 : decode m_MO_reaches.2.1 37 = .ok (.iconst 2, 1) := by decide +kernel
theorem d_MO_reaches_38 : decode m_MO_reaches.2.1 38 = .ok (.goto 4, 3) := by decide +kernel
theorem d_MO_reaches_41 : decode m_MO_reaches.2.1 41 = .ok (.iconst 4, 1) := by decide +kernel
theorem d_MO_reaches_42 : decode m_MO_reaches.2.1 42 = .ok (.iand, 1) := by decide +kernel
theorem d_MO_reaches_43 : decode m_MO_reaches.2.1 43 = .ok (.ifCond .eq 29, 3) := by decide +kernel
theorem d_MO_reaches_46 : decode m_MO_reaches.2.1 46 = .ok (.aload_n 0, 1) := by decide +kernel
theorem d_MO_reaches_47 : decode m_MO_reaches.2.1 47 = .ok (.getfield 60, 3) := by decide +kernel
theorem d_MO_reaches_50 : decode m_MO_reaches.2.1 50 = .ok (.iload_n 1, 1) := by decide +kernel
theorem d_MO_reaches_51 : decode m_MO_reaches.2.1 51 = .ok (.iaload, 1) := by decide +kernel
theorem d_MO_reaches_52 : decode m_MO_reaches.2.1 52 = .ok (.bipush 8, 2) := by decide +kernel
theorem d_MO_reaches_54 : decode m_MO_reaches.2.1 54 = .ok (.iand, 1) := by decide +kernel
theorem d_MO_reaches_55 : decode m_MO_reaches.2.1 55 = .ok (.ifCond .eq 13, 3) := by decide +kernel
theorem d_MO_reaches_58 : decode m_MO_reaches.2.1 58 = .ok (.aload_n 0, 1) := by decide +kernel
theorem d_MO_reaches_59 : decode m_MO_reaches.2.1 59 = .ok (.getfield 38, 3) := by decide +kernel
theorem d_MO_reaches_62 : decode m_MO_reaches.2.1 62 = .ok (.iload_n 3, 1) := by decide +kernel
theorem d_MO_reaches_63 : decode m_MO_reaches.2.1 63 = .ok (.iaload, 1) := by decide +kernel
theorem d_MO_reaches_64 : decode m_MO_reaches.2.1 64 = .ok (.iload_n 2, 1) := by decide +kernel
theorem d_MO_reaches_65 : decode m_MO_reaches.2.1 65 = .ok (.if_icmp .ne 7, 3) := by decide +kernel
theorem d_MO_reaches_68 : decode m_MO_reaches.2.1 68 = .ok (.iconst 1, 1) := by decide +kernel
theorem d_MO_reaches_69 : decode m_MO_reaches.2.1 69 = .ok (.goto 4, 3) := by decide +kernel
theorem d_MO_reaches_72 : decode m_MO_reaches.2.1 72 = .ok (.iconst 0, 1) := by decide +kernel
theorem d_MO_reaches_73 : decode m_MO_reaches.2.1 73 = .ok (.ireturn, 1) := by decide +kernel
theorem k_MO_reaches : fw_cal m_MO_reaches := ⟨by decide +kernel, by decide +kernel, (fw_t 7 (by decide +kernel)), Or.inl ⟨rfl, fw_t 826 (by decide +kernel)⟩⟩
abbrev m_MO_matches : fw_M := (⟨"FolderRightsModel", "matches", "(III)Z"⟩, prog_6_method_30_code, 4, (some .boolean), { frames := 1, cells := 0, slots := 0, locals := 22 }, [])
theorem d_MO_matches_0 : decode m_MO_matches.2.1 0 = .ok (.aload_n 0, 1) := by decide +kernel
theorem d_MO_matches_1 : decode m_MO_matches.2.1 1 = .ok (.getfield 57, 3) := by decide +kernel
theorem d_MO_matches_4 : decode m_MO_matches.2.1 4 = .ok (.iload_n 1, 1) := by decide +kernel
theorem d_MO_matches_5 : decode m_MO_matches.2.1 5 = .ok (.iaload, 1) := by decide +kernel
theorem d_MO_matches_6 : decode m_MO_matches.2.1 6 = .ok (.iload_n 3, 1) := by decide +kernel
theorem d_MO_matches_7 : decode m_MO_matches.2.1 7 = .ok (.ishr, 1) := by decide +kernel
theorem d_MO_matches_8 : decode m_MO_matches.2.1 8 = .ok (.iconst 1, 1) := by decide +kernel
theorem d_MO_matches_9 : decode m_MO_matches.2.1 9 = .ok (.iand, 1) := by decide +kernel
theorem d_MO_matches_10 : decode m_MO_matches.2.1 10 = .ok (.iconst 1, 1) := by decide +kernel
theorem d_MO_matches_11 : decode m_MO_matches.2.1 11 = .ok (.if_icmp .ne 43, 3) := by decide +kernel
theorem d_MO_matches_14 : decode m_MO_matches.2.1 14 = .ok (.aload_n 0, 1) := by decide +kernel
theorem d_MO_matches_15 : decode m_MO_matches.2.1 15 = .ok (.getfield 51, 3) := by decide +kernel
theorem d_MO_matches_18 : decode m_MO_matches.2.1 18 = .ok (.iload_n 1, 1) := by decide +kernel
theorem d_MO_matches_19 : decode m_MO_matches.2.1 19 = .ok (.baload, 1) := by decide +kernel
theorem d_MO_matches_20 : decode m_MO_matches.2.1 20 = .ok (.ifCond .eq 20, 3) := by decide +kernel
theorem d_MO_matches_23 : decode m_MO_matches.2.1 23 = .ok (.aload_n 0, 1) := by decide +kernel
theorem d_MO_matches_24 : decode m_MO_matches.2.1 24 = .ok (.aload_n 0, 1) := by decide +kernel
theorem d_MO_matches_25 : decode m_MO_matches.2.1 25 = .ok (.getfield 54, 3) := by decide +kernel
theorem d_MO_matches_28 : decode m_MO_matches.2.1 28 = .ok (.iload_n 1, 1) := by decide +kernel
theorem d_MO_matches_29 : decode m_MO_matches.2.1 29 = .ok (.iaload, 1) := by decide +kernel
theorem d_MO_matches_30 : decode m_MO_matches.2.1 30 = .ok (.iload_n 2, 1) := by decide +kernel
theorem d_MO_matches_31 : decode m_MO_matches.2.1 31 = .ok (.invokevirtual 120, 3) := by decide +kernel
theorem d_MO_matches_34 : decode m_MO_matches.2.1 34 = .ok (.ifCond .eq 20, 3) := by decide +kernel
theorem d_MO_matches_37 : decode m_MO_matches.2.1 37 = .ok (.goto 13, 3) := by decide +kernel
theorem d_MO_matches_40 : decode m_MO_matches.2.1 40 = .ok (.aload_n 0, 1) := by decide +kernel
theorem d_MO_matches_41 : decode m_MO_matches.2.1 41 = .ok (.getfield 54, 3) := by decide +kernel
theorem d_MO_matches_44 : decode m_MO_matches.2.1 44 = .ok (.iload_n 1, 1) := by decide +kernel
theorem d_MO_matches_45 : decode m_MO_matches.2.1 45 = .ok (.iaload, 1) := by decide +kernel
theorem d_MO_matches_46 : decode m_MO_matches.2.1 46 = .ok (.iload_n 2, 1) := by decide +kernel
theorem d_MO_matches_47 : decode m_MO_matches.2.1 47 = .ok (.if_icmp .ne 7, 3) := by decide +kernel
theorem d_MO_matches_50 : decode m_MO_matches.2.1 50 = .ok (.iconst 1, 1) := by decide +kernel
theorem d_MO_matches_51 : decode m_MO_matches.2.1 51 = .ok (.goto 4, 3) := by decide +kernel
theorem d_MO_matches_54 : decode m_MO_matches.2.1 54 = .ok (.iconst 0, 1) := by decide +kernel
theorem d_MO_matches_55 : decode m_MO_matches.2.1 55 = .ok (.ireturn, 1) := by decide +kernel
theorem k_MO_matches : fw_cal m_MO_matches := ⟨by decide +kernel, by decide +kernel, (fw_t 7 (by decide +kernel)), Or.inl ⟨rfl, fw_t 830 (by decide +kernel)⟩⟩
abbrev m_MO_isIn : fw_M := (⟨"FolderRightsModel", "isIn", "(II)Z"⟩, prog_6_method_14_code, 3, (some .boolean), { frames := 0, cells := 0, slots := 0, locals := 0 }, [])
theorem d_MO_isIn_0 : decode m_MO_isIn.2.1 0 = .ok (.aload_n 0, 1) := by decide +kernel
theorem d_MO_isIn_1 : decode m_MO_isIn.2.1 1 = .ok (.getfield 23, 3) := by decide +kernel
theorem d_MO_isIn_4 : decode m_MO_isIn.2.1 4 = .ok (.bipush 60, 2) := by decide +kernel
theorem d_MO_isIn_6 : decode m_MO_isIn.2.1 6 = .ok (.iload_n 1, 1) := by decide +kernel
theorem d_MO_isIn_7 : decode m_MO_isIn.2.1 7 = .ok (.imul, 1) := by decide +kernel
theorem d_MO_isIn_8 : decode m_MO_isIn.2.1 8 = .ok (.iload_n 2, 1) := by decide +kernel
theorem d_MO_isIn_9 : decode m_MO_isIn.2.1 9 = .ok (.iadd, 1) := by decide +kernel
theorem d_MO_isIn_10 : decode m_MO_isIn.2.1 10 = .ok (.baload, 1) := by decide +kernel
theorem d_MO_isIn_11 : decode m_MO_isIn.2.1 11 = .ok (.ireturn, 1) := by decide +kernel
theorem k_MO_isIn : fw_cal m_MO_isIn := ⟨by decide +kernel, by decide +kernel, (fw_t 7 (by decide +kernel)), Or.inl ⟨rfl, fw_t 834 (by decide +kernel)⟩⟩
abbrev m_MO_explain : fw_M := (⟨"FolderRightsModel", "explain", "(IIII)I"⟩, prog_6_method_35_code, 6, (some .int), { frames := 4, cells := 0, slots := 0, locals := 98 }, [])
theorem d_MO_explain_0 : decode m_MO_explain.2.1 0 = .ok (.aload_n 0, 1) := by decide +kernel
theorem d_MO_explain_1 : decode m_MO_explain.2.1 1 = .ok (.aload_n 0, 1) := by decide +kernel
theorem d_MO_explain_2 : decode m_MO_explain.2.1 2 = .ok (.iload_n 1, 1) := by decide +kernel
theorem d_MO_explain_3 : decode m_MO_explain.2.1 3 = .ok (.invokevirtual 77, 3) := by decide +kernel
theorem d_MO_explain_6 : decode m_MO_explain.2.1 6 = .ok (.ifCond .eq 15, 3) := by decide +kernel
theorem d_MO_explain_9 : decode m_MO_explain.2.1 9 = .ok (.aload_n 0, 1) := by decide +kernel
theorem d_MO_explain_10 : decode m_MO_explain.2.1 10 = .ok (.iload_n 2, 1) := by decide +kernel
theorem d_MO_explain_11 : decode m_MO_explain.2.1 11 = .ok (.invokevirtual 91, 3) := by decide +kernel
theorem d_MO_explain_14 : decode m_MO_explain.2.1 14 = .ok (.ifCond .eq 7, 3) := by decide +kernel
theorem d_MO_explain_17 : decode m_MO_explain.2.1 17 = .ok (.iconst 1, 1) := by decide +kernel
theorem d_MO_explain_18 : decode m_MO_explain.2.1 18 = .ok (.goto 4, 3) := by decide +kernel
theorem d_MO_explain_21 : decode m_MO_explain.2.1 21 = .ok (.iconst 0, 1) := by decide +kernel
theorem d_MO_explain_22 : decode m_MO_explain.2.1 22 = .ok (.iload_n 3, 1) := by decide +kernel
theorem d_MO_explain_23 : decode m_MO_explain.2.1 23 = .ok (.iconst 0, 1) := by decide +kernel
theorem d_MO_explain_24 : decode m_MO_explain.2.1 24 = .ok (.bipush 7, 2) := by decide +kernel
theorem d_MO_explain_26 : decode m_MO_explain.2.1 26 = .ok (.invokestatic 112, 3) := by decide +kernel
theorem d_MO_explain_29 : decode m_MO_explain.2.1 29 = .ok (.ifCond .eq 17, 3) := by decide +kernel
theorem d_MO_explain_32 : decode m_MO_explain.2.1 32 = .ok (.iload 4, 2) := by decide +kernel
theorem d_MO_explain_34 : decode m_MO_explain.2.1 34 = .ok (.iconst 0, 1) := by decide +kernel
theorem d_MO_explain_35 : decode m_MO_explain.2.1 35 = .ok (.iconst 2, 1) := by decide +kernel
theorem d_MO_explain_36 : decode m_MO_explain.2.1 36 = .ok (.invokestatic 112, 3) := by decide +kernel
theorem d_MO_explain_39 : decode m_MO_explain.2.1 39 = .ok (.ifCond .eq 7, 3) := by decide +kernel
theorem d_MO_explain_42 : decode m_MO_explain.2.1 42 = .ok (.iconst 1, 1) := by decide +kernel
theorem d_MO_explain_43 : decode m_MO_explain.2.1 43 = .ok (.goto 4, 3) := by decide +kernel
theorem d_MO_explain_46 : decode m_MO_explain.2.1 46 = .ok (.iconst 0, 1) := by decide +kernel
theorem d_MO_explain_47 : decode m_MO_explain.2.1 47 = .ok (.iconst 1, 1) := by decide +kernel
theorem d_MO_explain_48 : decode m_MO_explain.2.1 48 = .ok (.invokevirtual 69, 3) := by decide +kernel
theorem d_MO_explain_51 : decode m_MO_explain.2.1 51 = .ok (.ifCond .ne 5, 3) := by decide +kernel
theorem d_MO_explain_54 : decode m_MO_explain.2.1 54 = .ok (.iconst 0, 1) := by decide +kernel
theorem d_MO_explain_55 : decode m_MO_explain.2.1 55 = .ok (.ireturn, 1) := by decide +kernel
theorem d_MO_explain_56 : decode m_MO_explain.2.1 56 = .ok (.aload_n 0, 1) := by decide +kernel
theorem d_MO_explain_57 : decode m_MO_explain.2.1 57 = .ok (.getfield 35, 3) := by decide +kernel
theorem d_MO_explain_60 : decode m_MO_explain.2.1 60 = .ok (.iload_n 2, 1) := by decide +kernel
theorem d_MO_explain_61 : decode m_MO_explain.2.1 61 = .ok (.iconst 0, 1) := by decide +kernel
theorem d_MO_explain_62 : decode m_MO_explain.2.1 62 = .ok (.bastore, 1) := by decide +kernel
theorem d_MO_explain_63 : decode m_MO_explain.2.1 63 = .ok (.aload_n 0, 1) := by decide +kernel
theorem d_MO_explain_64 : decode m_MO_explain.2.1 64 = .ok (.iload_n 1, 1) := by decide +kernel
theorem d_MO_explain_65 : decode m_MO_explain.2.1 65 = .ok (.iload_n 2, 1) := by decide +kernel
theorem d_MO_explain_66 : decode m_MO_explain.2.1 66 = .ok (.iload_n 3, 1) := by decide +kernel
theorem d_MO_explain_67 : decode m_MO_explain.2.1 67 = .ok (.invokevirtual 142, 3) := by decide +kernel
theorem d_MO_explain_70 : decode m_MO_explain.2.1 70 = .ok (.istore 5, 2) := by decide +kernel
theorem d_MO_explain_72 : decode m_MO_explain.2.1 72 = .ok (.iload 4, 2) := by decide +kernel
theorem d_MO_explain_74 : decode m_MO_explain.2.1 74 = .ok (.ifCond .ne 10, 3) := by decide +kernel
theorem d_MO_explain_77 : decode m_MO_explain.2.1 77 = .ok (.aload_n 0, 1) := by decide +kernel
theorem d_MO_explain_78 : decode m_MO_explain.2.1 78 = .ok (.getfield 135, 3) := by decide +kernel
theorem d_MO_explain_81 : decode m_MO_explain.2.1 81 = .ok (.goto 20, 3) := by decide +kernel
theorem d_MO_explain_84 : decode m_MO_explain.2.1 84 = .ok (.iload 4, 2) := by decide +kernel
theorem d_MO_explain_86 : decode m_MO_explain.2.1 86 = .ok (.iconst 1, 1) := by decide +kernel
theorem d_MO_explain_87 : decode m_MO_explain.2.1 87 = .ok (.if_icmp .ne 10, 3) := by decide +kernel
theorem d_MO_explain_90 : decode m_MO_explain.2.1 90 = .ok (.aload_n 0, 1) := by decide +kernel
theorem d_MO_explain_91 : decode m_MO_explain.2.1 91 = .ok (.getfield 129, 3) := by decide +kernel
theorem d_MO_explain_94 : decode m_MO_explain.2.1 94 = .ok (.goto 7, 3) := by decide +kernel
theorem d_MO_explain_97 : decode m_MO_explain.2.1 97 = .ok (.aload_n 0, 1) := by decide +kernel
theorem d_MO_explain_98 : decode m_MO_explain.2.1 98 = .ok (.getfield 132, 3) := by decide +kernel
theorem d_MO_explain_101 : decode m_MO_explain.2.1 101 = .ok (.ireturn, 1) := by decide +kernel
theorem k_MO_explain : fw_cal m_MO_explain := ⟨by decide +kernel, by decide +kernel, (fw_t 7 (by decide +kernel)), Or.inl ⟨rfl, fw_t 838 (by decide +kernel)⟩⟩
abbrev m_MO_who : fw_M := (⟨"FolderRightsModel", "who", "(III)I"⟩, prog_6_method_36_code, 6, (some .int), { frames := 4, cells := 0, slots := 0, locals := 98 }, [])
theorem d_MO_who_0 : decode m_MO_who.2.1 0 = .ok (.aload_n 0, 1) := by decide +kernel
theorem d_MO_who_1 : decode m_MO_who.2.1 1 = .ok (.aload_n 0, 1) := by decide +kernel
theorem d_MO_who_2 : decode m_MO_who.2.1 2 = .ok (.iload_n 1, 1) := by decide +kernel
theorem d_MO_who_3 : decode m_MO_who.2.1 3 = .ok (.invokevirtual 91, 3) := by decide +kernel
theorem d_MO_who_6 : decode m_MO_who.2.1 6 = .ok (.iload_n 2, 1) := by decide +kernel
theorem d_MO_who_7 : decode m_MO_who.2.1 7 = .ok (.iconst 0, 1) := by decide +kernel
theorem d_MO_who_8 : decode m_MO_who.2.1 8 = .ok (.bipush 7, 2) := by decide +kernel
theorem d_MO_who_10 : decode m_MO_who.2.1 10 = .ok (.invokestatic 112, 3) := by decide +kernel
theorem d_MO_who_13 : decode m_MO_who.2.1 13 = .ok (.ifCond .eq 11, 3) := by decide +kernel
theorem d_MO_who_16 : decode m_MO_who.2.1 16 = .ok (.iload_n 3, 1) := by decide +kernel
theorem d_MO_who_17 : decode m_MO_who.2.1 17 = .ok (.ifCond .lt 7, 3) := by decide +kernel
theorem d_MO_who_20 : decode m_MO_who.2.1 20 = .ok (.iconst 1, 1) := by decide +kernel
theorem d_MO_who_21 : decode m_MO_who.2.1 21 = .ok (.goto 4, 3) := by decide +kernel
theorem d_MO_who_24 : decode m_MO_who.2.1 24 = .ok (.iconst 0, 1) := by decide +kernel
theorem d_MO_who_25 : decode m_MO_who.2.1 25 = .ok (.iconst 1, 1) := by decide +kernel
theorem d_MO_who_26 : decode m_MO_who.2.1 26 = .ok (.invokevirtual 69, 3) := by decide +kernel
theorem d_MO_who_29 : decode m_MO_who.2.1 29 = .ok (.ifCond .ne 5, 3) := by decide +kernel
theorem d_MO_who_32 : decode m_MO_who.2.1 32 = .ok (.iconst 0, 1) := by decide +kernel
theorem d_MO_who_33 : decode m_MO_who.2.1 33 = .ok (.ireturn, 1) := by decide +kernel
theorem d_MO_who_34 : decode m_MO_who.2.1 34 = .ok (.aload_n 0, 1) := by decide +kernel
theorem d_MO_who_35 : decode m_MO_who.2.1 35 = .ok (.getfield 35, 3) := by decide +kernel
theorem d_MO_who_38 : decode m_MO_who.2.1 38 = .ok (.iload_n 1, 1) := by decide +kernel
theorem d_MO_who_39 : decode m_MO_who.2.1 39 = .ok (.iconst 0, 1) := by decide +kernel
theorem d_MO_who_40 : decode m_MO_who.2.1 40 = .ok (.bastore, 1) := by decide +kernel
theorem d_MO_who_41 : decode m_MO_who.2.1 41 = .ok (.iload_n 3, 1) := by decide +kernel
theorem d_MO_who_42 : decode m_MO_who.2.1 42 = .ok (.istore 4, 2) := by decide +kernel
theorem d_MO_who_44 : decode m_MO_who.2.1 44 = .ok (.iconst 0, 1) := by decide +kernel
theorem d_MO_who_45 : decode m_MO_who.2.1 45 = .ok (.istore 5, 2) := by decide +kernel
theorem d_MO_who_47 : decode m_MO_who.2.1 47 = .ok (.iload 5, 2) := by decide +kernel
theorem d_MO_who_49 : decode m_MO_who.2.1 49 = .ok (.aload_n 0, 1) := by decide +kernel
theorem d_MO_who_50 : decode m_MO_who.2.1 50 = .ok (.getfield 7, 3) := by decide +kernel
theorem d_MO_who_53 : decode m_MO_who.2.1 53 = .ok (.if_icmp .ge 39, 3) := by decide +kernel
theorem d_MO_who_56 : decode m_MO_who.2.1 56 = .ok (.aload_n 0, 1) := by decide +kernel
theorem d_MO_who_57 : decode m_MO_who.2.1 57 = .ok (.iload 5, 2) := by decide +kernel
theorem d_MO_who_59 : decode m_MO_who.2.1 59 = .ok (.iload_n 1, 1) := by decide +kernel
theorem d_MO_who_60 : decode m_MO_who.2.1 60 = .ok (.iload_n 2, 1) := by decide +kernel
theorem d_MO_who_61 : decode m_MO_who.2.1 61 = .ok (.invokevirtual 142, 3) := by decide +kernel
theorem d_MO_who_64 : decode m_MO_who.2.1 64 = .ok (.ifCond .eq 10, 3) := by decide +kernel
theorem d_MO_who_67 : decode m_MO_who.2.1 67 = .ok (.iload 4, 2) := by decide +kernel
theorem d_MO_who_69 : decode m_MO_who.2.1 69 = .ok (.iconst 1, 1) := by decide +kernel
theorem d_MO_who_70 : decode m_MO_who.2.1 70 = .ok (.isub, 1) := by decide +kernel
theorem d_MO_who_71 : decode m_MO_who.2.1 71 = .ok (.goto 5, 3) := by decide +kernel
theorem d_MO_who_74 : decode m_MO_who.2.1 74 = .ok (.iload 4, 2) := by decide +kernel
theorem d_MO_who_76 : decode m_MO_who.2.1 76 = .ok (.istore 4, 2) := by decide +kernel
theorem d_MO_who_78 : decode m_MO_who.2.1 78 = .ok (.iload 4, 2) := by decide +kernel
theorem d_MO_who_80 : decode m_MO_who.2.1 80 = .ok (.ifCond .ge 6, 3) := by decide +kernel
theorem d_MO_who_83 : decode m_MO_who.2.1 83 = .ok (.iload 5, 2) := by decide +kernel
theorem d_MO_who_85 : decode m_MO_who.2.1 85 = .ok (.ireturn, 1) := by decide +kernel
theorem d_MO_who_86 : decode m_MO_who.2.1 86 = .ok (.iinc 5 1, 3) := by decide +kernel
theorem d_MO_who_89 : decode m_MO_who.2.1 89 = .ok (.goto (-42), 3) := by decide +kernel
theorem d_MO_who_92 : decode m_MO_who.2.1 92 = .ok (.iconst (-1), 1) := by decide +kernel
theorem d_MO_who_93 : decode m_MO_who.2.1 93 = .ok (.ireturn, 1) := by decide +kernel
theorem k_MO_who : fw_cal m_MO_who := ⟨by decide +kernel, by decide +kernel, (fw_t 7 (by decide +kernel)), Or.inl ⟨rfl, fw_t 842 (by decide +kernel)⟩⟩
abbrev m_MO_where : fw_M := (⟨"FolderRightsModel", "where", "(III)I"⟩, prog_6_method_37_code, 6, (some .int), { frames := 4, cells := 0, slots := 0, locals := 98 }, [])
theorem d_MO_where_0 : decode m_MO_where.2.1 0 = .ok (.aload_n 0, 1) := by decide +kernel
theorem d_MO_where_1 : decode m_MO_where.2.1 1 = .ok (.aload_n 0, 1) := by decide +kernel
theorem d_MO_where_2 : decode m_MO_where.2.1 2 = .ok (.iload_n 1, 1) := by decide +kernel
theorem d_MO_where_3 : decode m_MO_where.2.1 3 = .ok (.invokevirtual 77, 3) := by decide +kernel
theorem d_MO_where_6 : decode m_MO_where.2.1 6 = .ok (.iload_n 2, 1) := by decide +kernel
theorem d_MO_where_7 : decode m_MO_where.2.1 7 = .ok (.iconst 0, 1) := by decide +kernel
theorem d_MO_where_8 : decode m_MO_where.2.1 8 = .ok (.bipush 7, 2) := by decide +kernel
theorem d_MO_where_10 : decode m_MO_where.2.1 10 = .ok (.invokestatic 112, 3) := by decide +kernel
theorem d_MO_where_13 : decode m_MO_where.2.1 13 = .ok (.ifCond .eq 11, 3) := by decide +kernel
theorem d_MO_where_16 : decode m_MO_where.2.1 16 = .ok (.iload_n 3, 1) := by decide +kernel
theorem d_MO_where_17 : decode m_MO_where.2.1 17 = .ok (.ifCond .lt 7, 3) := by decide +kernel
theorem d_MO_where_20 : decode m_MO_where.2.1 20 = .ok (.iconst 1, 1) := by decide +kernel
theorem d_MO_where_21 : decode m_MO_where.2.1 21 = .ok (.goto 4, 3) := by decide +kernel
theorem d_MO_where_24 : decode m_MO_where.2.1 24 = .ok (.iconst 0, 1) := by decide +kernel
theorem d_MO_where_25 : decode m_MO_where.2.1 25 = .ok (.iconst 1, 1) := by decide +kernel
theorem d_MO_where_26 : decode m_MO_where.2.1 26 = .ok (.invokevirtual 69, 3) := by decide +kernel
theorem d_MO_where_29 : decode m_MO_where.2.1 29 = .ok (.ifCond .ne 5, 3) := by decide +kernel
theorem d_MO_where_32 : decode m_MO_where.2.1 32 = .ok (.iconst 0, 1) := by decide +kernel
theorem d_MO_where_33 : decode m_MO_where.2.1 33 = .ok (.ireturn, 1) := by decide +kernel
theorem d_MO_where_34 : decode m_MO_where.2.1 34 = .ok (.iload_n 3, 1) := by decide +kernel
theorem d_MO_where_35 : decode m_MO_where.2.1 35 = .ok (.istore 4, 2) := by decide +kernel
theorem d_MO_where_37 : decode m_MO_where.2.1 37 = .ok (.iconst 0, 1) := by decide +kernel
theorem d_MO_where_38 : decode m_MO_where.2.1 38 = .ok (.istore 5, 2) := by decide +kernel
theorem d_MO_where_40 : decode m_MO_where.2.1 40 = .ok (.iload 5, 2) := by decide +kernel
theorem d_MO_where_42 : decode m_MO_where.2.1 42 = .ok (.sipush 150, 3) := by decide +kernel
theorem d_MO_where_45 : decode m_MO_where.2.1 45 = .ok (.if_icmp .ge 57, 3) := by decide +kernel
theorem d_MO_where_48 : decode m_MO_where.2.1 48 = .ok (.aload_n 0, 1) := by decide +kernel
theorem d_MO_where_49 : decode m_MO_where.2.1 49 = .ok (.getfield 26, 3) := by decide +kernel
theorem d_MO_where_52 : decode m_MO_where.2.1 52 = .ok (.iload 5, 2) := by decide +kernel
theorem d_MO_where_54 : decode m_MO_where.2.1 54 = .ok (.baload, 1) := by decide +kernel
theorem d_MO_where_55 : decode m_MO_where.2.1 55 = .ok (.ifCond .eq 33, 3) := by decide +kernel
theorem d_MO_where_58 : decode m_MO_where.2.1 58 = .ok (.aload_n 0, 1) := by decide +kernel
theorem d_MO_where_59 : decode m_MO_where.2.1 59 = .ok (.getfield 35, 3) := by decide +kernel
theorem d_MO_where_62 : decode m_MO_where.2.1 62 = .ok (.iload 5, 2) := by decide +kernel
theorem d_MO_where_64 : decode m_MO_where.2.1 64 = .ok (.iconst 0, 1) := by decide +kernel
theorem d_MO_where_65 : decode m_MO_where.2.1 65 = .ok (.bastore, 1) := by decide +kernel
theorem d_MO_where_66 : decode m_MO_where.2.1 66 = .ok (.aload_n 0, 1) := by decide +kernel
theorem d_MO_where_67 : decode m_MO_where.2.1 67 = .ok (.iload_n 1, 1) := by decide +kernel
theorem d_MO_where_68 : decode m_MO_where.2.1 68 = .ok (.iload 5, 2) := by decide +kernel
theorem d_MO_where_70 : decode m_MO_where.2.1 70 = .ok (.iload_n 2, 1) := by decide +kernel
theorem d_MO_where_71 : decode m_MO_where.2.1 71 = .ok (.invokevirtual 142, 3) := by decide +kernel
theorem d_MO_where_74 : decode m_MO_where.2.1 74 = .ok (.ifCond .eq 10, 3) := by decide +kernel
theorem d_MO_where_77 : decode m_MO_where.2.1 77 = .ok (.iload 4, 2) := by decide +kernel
theorem d_MO_where_79 : decode m_MO_where.2.1 79 = .ok (.iconst 1, 1) := by decide +kernel
theorem d_MO_where_80 : decode m_MO_where.2.1 80 = .ok (.isub, 1) := by decide +kernel
theorem d_MO_where_81 : decode m_MO_where.2.1 81 = .ok (.goto 5, 3) := by decide +kernel
theorem d_MO_where_84 : decode m_MO_where.2.1 84 = .ok (.iload 4, 2) := by decide +kernel
theorem d_MO_where_86 : decode m_MO_where.2.1 86 = .ok (.istore 4, 2) := by decide +kernel
theorem d_MO_where_88 : decode m_MO_where.2.1 88 = .ok (.iload 4, 2) := by decide +kernel
theorem d_MO_where_90 : decode m_MO_where.2.1 90 = .ok (.ifCond .ge 6, 3) := by decide +kernel
theorem d_MO_where_93 : decode m_MO_where.2.1 93 = .ok (.iload 5, 2) := by decide +kernel
theorem d_MO_where_95 : decode m_MO_where.2.1 95 = .ok (.ireturn, 1) := by decide +kernel
theorem d_MO_where_96 : decode m_MO_where.2.1 96 = .ok (.iinc 5 1, 3) := by decide +kernel
theorem d_MO_where_99 : decode m_MO_where.2.1 99 = .ok (.goto (-59), 3) := by decide +kernel
theorem d_MO_where_102 : decode m_MO_where.2.1 102 = .ok (.iconst (-1), 1) := by decide +kernel
theorem d_MO_where_103 : decode m_MO_where.2.1 103 = .ok (.ireturn, 1) := by decide +kernel
theorem k_MO_where : fw_cal m_MO_where := ⟨by decide +kernel, by decide +kernel, (fw_t 7 (by decide +kernel)), Or.inl ⟨rfl, fw_t 846 (by decide +kernel)⟩⟩
abbrev m_MO_same : fw_M := (⟨"FolderRightsModel", "same", "(II)Z"⟩, prog_6_method_38_code, 5, (some .boolean), { frames := 5, cells := 0, slots := 0, locals := 122 }, [])
theorem d_MO_same_0 : decode m_MO_same.2.1 0 = .ok (.aload_n 0, 1) := by decide +kernel
theorem d_MO_same_1 : decode m_MO_same.2.1 1 = .ok (.aload_n 0, 1) := by decide +kernel
theorem d_MO_same_2 : decode m_MO_same.2.1 2 = .ok (.iload_n 1, 1) := by decide +kernel
theorem d_MO_same_3 : decode m_MO_same.2.1 3 = .ok (.invokevirtual 91, 3) := by decide +kernel
theorem d_MO_same_6 : decode m_MO_same.2.1 6 = .ok (.ifCond .eq 15, 3) := by decide +kernel
theorem d_MO_same_9 : decode m_MO_same.2.1 9 = .ok (.aload_n 0, 1) := by decide +kernel
theorem d_MO_same_10 : decode m_MO_same.2.1 10 = .ok (.iload_n 2, 1) := by decide +kernel
theorem d_MO_same_11 : decode m_MO_same.2.1 11 = .ok (.invokevirtual 91, 3) := by decide +kernel
theorem d_MO_same_14 : decode m_MO_same.2.1 14 = .ok (.ifCond .eq 7, 3) := by decide +kernel
theorem d_MO_same_17 : decode m_MO_same.2.1 17 = .ok (.iconst 1, 1) := by decide +kernel
theorem d_MO_same_18 : decode m_MO_same.2.1 18 = .ok (.goto 4, 3) := by decide +kernel
theorem d_MO_same_21 : decode m_MO_same.2.1 21 = .ok (.iconst 0, 1) := by decide +kernel
theorem d_MO_same_22 : decode m_MO_same.2.1 22 = .ok (.iconst 1, 1) := by decide +kernel
theorem d_MO_same_23 : decode m_MO_same.2.1 23 = .ok (.iconst 1, 1) := by decide +kernel
theorem d_MO_same_24 : decode m_MO_same.2.1 24 = .ok (.invokevirtual 69, 3) := by decide +kernel
theorem d_MO_same_27 : decode m_MO_same.2.1 27 = .ok (.ifCond .ne 5, 3) := by decide +kernel
theorem d_MO_same_30 : decode m_MO_same.2.1 30 = .ok (.iconst 0, 1) := by decide +kernel
theorem d_MO_same_31 : decode m_MO_same.2.1 31 = .ok (.ireturn, 1) := by decide +kernel
theorem d_MO_same_32 : decode m_MO_same.2.1 32 = .ok (.aload_n 0, 1) := by decide +kernel
theorem d_MO_same_33 : decode m_MO_same.2.1 33 = .ok (.getfield 35, 3) := by decide +kernel
theorem d_MO_same_36 : decode m_MO_same.2.1 36 = .ok (.iload_n 1, 1) := by decide +kernel
theorem d_MO_same_37 : decode m_MO_same.2.1 37 = .ok (.iconst 0, 1) := by decide +kernel
theorem d_MO_same_38 : decode m_MO_same.2.1 38 = .ok (.bastore, 1) := by decide +kernel
theorem d_MO_same_39 : decode m_MO_same.2.1 39 = .ok (.aload_n 0, 1) := by decide +kernel
theorem d_MO_same_40 : decode m_MO_same.2.1 40 = .ok (.getfield 35, 3) := by decide +kernel
theorem d_MO_same_43 : decode m_MO_same.2.1 43 = .ok (.iload_n 2, 1) := by decide +kernel
theorem d_MO_same_44 : decode m_MO_same.2.1 44 = .ok (.iconst 0, 1) := by decide +kernel
theorem d_MO_same_45 : decode m_MO_same.2.1 45 = .ok (.bastore, 1) := by decide +kernel
theorem d_MO_same_46 : decode m_MO_same.2.1 46 = .ok (.iconst 1, 1) := by decide +kernel
theorem d_MO_same_47 : decode m_MO_same.2.1 47 = .ok (.istore_n 3, 1) := by decide +kernel
theorem d_MO_same_48 : decode m_MO_same.2.1 48 = .ok (.iconst 0, 1) := by decide +kernel
theorem d_MO_same_49 : decode m_MO_same.2.1 49 = .ok (.istore 4, 2) := by decide +kernel
theorem d_MO_same_51 : decode m_MO_same.2.1 51 = .ok (.iload 4, 2) := by decide +kernel
theorem d_MO_same_53 : decode m_MO_same.2.1 53 = .ok (.aload_n 0, 1) := by decide +kernel
theorem d_MO_same_54 : decode m_MO_same.2.1 54 = .ok (.getfield 7, 3) := by decide +kernel
theorem d_MO_same_57 : decode m_MO_same.2.1 57 = .ok (.if_icmp .ge 36, 3) := by decide +kernel
theorem d_MO_same_60 : decode m_MO_same.2.1 60 = .ok (.iload_n 3, 1) := by decide +kernel
theorem d_MO_same_61 : decode m_MO_same.2.1 61 = .ok (.ifCond .eq 24, 3) := by decide +kernel
theorem d_MO_same_64 : decode m_MO_same.2.1 64 = .ok (.aload_n 0, 1) := by decide +kernel
theorem d_MO_same_65 : decode m_MO_same.2.1 65 = .ok (.iload 4, 2) := by decide +kernel
theorem d_MO_same_67 : decode m_MO_same.2.1 67 = .ok (.iload_n 1, 1) := by decide +kernel
theorem d_MO_same_68 : decode m_MO_same.2.1 68 = .ok (.invokevirtual 145, 3) := by decide +kernel
theorem d_MO_same_71 : decode m_MO_same.2.1 71 = .ok (.aload_n 0, 1) := by decide +kernel
theorem d_MO_same_72 : decode m_MO_same.2.1 72 = .ok (.iload 4, 2) := by decide +kernel
theorem d_MO_same_74 : decode m_MO_same.2.1 74 = .ok (.iload_n 2, 1) := by decide +kernel
theorem d_MO_same_75 : decode m_MO_same.2.1 75 = .ok (.invokevirtual 145, 3) := by decide +kernel
theorem d_MO_same_78 : decode m_MO_same.2.1 78 = .ok (.if_icmp .ne 7, 3) := by decide +kernel
theorem d_MO_same_81 : decode m_MO_same.2.1 81 = .ok (.iconst 1, 1) := by decide +kernel
theorem d_MO_same_82 : decode m_MO_same.2.1 82 = .ok (.goto 4, 3) := by decide +kernel
theorem d_MO_same_85 : decode m_MO_same.2.1 85 = .ok (.iconst 0, 1) := by decide +kernel
theorem d_MO_same_86 : decode m_MO_same.2.1 86 = .ok (.istore_n 3, 1) := by decide +kernel
theorem d_MO_same_87 : decode m_MO_same.2.1 87 = .ok (.iinc 4 1, 3) := by decide +kernel
theorem d_MO_same_90 : decode m_MO_same.2.1 90 = .ok (.goto (-39), 3) := by decide +kernel
theorem d_MO_same_93 : decode m_MO_same.2.1 93 = .ok (.iload_n 3, 1) := by decide +kernel
theorem d_MO_same_94 : decode m_MO_same.2.1 94 = .ok (.ireturn, 1) := by decide +kernel
theorem k_MO_same : fw_cal m_MO_same := ⟨by decide +kernel, by decide +kernel, (fw_t 7 (by decide +kernel)), Or.inl ⟨rfl, fw_t 850 (by decide +kernel)⟩⟩
abbrev m_MO_step : fw_M := (⟨"FolderRightsModel", "step", "()I"⟩, prog_6_method_39_code, 2, (some .int), { frames := 0, cells := 0, slots := 0, locals := 0 }, [])
theorem d_MO_step_0 : decode m_MO_step.2.1 0 = .ok (.aload_n 0, 1) := by decide +kernel
theorem d_MO_step_1 : decode m_MO_step.2.1 1 = .ok (.iconst 0, 1) := by decide +kernel
theorem d_MO_step_2 : decode m_MO_step.2.1 2 = .ok (.putfield 63, 3) := by decide +kernel
theorem d_MO_step_5 : decode m_MO_step.2.1 5 = .ok (.iconst 0, 1) := by decide +kernel
theorem d_MO_step_6 : decode m_MO_step.2.1 6 = .ok (.istore_n 1, 1) := by decide +kernel
theorem d_MO_step_7 : decode m_MO_step.2.1 7 = .ok (.iload_n 1, 1) := by decide +kernel
theorem d_MO_step_8 : decode m_MO_step.2.1 8 = .ok (.sipush 150, 3) := by decide +kernel
theorem d_MO_step_11 : decode m_MO_step.2.1 11 = .ok (.if_icmp .ge 27, 3) := by decide +kernel
theorem d_MO_step_14 : decode m_MO_step.2.1 14 = .ok (.aload_n 0, 1) := by decide +kernel
theorem d_MO_step_15 : decode m_MO_step.2.1 15 = .ok (.getfield 35, 3) := by decide +kernel
theorem d_MO_step_18 : decode m_MO_step.2.1 18 = .ok (.iload_n 1, 1) := by decide +kernel
theorem d_MO_step_19 : decode m_MO_step.2.1 19 = .ok (.baload, 1) := by decide +kernel
theorem d_MO_step_20 : decode m_MO_step.2.1 20 = .ok (.ifCond .eq 12, 3) := by decide +kernel
theorem d_MO_step_23 : decode m_MO_step.2.1 23 = .ok (.aload_n 0, 1) := by decide +kernel
theorem d_MO_step_24 : decode m_MO_step.2.1 24 = .ok (.getfield 35, 3) := by decide +kernel
theorem d_MO_step_27 : decode m_MO_step.2.1 27 = .ok (.iload_n 1, 1) := by decide +kernel
theorem d_MO_step_28 : decode m_MO_step.2.1 28 = .ok (.iconst 0, 1) := by decide +kernel
theorem d_MO_step_29 : decode m_MO_step.2.1 29 = .ok (.bastore, 1) := by decide +kernel
theorem d_MO_step_30 : decode m_MO_step.2.1 30 = .ok (.iload_n 1, 1) := by decide +kernel
theorem d_MO_step_31 : decode m_MO_step.2.1 31 = .ok (.ireturn, 1) := by decide +kernel
theorem d_MO_step_32 : decode m_MO_step.2.1 32 = .ok (.iinc 1 1, 3) := by decide +kernel
theorem d_MO_step_35 : decode m_MO_step.2.1 35 = .ok (.goto (-28), 3) := by decide +kernel
theorem d_MO_step_38 : decode m_MO_step.2.1 38 = .ok (.iconst (-1), 1) := by decide +kernel
theorem d_MO_step_39 : decode m_MO_step.2.1 39 = .ok (.ireturn, 1) := by decide +kernel
theorem k_MO_step : fw_cal m_MO_step := ⟨by decide +kernel, by decide +kernel, (fw_t 7 (by decide +kernel)), Or.inl ⟨rfl, fw_t 854 (by decide +kernel)⟩⟩
abbrev m_MO_stale : fw_M := (⟨"FolderRightsModel", "stale", "()I"⟩, prog_6_method_40_code, 3, (some .int), { frames := 0, cells := 0, slots := 0, locals := 0 }, [])
theorem d_MO_stale_0 : decode m_MO_stale.2.1 0 = .ok (.aload_n 0, 1) := by decide +kernel
theorem d_MO_stale_1 : decode m_MO_stale.2.1 1 = .ok (.iconst 0, 1) := by decide +kernel
theorem d_MO_stale_2 : decode m_MO_stale.2.1 2 = .ok (.putfield 63, 3) := by decide +kernel
theorem d_MO_stale_5 : decode m_MO_stale.2.1 5 = .ok (.iconst 0, 1) := by decide +kernel
theorem d_MO_stale_6 : decode m_MO_stale.2.1 6 = .ok (.istore_n 1, 1) := by decide +kernel
theorem d_MO_stale_7 : decode m_MO_stale.2.1 7 = .ok (.iconst 0, 1) := by decide +kernel
theorem d_MO_stale_8 : decode m_MO_stale.2.1 8 = .ok (.istore_n 2, 1) := by decide +kernel
theorem d_MO_stale_9 : decode m_MO_stale.2.1 9 = .ok (.iload_n 2, 1) := by decide +kernel
theorem d_MO_stale_10 : decode m_MO_stale.2.1 10 = .ok (.sipush 150, 3) := by decide +kernel
theorem d_MO_stale_13 : decode m_MO_stale.2.1 13 = .ok (.if_icmp .ge 26, 3) := by decide +kernel
theorem d_MO_stale_16 : decode m_MO_stale.2.1 16 = .ok (.aload_n 0, 1) := by decide +kernel
theorem d_MO_stale_17 : decode m_MO_stale.2.1 17 = .ok (.getfield 35, 3) := by decide +kernel
theorem d_MO_stale_20 : decode m_MO_stale.2.1 20 = .ok (.iload_n 2, 1) := by decide +kernel
theorem d_MO_stale_21 : decode m_MO_stale.2.1 21 = .ok (.baload, 1) := by decide +kernel
theorem d_MO_stale_22 : decode m_MO_stale.2.1 22 = .ok (.ifCond .eq 9, 3) := by decide +kernel
theorem d_MO_stale_25 : decode m_MO_stale.2.1 25 = .ok (.iload_n 1, 1) := by decide +kernel
theorem d_MO_stale_26 : decode m_MO_stale.2.1 26 = .ok (.iconst 1, 1) := by decide +kernel
theorem d_MO_stale_27 : decode m_MO_stale.2.1 27 = .ok (.iadd, 1) := by decide +kernel
theorem d_MO_stale_28 : decode m_MO_stale.2.1 28 = .ok (.goto 4, 3) := by decide +kernel
theorem d_MO_stale_31 : decode m_MO_stale.2.1 31 = .ok (.iload_n 1, 1) := by decide +kernel
theorem d_MO_stale_32 : decode m_MO_stale.2.1 32 = .ok (.istore_n 1, 1) := by decide +kernel
theorem d_MO_stale_33 : decode m_MO_stale.2.1 33 = .ok (.iinc 2 1, 3) := by decide +kernel
theorem d_MO_stale_36 : decode m_MO_stale.2.1 36 = .ok (.goto (-27), 3) := by decide +kernel
theorem d_MO_stale_39 : decode m_MO_stale.2.1 39 = .ok (.iload_n 1, 1) := by decide +kernel
theorem d_MO_stale_40 : decode m_MO_stale.2.1 40 = .ok (.ireturn, 1) := by decide +kernel
theorem k_MO_stale : fw_cal m_MO_stale := ⟨by decide +kernel, by decide +kernel, (fw_t 7 (by decide +kernel)), Or.inl ⟨rfl, fw_t 858 (by decide +kernel)⟩⟩
abbrev m_MO_in : fw_M := (⟨"FolderRightsModel", "in", "(II)Z"⟩, prog_6_method_41_code, 3, (some .boolean), { frames := 1, cells := 0, slots := 0, locals := 23 }, [])
theorem d_MO_in_0 : decode m_MO_in.2.1 0 = .ok (.aload_n 0, 1) := by decide +kernel
theorem d_MO_in_1 : decode m_MO_in.2.1 1 = .ok (.aload_n 0, 1) := by decide +kernel
theorem d_MO_in_2 : decode m_MO_in.2.1 2 = .ok (.iload_n 1, 1) := by decide +kernel
theorem d_MO_in_3 : decode m_MO_in.2.1 3 = .ok (.invokevirtual 73, 3) := by decide +kernel
theorem d_MO_in_6 : decode m_MO_in.2.1 6 = .ok (.ifCond .eq 15, 3) := by decide +kernel
theorem d_MO_in_9 : decode m_MO_in.2.1 9 = .ok (.aload_n 0, 1) := by decide +kernel
theorem d_MO_in_10 : decode m_MO_in.2.1 10 = .ok (.iload_n 2, 1) := by decide +kernel
theorem d_MO_in_11 : decode m_MO_in.2.1 11 = .ok (.invokevirtual 77, 3) := by decide +kernel
theorem d_MO_in_14 : decode m_MO_in.2.1 14 = .ok (.ifCond .eq 7, 3) := by decide +kernel
theorem d_MO_in_17 : decode m_MO_in.2.1 17 = .ok (.iconst 1, 1) := by decide +kernel
theorem d_MO_in_18 : decode m_MO_in.2.1 18 = .ok (.goto 4, 3) := by decide +kernel
theorem d_MO_in_21 : decode m_MO_in.2.1 21 = .ok (.iconst 0, 1) := by decide +kernel
theorem d_MO_in_22 : decode m_MO_in.2.1 22 = .ok (.iconst 1, 1) := by decide +kernel
theorem d_MO_in_23 : decode m_MO_in.2.1 23 = .ok (.iconst 1, 1) := by decide +kernel
theorem d_MO_in_24 : decode m_MO_in.2.1 24 = .ok (.invokevirtual 69, 3) := by decide +kernel
theorem d_MO_in_27 : decode m_MO_in.2.1 27 = .ok (.ifCond .eq 16, 3) := by decide +kernel
theorem d_MO_in_30 : decode m_MO_in.2.1 30 = .ok (.aload_n 0, 1) := by decide +kernel
theorem d_MO_in_31 : decode m_MO_in.2.1 31 = .ok (.iload_n 1, 1) := by decide +kernel
theorem d_MO_in_32 : decode m_MO_in.2.1 32 = .ok (.iload_n 2, 1) := by decide +kernel
theorem d_MO_in_33 : decode m_MO_in.2.1 33 = .ok (.invokevirtual 120, 3) := by decide +kernel
theorem d_MO_in_36 : decode m_MO_in.2.1 36 = .ok (.ifCond .eq 7, 3) := by decide +kernel
theorem d_MO_in_39 : decode m_MO_in.2.1 39 = .ok (.iconst 1, 1) := by decide +kernel
theorem d_MO_in_40 : decode m_MO_in.2.1 40 = .ok (.goto 4, 3) := by decide +kernel
theorem d_MO_in_43 : decode m_MO_in.2.1 43 = .ok (.iconst 0, 1) := by decide +kernel
theorem d_MO_in_44 : decode m_MO_in.2.1 44 = .ok (.ireturn, 1) := by decide +kernel
theorem k_MO_in : fw_cal m_MO_in := ⟨by decide +kernel, by decide +kernel, (fw_t 7 (by decide +kernel)), Or.inl ⟨rfl, fw_t 862 (by decide +kernel)⟩⟩
abbrev m_MO_about : fw_M := (⟨"FolderRightsModel", "about", "(II)I"⟩, prog_6_method_42_code, 3, (some .int), { frames := 1, cells := 0, slots := 0, locals := 23 }, [])
theorem d_MO_about_0 : decode m_MO_about.2.1 0 = .ok (.aload_n 0, 1) := by decide +kernel
theorem d_MO_about_1 : decode m_MO_about.2.1 1 = .ok (.aload_n 0, 1) := by decide +kernel
theorem d_MO_about_2 : decode m_MO_about.2.1 2 = .ok (.iload_n 1, 1) := by decide +kernel
theorem d_MO_about_3 : decode m_MO_about.2.1 3 = .ok (.invokevirtual 91, 3) := by decide +kernel
theorem d_MO_about_6 : decode m_MO_about.2.1 6 = .ok (.iload_n 2, 1) := by decide +kernel
theorem d_MO_about_7 : decode m_MO_about.2.1 7 = .ok (.iconst 0, 1) := by decide +kernel
theorem d_MO_about_8 : decode m_MO_about.2.1 8 = .ok (.bipush 7, 2) := by decide +kernel
theorem d_MO_about_10 : decode m_MO_about.2.1 10 = .ok (.invokestatic 112, 3) := by decide +kernel
theorem d_MO_about_13 : decode m_MO_about.2.1 13 = .ok (.iconst 1, 1) := by decide +kernel
theorem d_MO_about_14 : decode m_MO_about.2.1 14 = .ok (.invokevirtual 69, 3) := by decide +kernel
theorem d_MO_about_17 : decode m_MO_about.2.1 17 = .ok (.ifCond .ne 5, 3) := by decide +kernel
theorem d_MO_about_20 : decode m_MO_about.2.1 20 = .ok (.iconst 0, 1) := by decide +kernel
theorem d_MO_about_21 : decode m_MO_about.2.1 21 = .ok (.ireturn, 1) := by decide +kernel
theorem d_MO_about_22 : decode m_MO_about.2.1 22 = .ok (.iload_n 2, 1) := by decide +kernel
theorem d_MO_about_23 : decode m_MO_about.2.1 23 = .ok (.tableswitch 104 0 6 #[41, 48, 63, 70, 85, 91, 98], 41) := by decide +kernel
theorem d_MO_about_64 : decode m_MO_about.2.1 64 = .ok (.aload_n 0, 1) := by decide +kernel
theorem d_MO_about_65 : decode m_MO_about.2.1 65 = .ok (.getfield 38, 3) := by decide +kernel
theorem d_MO_about_68 : decode m_MO_about.2.1 68 = .ok (.iload_n 1, 1) := by decide +kernel
theorem d_MO_about_69 : decode m_MO_about.2.1 69 = .ok (.iaload, 1) := by decide +kernel
theorem d_MO_about_70 : decode m_MO_about.2.1 70 = .ok (.ireturn, 1) := by decide +kernel
theorem d_MO_about_71 : decode m_MO_about.2.1 71 = .ok (.aload_n 0, 1) := by decide +kernel
theorem d_MO_about_72 : decode m_MO_about.2.1 72 = .ok (.getfield 29, 3) := by decide +kernel
theorem d_MO_about_75 : decode m_MO_about.2.1 75 = .ok (.iload_n 1, 1) := by decide +kernel
theorem d_MO_about_76 : decode m_MO_about.2.1 76 = .ok (.baload, 1) := by decide +kernel
theorem d_MO_about_77 : decode m_MO_about.2.1 77 = .ok (.ifCond .eq 7, 3) := by decide +kernel
theorem d_MO_about_80 : decode m_MO_about.2.1 80 = .ok (.iconst 1, 1) := by decide +kernel
theorem d_MO_about_81 : decode m_MO_about.2.1 81 = .ok (.goto 4, 3) := by decide +kernel
theorem d_MO_about_84 : decode m_MO_about.2.1 84 = .ok (.iconst 0, 1) := by decide +kernel
theorem d_MO_about_85 : decode m_MO_about.2.1 85 = .ok (.ireturn, 1) := by decide +kernel
theorem d_MO_about_86 : decode m_MO_about.2.1 86 = .ok (.aload_n 0, 1) := by decide +kernel
theorem d_MO_about_87 : decode m_MO_about.2.1 87 = .ok (.getfield 42, 3) := by decide +kernel
theorem d_MO_about_90 : decode m_MO_about.2.1 90 = .ok (.iload_n 1, 1) := by decide +kernel
theorem d_MO_about_91 : decode m_MO_about.2.1 91 = .ok (.iaload, 1) := by decide +kernel
theorem d_MO_about_92 : decode m_MO_about.2.1 92 = .ok (.ireturn, 1) := by decide +kernel
theorem d_MO_about_93 : decode m_MO_about.2.1 93 = .ok (.aload_n 0, 1) := by decide +kernel
theorem d_MO_about_94 : decode m_MO_about.2.1 94 = .ok (.getfield 32, 3) := by decide +kernel
theorem d_MO_about_97 : decode m_MO_about.2.1 97 = .ok (.iload_n 1, 1) := by decide +kernel
theorem d_MO_about_98 : decode m_MO_about.2.1 98 = .ok (.baload, 1) := by decide +kernel
theorem d_MO_about_99 : decode m_MO_about.2.1 99 = .ok (.ifCond .eq 7, 3) := by decide +kernel
theorem d_MO_about_102 : decode m_MO_about.2.1 102 = .ok (.iconst 1, 1) := by decide +kernel
theorem d_MO_about_103 : decode m_MO_about.2.1 103 = .ok (.goto 4, 3) := by decide +kernel
theorem d_MO_about_106 : decode m_MO_about.2.1 106 = .ok (.iconst 0, 1) := by decide +kernel
theorem d_MO_about_107 : decode m_MO_about.2.1 107 = .ok (.ireturn, 1) := by decide +kernel
theorem d_MO_about_108 : decode m_MO_about.2.1 108 = .ok (.aload_n 0, 1) := by decide +kernel
theorem d_MO_about_109 : decode m_MO_about.2.1 109 = .ok (.iload_n 1, 1) := by decide +kernel
theorem d_MO_about_110 : decode m_MO_about.2.1 110 = .ok (.invokevirtual 94, 3) := by decide +kernel
theorem d_MO_about_113 : decode m_MO_about.2.1 113 = .ok (.ireturn, 1) := by decide +kernel
theorem d_MO_about_114 : decode m_MO_about.2.1 114 = .ok (.aload_n 0, 1) := by decide +kernel
theorem d_MO_about_115 : decode m_MO_about.2.1 115 = .ok (.getfield 45, 3) := by decide +kernel
theorem d_MO_about_118 : decode m_MO_about.2.1 118 = .ok (.iload_n 1, 1) := by decide +kernel
theorem d_MO_about_119 : decode m_MO_about.2.1 119 = .ok (.iaload, 1) := by decide +kernel
theorem d_MO_about_120 : decode m_MO_about.2.1 120 = .ok (.ireturn, 1) := by decide +kernel
theorem d_MO_about_121 : decode m_MO_about.2.1 121 = .ok (.aload_n 0, 1) := by decide +kernel
theorem d_MO_about_122 : decode m_MO_about.2.1 122 = .ok (.iload_n 1, 1) := by decide +kernel
theorem d_MO_about_123 : decode m_MO_about.2.1 123 = .ok (.invokevirtual 109, 3) := by decide +kernel
theorem d_MO_about_126 : decode m_MO_about.2.1 126 = .ok (.ireturn, 1) := by decide +kernel
theorem d_MO_about_127 : decode m_MO_about.2.1 127 = .ok (.aload_n 0, 1) := by decide +kernel
theorem d_MO_about_128 : decode m_MO_about.2.1 128 = .ok (.getfield 35, 3) := by decide +kernel
theorem d_MO_about_131 : decode m_MO_about.2.1 131 = .ok (.iload_n 1, 1) := by decide +kernel
theorem d_MO_about_132 : decode m_MO_about.2.1 132 = .ok (.baload, 1) := by decide +kernel
theorem d_MO_about_133 : decode m_MO_about.2.1 133 = .ok (.ifCond .eq 7, 3) := by decide +kernel
theorem d_MO_about_136 : decode m_MO_about.2.1 136 = .ok (.iconst 1, 1) := by decide +kernel
theorem d_MO_about_137 : decode m_MO_about.2.1 137 = .ok (.goto 4, 3) := by decide +kernel
theorem d_MO_about_140 : decode m_MO_about.2.1 140 = .ok (.iconst 0, 1) := by decide +kernel
theorem d_MO_about_141 : decode m_MO_about.2.1 141 = .ok (.ireturn, 1) := by decide +kernel
theorem k_MO_about : fw_cal m_MO_about := ⟨by decide +kernel, by decide +kernel, (fw_t 7 (by decide +kernel)), Or.inl ⟨rfl, fw_t 866 (by decide +kernel)⟩⟩
abbrev m_MO_count : fw_M := (⟨"FolderRightsModel", "count", "(I)I"⟩, prog_6_method_44_code, 5, (some .int), { frames := 1, cells := 0, slots := 0, locals := 23 }, [])
theorem d_MO_count_0 : decode m_MO_count.2.1 0 = .ok (.aload_n 0, 1) := by decide +kernel
theorem d_MO_count_1 : decode m_MO_count.2.1 1 = .ok (.iload_n 1, 1) := by decide +kernel
theorem d_MO_count_2 : decode m_MO_count.2.1 2 = .ok (.iconst 0, 1) := by decide +kernel
theorem d_MO_count_3 : decode m_MO_count.2.1 3 = .ok (.iconst 4, 1) := by decide +kernel
theorem d_MO_count_4 : decode m_MO_count.2.1 4 = .ok (.invokestatic 112, 3) := by decide +kernel
theorem d_MO_count_7 : decode m_MO_count.2.1 7 = .ok (.iconst 1, 1) := by decide +kernel
theorem d_MO_count_8 : decode m_MO_count.2.1 8 = .ok (.iconst 1, 1) := by decide +kernel
theorem d_MO_count_9 : decode m_MO_count.2.1 9 = .ok (.invokevirtual 69, 3) := by decide +kernel
theorem d_MO_count_12 : decode m_MO_count.2.1 12 = .ok (.ifCond .ne 5, 3) := by decide +kernel
theorem d_MO_count_15 : decode m_MO_count.2.1 15 = .ok (.iconst 0, 1) := by decide +kernel
theorem d_MO_count_16 : decode m_MO_count.2.1 16 = .ok (.ireturn, 1) := by decide +kernel
theorem d_MO_count_17 : decode m_MO_count.2.1 17 = .ok (.iconst 0, 1) := by decide +kernel
theorem d_MO_count_18 : decode m_MO_count.2.1 18 = .ok (.istore_n 2, 1) := by decide +kernel
theorem d_MO_count_19 : decode m_MO_count.2.1 19 = .ok (.iconst 0, 1) := by decide +kernel
theorem d_MO_count_20 : decode m_MO_count.2.1 20 = .ok (.istore_n 3, 1) := by decide +kernel
theorem d_MO_count_21 : decode m_MO_count.2.1 21 = .ok (.iconst 0, 1) := by decide +kernel
theorem d_MO_count_22 : decode m_MO_count.2.1 22 = .ok (.istore 4, 2) := by decide +kernel
theorem d_MO_count_24 : decode m_MO_count.2.1 24 = .ok (.iload 4, 2) := by decide +kernel
theorem d_MO_count_26 : decode m_MO_count.2.1 26 = .ok (.sipush 150, 3) := by decide +kernel
theorem d_MO_count_29 : decode m_MO_count.2.1 29 = .ok (.if_icmp .ge 51, 3) := by decide +kernel
theorem d_MO_count_32 : decode m_MO_count.2.1 32 = .ok (.aload_n 0, 1) := by decide +kernel
theorem d_MO_count_33 : decode m_MO_count.2.1 33 = .ok (.getfield 26, 3) := by decide +kernel
theorem d_MO_count_36 : decode m_MO_count.2.1 36 = .ok (.iload 4, 2) := by decide +kernel
theorem d_MO_count_38 : decode m_MO_count.2.1 38 = .ok (.baload, 1) := by decide +kernel
theorem d_MO_count_39 : decode m_MO_count.2.1 39 = .ok (.ifCond .eq 9, 3) := by decide +kernel
theorem d_MO_count_42 : decode m_MO_count.2.1 42 = .ok (.iload_n 2, 1) := by decide +kernel
theorem d_MO_count_43 : decode m_MO_count.2.1 43 = .ok (.iconst 1, 1) := by decide +kernel
theorem d_MO_count_44 : decode m_MO_count.2.1 44 = .ok (.iadd, 1) := by decide +kernel
theorem d_MO_count_45 : decode m_MO_count.2.1 45 = .ok (.goto 4, 3) := by decide +kernel
theorem d_MO_count_48 : decode m_MO_count.2.1 48 = .ok (.iload_n 2, 1) := by decide +kernel
theorem d_MO_count_49 : decode m_MO_count.2.1 49 = .ok (.istore_n 2, 1) := by decide +kernel
theorem d_MO_count_50 : decode m_MO_count.2.1 50 = .ok (.aload_n 0, 1) := by decide +kernel
theorem d_MO_count_51 : decode m_MO_count.2.1 51 = .ok (.getfield 26, 3) := by decide +kernel
theorem d_MO_count_54 : decode m_MO_count.2.1 54 = .ok (.iload 4, 2) := by decide +kernel
theorem d_MO_count_56 : decode m_MO_count.2.1 56 = .ok (.baload, 1) := by decide +kernel
theorem d_MO_count_57 : decode m_MO_count.2.1 57 = .ok (.ifCond .eq 15, 3) := by decide +kernel
theorem d_MO_count_60 : decode m_MO_count.2.1 60 = .ok (.iload_n 3, 1) := by decide +kernel
theorem d_MO_count_61 : decode m_MO_count.2.1 61 = .ok (.aload_n 0, 1) := by decide +kernel
theorem d_MO_count_62 : decode m_MO_count.2.1 62 = .ok (.getfield 45, 3) := by decide +kernel
theorem d_MO_count_65 : decode m_MO_count.2.1 65 = .ok (.iload 4, 2) := by decide +kernel
theorem d_MO_count_67 : decode m_MO_count.2.1 67 = .ok (.iaload, 1) := by decide +kernel
theorem d_MO_count_68 : decode m_MO_count.2.1 68 = .ok (.iadd, 1) := by decide +kernel
theorem d_MO_count_69 : decode m_MO_count.2.1 69 = .ok (.goto 4, 3) := by decide +kernel
theorem d_MO_count_72 : decode m_MO_count.2.1 72 = .ok (.iload_n 3, 1) := by decide +kernel
theorem d_MO_count_73 : decode m_MO_count.2.1 73 = .ok (.istore_n 3, 1) := by decide +kernel
theorem d_MO_count_74 : decode m_MO_count.2.1 74 = .ok (.iinc 4 1, 3) := by decide +kernel
theorem d_MO_count_77 : decode m_MO_count.2.1 77 = .ok (.goto (-53), 3) := by decide +kernel
theorem d_MO_count_80 : decode m_MO_count.2.1 80 = .ok (.iload_n 1, 1) := by decide +kernel
theorem d_MO_count_81 : decode m_MO_count.2.1 81 = .ok (.ifCond .ne 10, 3) := by decide +kernel
theorem d_MO_count_84 : decode m_MO_count.2.1 84 = .ok (.aload_n 0, 1) := by decide +kernel
theorem d_MO_count_85 : decode m_MO_count.2.1 85 = .ok (.getfield 7, 3) := by decide +kernel
theorem d_MO_count_88 : decode m_MO_count.2.1 88 = .ok (.goto 37, 3) := by decide +kernel
theorem d_MO_count_91 : decode m_MO_count.2.1 91 = .ok (.iload_n 1, 1) := by decide +kernel
theorem d_MO_count_92 : decode m_MO_count.2.1 92 = .ok (.iconst 1, 1) := by decide +kernel
theorem d_MO_count_93 : decode m_MO_count.2.1 93 = .ok (.if_icmp .ne 10, 3) := by decide +kernel
theorem d_MO_count_96 : decode m_MO_count.2.1 96 = .ok (.aload_n 0, 1) := by decide +kernel
theorem d_MO_count_97 : decode m_MO_count.2.1 97 = .ok (.getfield 66, 3) := by decide +kernel
theorem d_MO_count_100 : decode m_MO_count.2.1 100 = .ok (.goto 25, 3) := by decide +kernel
theorem d_MO_count_103 : decode m_MO_count.2.1 103 = .ok (.iload_n 1, 1) := by decide +kernel
theorem d_MO_count_104 : decode m_MO_count.2.1 104 = .ok (.iconst 2, 1) := by decide +kernel
theorem d_MO_count_105 : decode m_MO_count.2.1 105 = .ok (.if_icmp .ne 7, 3) := by decide +kernel
theorem d_MO_count_108 : decode m_MO_count.2.1 108 = .ok (.iload_n 2, 1) := by decide +kernel
theorem d_MO_count_109 : decode m_MO_count.2.1 109 = .ok (.goto 16, 3) := by decide +kernel
theorem d_MO_count_112 : decode m_MO_count.2.1 112 = .ok (.iload_n 1, 1) := by decide +kernel
theorem d_MO_count_113 : decode m_MO_count.2.1 113 = .ok (.iconst 3, 1) := by decide +kernel
theorem d_MO_count_114 : decode m_MO_count.2.1 114 = .ok (.if_icmp .ne 7, 3) := by decide +kernel
theorem d_MO_count_117 : decode m_MO_count.2.1 117 = .ok (.iload_n 3, 1) := by decide +kernel
theorem d_MO_count_118 : decode m_MO_count.2.1 118 = .ok (.goto 7, 3) := by decide +kernel
theorem d_MO_count_121 : decode m_MO_count.2.1 121 = .ok (.aload_n 0, 1) := by decide +kernel
theorem d_MO_count_122 : decode m_MO_count.2.1 122 = .ok (.invokevirtual 149, 3) := by decide +kernel
theorem d_MO_count_125 : decode m_MO_count.2.1 125 = .ok (.ireturn, 1) := by decide +kernel
theorem k_MO_count : fw_cal m_MO_count := ⟨by decide +kernel, by decide +kernel, (fw_t 7 (by decide +kernel)), Or.inl ⟨rfl, fw_t 870 (by decide +kernel)⟩⟩
abbrev m_MO_members : fw_M := (⟨"FolderRightsModel", "members", "()I"⟩, prog_6_method_43_code, 3, (some .int), { frames := 0, cells := 0, slots := 0, locals := 0 }, [])
theorem d_MO_members_0 : decode m_MO_members.2.1 0 = .ok (.iconst 0, 1) := by decide +kernel
theorem d_MO_members_1 : decode m_MO_members.2.1 1 = .ok (.istore_n 1, 1) := by decide +kernel
theorem d_MO_members_2 : decode m_MO_members.2.1 2 = .ok (.iconst 0, 1) := by decide +kernel
theorem d_MO_members_3 : decode m_MO_members.2.1 3 = .ok (.istore_n 2, 1) := by decide +kernel
theorem d_MO_members_4 : decode m_MO_members.2.1 4 = .ok (.iload_n 2, 1) := by decide +kernel
theorem d_MO_members_5 : decode m_MO_members.2.1 5 = .ok (.sipush 1440, 3) := by decide +kernel
theorem d_MO_members_8 : decode m_MO_members.2.1 8 = .ok (.if_icmp .ge 26, 3) := by decide +kernel
theorem d_MO_members_11 : decode m_MO_members.2.1 11 = .ok (.aload_n 0, 1) := by decide +kernel
theorem d_MO_members_12 : decode m_MO_members.2.1 12 = .ok (.getfield 13, 3) := by decide +kernel
theorem d_MO_members_15 : decode m_MO_members.2.1 15 = .ok (.iload_n 2, 1) := by decide +kernel
theorem d_MO_members_16 : decode m_MO_members.2.1 16 = .ok (.baload, 1) := by decide +kernel
theorem d_MO_members_17 : decode m_MO_members.2.1 17 = .ok (.ifCond .eq 9, 3) := by decide +kernel
theorem d_MO_members_20 : decode m_MO_members.2.1 20 = .ok (.iload_n 1, 1) := by decide +kernel
theorem d_MO_members_21 : decode m_MO_members.2.1 21 = .ok (.iconst 1, 1) := by decide +kernel
theorem d_MO_members_22 : decode m_MO_members.2.1 22 = .ok (.iadd, 1) := by decide +kernel
theorem d_MO_members_23 : decode m_MO_members.2.1 23 = .ok (.goto 4, 3) := by decide +kernel
theorem d_MO_members_26 : decode m_MO_members.2.1 26 = .ok (.iload_n 1, 1) := by decide +kernel
theorem d_MO_members_27 : decode m_MO_members.2.1 27 = .ok (.istore_n 1, 1) := by decide +kernel
theorem d_MO_members_28 : decode m_MO_members.2.1 28 = .ok (.iinc 2 1, 3) := by decide +kernel
theorem d_MO_members_31 : decode m_MO_members.2.1 31 = .ok (.goto (-27), 3) := by decide +kernel
theorem d_MO_members_34 : decode m_MO_members.2.1 34 = .ok (.iconst 0, 1) := by decide +kernel
theorem d_MO_members_35 : decode m_MO_members.2.1 35 = .ok (.istore_n 2, 1) := by decide +kernel
theorem d_MO_members_36 : decode m_MO_members.2.1 36 = .ok (.iload_n 2, 1) := by decide +kernel
theorem d_MO_members_37 : decode m_MO_members.2.1 37 = .ok (.sipush 576, 3) := by decide +kernel
theorem d_MO_members_40 : decode m_MO_members.2.1 40 = .ok (.if_icmp .ge 26, 3) := by decide +kernel
theorem d_MO_members_43 : decode m_MO_members.2.1 43 = .ok (.aload_n 0, 1) := by decide +kernel
theorem d_MO_members_44 : decode m_MO_members.2.1 44 = .ok (.getfield 17, 3) := by decide +kernel
theorem d_MO_members_47 : decode m_MO_members.2.1 47 = .ok (.iload_n 2, 1) := by decide +kernel
theorem d_MO_members_48 : decode m_MO_members.2.1 48 = .ok (.baload, 1) := by decide +kernel
theorem d_MO_members_49 : decode m_MO_members.2.1 49 = .ok (.ifCond .eq 9, 3) := by decide +kernel
theorem d_MO_members_52 : decode m_MO_members.2.1 52 = .ok (.iload_n 1, 1) := by decide +kernel
theorem d_MO_members_53 : decode m_MO_members.2.1 53 = .ok (.iconst 1, 1) := by decide +kernel
theorem d_MO_members_54 : decode m_MO_members.2.1 54 = .ok (.iadd, 1) := by decide +kernel
theorem d_MO_members_55 : decode m_MO_members.2.1 55 = .ok (.goto 4, 3) := by decide +kernel
theorem d_MO_members_58 : decode m_MO_members.2.1 58 = .ok (.iload_n 1, 1) := by decide +kernel
theorem d_MO_members_59 : decode m_MO_members.2.1 59 = .ok (.istore_n 1, 1) := by decide +kernel
theorem d_MO_members_60 : decode m_MO_members.2.1 60 = .ok (.iinc 2 1, 3) := by decide +kernel
theorem d_MO_members_63 : decode m_MO_members.2.1 63 = .ok (.goto (-27), 3) := by decide +kernel
theorem d_MO_members_66 : decode m_MO_members.2.1 66 = .ok (.iload_n 1, 1) := by decide +kernel
theorem d_MO_members_67 : decode m_MO_members.2.1 67 = .ok (.ireturn, 1) := by decide +kernel
theorem k_MO_members : fw_cal m_MO_members := ⟨by decide +kernel, by decide +kernel, (fw_t 7 (by decide +kernel)), Or.inl ⟨rfl, fw_t 874 (by decide +kernel)⟩⟩
theorem fp_MO_init_7 : fw_fpt m_MO_init 7 5 1 .int := ⟨_, _, _, "FolderRightsModel", rfl, by decide, fw_i5, Or.inl rfl, ⟨fw_y5, fw_k5⟩, fw_n5, by decide +kernel, Or.inl ⟨rfl, Or.inl (fw_t 636 (by decide +kernel))⟩⟩
theorem fp_MO_init_13 : fw_fpt m_MO_init 13 5 3 (.array .boolean) := ⟨_, _, _, "FolderRightsModel", rfl, by decide, fw_i5, Or.inl rfl, ⟨fw_y5, fw_k5⟩, fw_n5, by decide +kernel, Or.inr ⟨rfl, rfl, rfl, (fw_t 638 (by decide +kernel))⟩⟩
theorem fp_MO_init_17 : fw_fpt m_MO_init 17 5 4 (.array .boolean) := ⟨_, _, _, "FolderRightsModel", rfl, by decide, fw_i5, Or.inl rfl, ⟨fw_y5, fw_k5⟩, fw_n5, by decide +kernel, Or.inr ⟨rfl, rfl, rfl, (fw_t 639 (by decide +kernel))⟩⟩
theorem fp_MO_init_20 : fw_fpt m_MO_init 20 5 5 (.array .boolean) := ⟨_, _, _, "FolderRightsModel", rfl, by decide, fw_i5, Or.inl rfl, ⟨fw_y5, fw_k5⟩, fw_n5, by decide +kernel, Or.inr ⟨rfl, rfl, rfl, (fw_t 640 (by decide +kernel))⟩⟩
theorem fp_MO_init_23 : fw_fpt m_MO_init 23 5 6 (.array .boolean) := ⟨_, _, _, "FolderRightsModel", rfl, by decide, fw_i5, Or.inl rfl, ⟨fw_y5, fw_k5⟩, fw_n5, by decide +kernel, Or.inr ⟨rfl, rfl, rfl, (fw_t 641 (by decide +kernel))⟩⟩
theorem fp_MO_init_26 : fw_fpt m_MO_init 26 5 7 (.array .boolean) := ⟨_, _, _, "FolderRightsModel", rfl, by decide, fw_i5, Or.inl rfl, ⟨fw_y5, fw_k5⟩, fw_n5, by decide +kernel, Or.inr ⟨rfl, rfl, rfl, (fw_t 642 (by decide +kernel))⟩⟩
theorem fp_MO_init_29 : fw_fpt m_MO_init 29 5 8 (.array .boolean) := ⟨_, _, _, "FolderRightsModel", rfl, by decide, fw_i5, Or.inl rfl, ⟨fw_y5, fw_k5⟩, fw_n5, by decide +kernel, Or.inr ⟨rfl, rfl, rfl, (fw_t 643 (by decide +kernel))⟩⟩
theorem fp_MO_init_32 : fw_fpt m_MO_init 32 5 9 (.array .boolean) := ⟨_, _, _, "FolderRightsModel", rfl, by decide, fw_i5, Or.inl rfl, ⟨fw_y5, fw_k5⟩, fw_n5, by decide +kernel, Or.inr ⟨rfl, rfl, rfl, (fw_t 644 (by decide +kernel))⟩⟩
theorem fp_MO_init_35 : fw_fpt m_MO_init 35 5 10 (.array .boolean) := ⟨_, _, _, "FolderRightsModel", rfl, by decide, fw_i5, Or.inl rfl, ⟨fw_y5, fw_k5⟩, fw_n5, by decide +kernel, Or.inr ⟨rfl, rfl, rfl, (fw_t 645 (by decide +kernel))⟩⟩
theorem fp_MO_init_38 : fw_fpt m_MO_init 38 5 11 (.array .int) := ⟨_, _, _, "FolderRightsModel", rfl, by decide, fw_i5, Or.inl rfl, ⟨fw_y5, fw_k5⟩, fw_n5, by decide +kernel, Or.inr ⟨rfl, rfl, rfl, (fw_t 646 (by decide +kernel))⟩⟩
theorem fp_MO_init_42 : fw_fpt m_MO_init 42 5 12 (.array .int) := ⟨_, _, _, "FolderRightsModel", rfl, by decide, fw_i5, Or.inl rfl, ⟨fw_y5, fw_k5⟩, fw_n5, by decide +kernel, Or.inr ⟨rfl, rfl, rfl, (fw_t 647 (by decide +kernel))⟩⟩
theorem fp_MO_init_45 : fw_fpt m_MO_init 45 5 13 (.array .int) := ⟨_, _, _, "FolderRightsModel", rfl, by decide, fw_i5, Or.inl rfl, ⟨fw_y5, fw_k5⟩, fw_n5, by decide +kernel, Or.inr ⟨rfl, rfl, rfl, (fw_t 648 (by decide +kernel))⟩⟩
theorem fp_MO_init_48 : fw_fpt m_MO_init 48 5 14 (.array .boolean) := ⟨_, _, _, "FolderRightsModel", rfl, by decide, fw_i5, Or.inl rfl, ⟨fw_y5, fw_k5⟩, fw_n5, by decide +kernel, Or.inr ⟨rfl, rfl, rfl, (fw_t 649 (by decide +kernel))⟩⟩
theorem fp_MO_init_51 : fw_fpt m_MO_init 51 5 15 (.array .boolean) := ⟨_, _, _, "FolderRightsModel", rfl, by decide, fw_i5, Or.inl rfl, ⟨fw_y5, fw_k5⟩, fw_n5, by decide +kernel, Or.inr ⟨rfl, rfl, rfl, (fw_t 650 (by decide +kernel))⟩⟩
theorem fp_MO_init_54 : fw_fpt m_MO_init 54 5 16 (.array .int) := ⟨_, _, _, "FolderRightsModel", rfl, by decide, fw_i5, Or.inl rfl, ⟨fw_y5, fw_k5⟩, fw_n5, by decide +kernel, Or.inr ⟨rfl, rfl, rfl, (fw_t 651 (by decide +kernel))⟩⟩
theorem fp_MO_init_57 : fw_fpt m_MO_init 57 5 17 (.array .int) := ⟨_, _, _, "FolderRightsModel", rfl, by decide, fw_i5, Or.inl rfl, ⟨fw_y5, fw_k5⟩, fw_n5, by decide +kernel, Or.inr ⟨rfl, rfl, rfl, (fw_t 652 (by decide +kernel))⟩⟩
theorem fp_MO_init_60 : fw_fpt m_MO_init 60 5 18 (.array .int) := ⟨_, _, _, "FolderRightsModel", rfl, by decide, fw_i5, Or.inl rfl, ⟨fw_y5, fw_k5⟩, fw_n5, by decide +kernel, Or.inr ⟨rfl, rfl, rfl, (fw_t 653 (by decide +kernel))⟩⟩
theorem fg_MO_26 : fw_fld "FolderRightsModel" 26 5 7 := ⟨_, _, _, "FolderRightsModel", rfl, by decide, fw_i5, Or.inl rfl, Or.inl (fw_t 642 (by decide +kernel))⟩
theorem fg_MO_29 : fw_fld "FolderRightsModel" 29 5 8 := ⟨_, _, _, "FolderRightsModel", rfl, by decide, fw_i5, Or.inl rfl, Or.inl (fw_t 643 (by decide +kernel))⟩
theorem fg_MO_35 : fw_fld "FolderRightsModel" 35 5 10 := ⟨_, _, _, "FolderRightsModel", rfl, by decide, fw_i5, Or.inl rfl, Or.inl (fw_t 645 (by decide +kernel))⟩
theorem fg_MO_38 : fw_fld "FolderRightsModel" 38 5 11 := ⟨_, _, _, "FolderRightsModel", rfl, by decide, fw_i5, Or.inl rfl, Or.inl (fw_t 646 (by decide +kernel))⟩
theorem fg_MO_63 : fw_fld "FolderRightsModel" 63 5 0 := ⟨_, _, _, "FolderRightsModel", rfl, by decide, fw_i5, Or.inl rfl, Or.inl (fw_t 635 (by decide +kernel))⟩
theorem fg_MO_7 : fw_fld "FolderRightsModel" 7 5 1 := ⟨_, _, _, "FolderRightsModel", rfl, by decide, fw_i5, Or.inl rfl, Or.inl (fw_t 636 (by decide +kernel))⟩
theorem vc_MO_69 : fw_vc "FolderRightsModel" 69 5 m_MO_goes 3 := ⟨k_MO_goes, Or.inl (fw_t 712 (by decide +kernel)), (fw_t 714 (by decide +kernel)), ⟨_, _, _, rfl, (fw_p 21 (by decide +kernel))⟩, by unfold fw_np; decide +kernel⟩
theorem fp_MO_user_7 : fw_fpt m_MO_user 7 5 1 .int := ⟨_, _, _, "FolderRightsModel", rfl, by decide, fw_i5, Or.inl rfl, ⟨fw_y5, fw_k5⟩, fw_n5, by decide +kernel, Or.inl ⟨rfl, Or.inl (fw_t 636 (by decide +kernel))⟩⟩
theorem fp_MO_goes_63 : fw_fpt m_MO_goes 63 5 0 .int := ⟨_, _, _, "FolderRightsModel", rfl, by decide, fw_i5, Or.inl rfl, ⟨fw_y5, fw_k5⟩, fw_n5, by decide +kernel, Or.inl ⟨rfl, Or.inl (fw_t 635 (by decide +kernel))⟩⟩
theorem fg_MO_66 : fw_fld "FolderRightsModel" 66 5 2 := ⟨_, _, _, "FolderRightsModel", rfl, by decide, fw_i5, Or.inl rfl, Or.inl (fw_t 637 (by decide +kernel))⟩
theorem fp_MO_group_66 : fw_fpt m_MO_group 66 5 2 .int := ⟨_, _, _, "FolderRightsModel", rfl, by decide, fw_i5, Or.inl rfl, ⟨fw_y5, fw_k5⟩, fw_n5, by decide +kernel, Or.inl ⟨rfl, Or.inl (fw_t 637 (by decide +kernel))⟩⟩
theorem vc_MO_73 : fw_vc "FolderRightsModel" 73 5 m_MO_isGroup 1 := ⟨k_MO_isGroup, Or.inl (fw_t 724 (by decide +kernel)), (fw_t 726 (by decide +kernel)), ⟨_, _, _, rfl, (fw_p 22 (by decide +kernel))⟩, by unfold fw_np; decide +kernel⟩
theorem vc_MO_80 : fw_vc "FolderRightsModel" 80 5 m_MO_isMember 2 := ⟨k_MO_isMember, Or.inl (fw_t 728 (by decide +kernel)), (fw_t 730 (by decide +kernel)), ⟨_, _, _, rfl, (fw_p 23 (by decide +kernel))⟩, by unfold fw_np; decide +kernel⟩
theorem vc_MO_84 : fw_vc "FolderRightsModel" 84 5 m_MO_findGroups 1 := ⟨k_MO_findGroups, Or.inl (fw_t 736 (by decide +kernel)), (fw_t 738 (by decide +kernel)), ⟨_, _, _, rfl, (fw_p 25 (by decide +kernel))⟩, by unfold fw_np; decide +kernel⟩
theorem fg_MO_20 : fw_fld "FolderRightsModel" 20 5 5 := ⟨_, _, _, "FolderRightsModel", rfl, by decide, fw_i5, Or.inl rfl, Or.inl (fw_t 640 (by decide +kernel))⟩
theorem fg_MO_17 : fw_fld "FolderRightsModel" 17 5 4 := ⟨_, _, _, "FolderRightsModel", rfl, by decide, fw_i5, Or.inl rfl, Or.inl (fw_t 639 (by decide +kernel))⟩
theorem fg_MO_13 : fw_fld "FolderRightsModel" 13 5 3 := ⟨_, _, _, "FolderRightsModel", rfl, by decide, fw_i5, Or.inl rfl, Or.inl (fw_t 638 (by decide +kernel))⟩
theorem vc_MO_88 : fw_vc "FolderRightsModel" 88 5 m_MO_settle 0 := ⟨k_MO_settle, Or.inl (fw_t 740 (by decide +kernel)), (fw_t 742 (by decide +kernel)), ⟨_, _, _, rfl, (fw_p 26 (by decide +kernel))⟩, by unfold fw_np; decide +kernel⟩
theorem vc_MO_77 : fw_vc "FolderRightsModel" 77 5 m_MO_isUser 1 := ⟨k_MO_isUser, Or.inl (fw_t 732 (by decide +kernel)), (fw_t 734 (by decide +kernel)), ⟨_, _, _, rfl, (fw_p 24 (by decide +kernel))⟩, by unfold fw_np; decide +kernel⟩
theorem fg_MO_23 : fw_fld "FolderRightsModel" 23 5 6 := ⟨_, _, _, "FolderRightsModel", rfl, by decide, fw_i5, Or.inl rfl, Or.inl (fw_t 641 (by decide +kernel))⟩
theorem vc_MO_91 : fw_vc "FolderRightsModel" 91 5 m_MO_isNode 1 := ⟨k_MO_isNode, Or.inl (fw_t 752 (by decide +kernel)), (fw_t 754 (by decide +kernel)), ⟨_, _, _, rfl, (fw_p 27 (by decide +kernel))⟩, by unfold fw_np; decide +kernel⟩
theorem vc_MO_94 : fw_vc "FolderRightsModel" 94 5 m_MO_depth 1 := ⟨k_MO_depth, Or.inl (fw_t 756 (by decide +kernel)), (fw_t 758 (by decide +kernel)), ⟨_, _, _, rfl, (fw_p 28 (by decide +kernel))⟩, by unfold fw_np; decide +kernel⟩
theorem fg_MO_32 : fw_fld "FolderRightsModel" 32 5 9 := ⟨_, _, _, "FolderRightsModel", rfl, by decide, fw_i5, Or.inl rfl, Or.inl (fw_t 644 (by decide +kernel))⟩
theorem fg_MO_42 : fw_fld "FolderRightsModel" 42 5 12 := ⟨_, _, _, "FolderRightsModel", rfl, by decide, fw_i5, Or.inl rfl, Or.inl (fw_t 647 (by decide +kernel))⟩
theorem fg_MO_45 : fw_fld "FolderRightsModel" 45 5 13 := ⟨_, _, _, "FolderRightsModel", rfl, by decide, fw_i5, Or.inl rfl, Or.inl (fw_t 648 (by decide +kernel))⟩
theorem vc_MO_98 : fw_vc "FolderRightsModel" 98 5 m_MO_under 2 := ⟨k_MO_under, Or.inl (fw_t 764 (by decide +kernel)), (fw_t 766 (by decide +kernel)), ⟨_, _, _, rfl, (fw_p 29 (by decide +kernel))⟩, by unfold fw_np; decide +kernel⟩
theorem vc_MO_102 : fw_vc "FolderRightsModel" 102 5 m_MO_height 1 := ⟨k_MO_height, Or.inl (fw_t 768 (by decide +kernel)), (fw_t 770 (by decide +kernel)), ⟨_, _, _, rfl, (fw_p 30 (by decide +kernel))⟩, by unfold fw_np; decide +kernel⟩
theorem vc_MO_105 : fw_vc "FolderRightsModel" 105 5 m_MO_spread 2 := ⟨k_MO_spread, Or.inl (fw_t 772 (by decide +kernel)), (fw_t 774 (by decide +kernel)), ⟨_, _, _, rfl, (fw_p 31 (by decide +kernel))⟩, by unfold fw_np; decide +kernel⟩
theorem vc_MO_109 : fw_vc "FolderRightsModel" 109 5 m_MO_children 1 := ⟨k_MO_children, Or.inl (fw_t 780 (by decide +kernel)), (fw_t 782 (by decide +kernel)), ⟨_, _, _, rfl, (fw_p 32 (by decide +kernel))⟩, by unfold fw_np; decide +kernel⟩
theorem lk_MO_112 : fw_lk "FolderRightsModel" 112 ⟨"FolderRightsModel", "within", "(III)Z"⟩ := Or.inl (fw_t 788 (by decide +kernel))
theorem np_MO_within : fw_np ⟨"FolderRightsModel", "within", "(III)Z"⟩ 3 := by unfold fw_np; decide +kernel
theorem sc_MO_within : Cond.static ⟨"FolderRightsModel", "within", "(III)Z"⟩ ∈ lw_tbl := (fw_t 789 (by decide +kernel))
theorem vc_MO_116 : fw_vc "FolderRightsModel" 116 5 m_MO_copyEntry 2 := ⟨k_MO_copyEntry, Or.inl (fw_t 791 (by decide +kernel)), (fw_t 793 (by decide +kernel)), ⟨_, _, _, rfl, (fw_p 33 (by decide +kernel))⟩, by unfold fw_np; decide +kernel⟩
theorem fg_MO_48 : fw_fld "FolderRightsModel" 48 5 14 := ⟨_, _, _, "FolderRightsModel", rfl, by decide, fw_i5, Or.inl rfl, Or.inl (fw_t 649 (by decide +kernel))⟩
theorem fg_MO_51 : fw_fld "FolderRightsModel" 51 5 15 := ⟨_, _, _, "FolderRightsModel", rfl, by decide, fw_i5, Or.inl rfl, Or.inl (fw_t 650 (by decide +kernel))⟩
theorem fg_MO_54 : fw_fld "FolderRightsModel" 54 5 16 := ⟨_, _, _, "FolderRightsModel", rfl, by decide, fw_i5, Or.inl rfl, Or.inl (fw_t 651 (by decide +kernel))⟩
theorem fg_MO_57 : fw_fld "FolderRightsModel" 57 5 17 := ⟨_, _, _, "FolderRightsModel", rfl, by decide, fw_i5, Or.inl rfl, Or.inl (fw_t 652 (by decide +kernel))⟩
theorem fg_MO_60 : fw_fld "FolderRightsModel" 60 5 18 := ⟨_, _, _, "FolderRightsModel", rfl, by decide, fw_i5, Or.inl rfl, Or.inl (fw_t 653 (by decide +kernel))⟩
theorem vc_MO_145 : fw_vc "FolderRightsModel" 145 5 m_MO_rightsOf 2 := ⟨k_MO_rightsOf, Or.inl (fw_t 811 (by decide +kernel)), (fw_t 813 (by decide +kernel)), ⟨_, _, _, rfl, (fw_p 34 (by decide +kernel))⟩, by unfold fw_np; decide +kernel⟩
theorem vc_MO_142 : fw_vc "FolderRightsModel" 142 5 m_MO_decide 3 := ⟨k_MO_decide, Or.inl (fw_t 815 (by decide +kernel)), (fw_t 817 (by decide +kernel)), ⟨_, _, _, rfl, (fw_p 35 (by decide +kernel))⟩, by unfold fw_np; decide +kernel⟩
theorem fp_MO_decide_129 : fw_fpt m_MO_decide 129 5 20 .int := ⟨_, _, _, "FolderRightsModel", rfl, by decide, fw_i5, Or.inl rfl, ⟨fw_y5, fw_k5⟩, fw_n5, by decide +kernel, Or.inl ⟨rfl, Or.inl (fw_t 655 (by decide +kernel))⟩⟩
theorem fp_MO_decide_132 : fw_fpt m_MO_decide 132 5 21 .int := ⟨_, _, _, "FolderRightsModel", rfl, by decide, fw_i5, Or.inl rfl, ⟨fw_y5, fw_k5⟩, fw_n5, by decide +kernel, Or.inl ⟨rfl, Or.inl (fw_t 656 (by decide +kernel))⟩⟩
theorem fp_MO_decide_135 : fw_fpt m_MO_decide 135 5 19 .int := ⟨_, _, _, "FolderRightsModel", rfl, by decide, fw_i5, Or.inl rfl, ⟨fw_y5, fw_k5⟩, fw_n5, by decide +kernel, Or.inl ⟨rfl, Or.inl (fw_t 654 (by decide +kernel))⟩⟩
theorem vc_MO_138 : fw_vc "FolderRightsModel" 138 5 m_MO_first 5 := ⟨k_MO_first, Or.inl (fw_t 819 (by decide +kernel)), (fw_t 821 (by decide +kernel)), ⟨_, _, _, rfl, (fw_p 36 (by decide +kernel))⟩, by unfold fw_np; decide +kernel⟩
theorem vc_MO_123 : fw_vc "FolderRightsModel" 123 5 m_MO_reaches 3 := ⟨k_MO_reaches, Or.inl (fw_t 823 (by decide +kernel)), (fw_t 825 (by decide +kernel)), ⟨_, _, _, rfl, (fw_p 37 (by decide +kernel))⟩, by unfold fw_np; decide +kernel⟩
theorem vc_MO_126 : fw_vc "FolderRightsModel" 126 5 m_MO_matches 3 := ⟨k_MO_matches, Or.inl (fw_t 827 (by decide +kernel)), (fw_t 829 (by decide +kernel)), ⟨_, _, _, rfl, (fw_p 38 (by decide +kernel))⟩, by unfold fw_np; decide +kernel⟩
theorem vc_MO_120 : fw_vc "FolderRightsModel" 120 5 m_MO_isIn 2 := ⟨k_MO_isIn, Or.inl (fw_t 831 (by decide +kernel)), (fw_t 833 (by decide +kernel)), ⟨_, _, _, rfl, (fw_p 39 (by decide +kernel))⟩, by unfold fw_np; decide +kernel⟩
theorem fg_MO_135 : fw_fld "FolderRightsModel" 135 5 19 := ⟨_, _, _, "FolderRightsModel", rfl, by decide, fw_i5, Or.inl rfl, Or.inl (fw_t 654 (by decide +kernel))⟩
theorem fg_MO_129 : fw_fld "FolderRightsModel" 129 5 20 := ⟨_, _, _, "FolderRightsModel", rfl, by decide, fw_i5, Or.inl rfl, Or.inl (fw_t 655 (by decide +kernel))⟩
theorem fg_MO_132 : fw_fld "FolderRightsModel" 132 5 21 := ⟨_, _, _, "FolderRightsModel", rfl, by decide, fw_i5, Or.inl rfl, Or.inl (fw_t 656 (by decide +kernel))⟩
theorem fp_MO_step_63 : fw_fpt m_MO_step 63 5 0 .int := ⟨_, _, _, "FolderRightsModel", rfl, by decide, fw_i5, Or.inl rfl, ⟨fw_y5, fw_k5⟩, fw_n5, by decide +kernel, Or.inl ⟨rfl, Or.inl (fw_t 635 (by decide +kernel))⟩⟩
theorem fp_MO_stale_63 : fw_fpt m_MO_stale 63 5 0 .int := ⟨_, _, _, "FolderRightsModel", rfl, by decide, fw_i5, Or.inl rfl, ⟨fw_y5, fw_k5⟩, fw_n5, by decide +kernel, Or.inl ⟨rfl, Or.inl (fw_t 635 (by decide +kernel))⟩⟩
theorem vc_MO_149 : fw_vc "FolderRightsModel" 149 5 m_MO_members 0 := ⟨k_MO_members, Or.inl (fw_t 871 (by decide +kernel)), (fw_t 873 (by decide +kernel)), ⟨_, _, _, rfl, (fw_p 40 (by decide +kernel))⟩, by unfold fw_np; decide +kernel⟩

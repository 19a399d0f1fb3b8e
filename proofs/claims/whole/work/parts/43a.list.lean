abbrev m_AL_size : fw_M := (⟨"java/util/ArrayList", "size", "()I"⟩, prog_21_method_8_code, 1, (some .int), { frames := 0, cells := 0, slots := 0, locals := 0 }, [])
theorem d_AL_size_0 : decode m_AL_size.2.1 0 = .ok (.aload_n 0, 1) := by decide +kernel
theorem d_AL_size_1 : decode m_AL_size.2.1 1 = .ok (.getfield 48, 3) := by decide +kernel
theorem d_AL_size_4 : decode m_AL_size.2.1 4 = .ok (.ireturn, 1) := by decide +kernel
theorem k_AL_size : fw_cal m_AL_size := ⟨by decide +kernel, by decide +kernel, (fw_t 6 (by decide +kernel)), Or.inl ⟨rfl, fw_t 374 (by decide +kernel)⟩⟩
abbrev m_AL_elementData : fw_M := (⟨"java/util/ArrayList", "elementData", "(I)Ljava/lang/Object;"⟩, prog_21_method_18_code, 2, (some (.object "java/lang/Object")), { frames := 0, cells := 0, slots := 0, locals := 0 }, [])
theorem d_AL_elementData_0 : decode m_AL_elementData.2.1 0 = .ok (.aload_n 0, 1) := by decide +kernel
theorem d_AL_elementData_1 : decode m_AL_elementData.2.1 1 = .ok (.getfield 9, 3) := by decide +kernel
theorem d_AL_elementData_4 : decode m_AL_elementData.2.1 4 = .ok (.iload_n 1, 1) := by decide +kernel
theorem d_AL_elementData_5 : decode m_AL_elementData.2.1 5 = .ok (.aaload, 1) := by decide +kernel
theorem d_AL_elementData_6 : decode m_AL_elementData.2.1 6 = .ok (.areturn, 1) := by decide +kernel
theorem k_AL_elementData : fw_cal m_AL_elementData := ⟨by decide +kernel, by decide +kernel, (fw_t 6 (by decide +kernel)), Or.inl ⟨rfl, fw_t 524 (by decide +kernel)⟩⟩
abbrev m_PC_checkIndex : fw_M := (⟨"jdk/internal/util/Preconditions", "checkIndex", "(IILjava/util/function/BiFunction;)I"⟩, prog_30_method_11_code, 3, (some .int), { frames := 0, cells := 0, slots := 0, locals := 0 }, [])
theorem d_PC_checkIndex_0 : decode m_PC_checkIndex.2.1 0 = .ok (.iload_n 0, 1) := by decide +kernel
theorem d_PC_checkIndex_1 : decode m_PC_checkIndex.2.1 1 = .ok (.ifCond .lt 8, 3) := by decide +kernel
theorem d_PC_checkIndex_4 : decode m_PC_checkIndex.2.1 4 = .ok (.iload_n 0, 1) := by decide +kernel
theorem d_PC_checkIndex_5 : decode m_PC_checkIndex.2.1 5 = .ok (.iload_n 1, 1) := by decide +kernel
theorem d_PC_checkIndex_6 : decode m_PC_checkIndex.2.1 6 = .ok (.if_icmp .lt 10, 3) := by decide +kernel
theorem d_PC_checkIndex_9 : decode m_PC_checkIndex.2.1 9 = .ok (.aload_n 2, 1) := by decide +kernel
theorem d_PC_checkIndex_10 : decode m_PC_checkIndex.2.1 10 = .ok (.iload_n 0, 1) := by decide +kernel
theorem d_PC_checkIndex_11 : decode m_PC_checkIndex.2.1 11 = .ok (.iload_n 1, 1) := by decide +kernel
theorem d_PC_checkIndex_12 : decode m_PC_checkIndex.2.1 12 = .ok (.invokestatic 95, 3) := by decide +kernel
theorem d_PC_checkIndex_15 : decode m_PC_checkIndex.2.1 15 = .ok (.athrow, 1) := by decide +kernel
theorem d_PC_checkIndex_16 : decode m_PC_checkIndex.2.1 16 = .ok (.iload_n 0, 1) := by decide +kernel
theorem d_PC_checkIndex_17 : decode m_PC_checkIndex.2.1 17 = .ok (.ireturn, 1) := by decide +kernel
theorem k_PC_checkIndex : fw_cal m_PC_checkIndex := ⟨by decide +kernel, by decide +kernel, (fw_t 20 (by decide +kernel)), Or.inl ⟨rfl, fw_t 483 (by decide +kernel)⟩⟩
abbrev m_OB_checkIndex : fw_M := (⟨"java/util/Objects", "checkIndex", "(II)I"⟩, prog_26_method_17_code, 2, (some .int), { frames := 1, cells := 0, slots := 0, locals := 22 }, [])
theorem d_OB_checkIndex_0 : decode m_OB_checkIndex.2.1 0 = .ok (.iload_n 0, 1) := by decide +kernel
theorem d_OB_checkIndex_1 : decode m_OB_checkIndex.2.1 1 = .ok (.iload_n 1, 1) := by decide +kernel
theorem d_OB_checkIndex_2 : decode m_OB_checkIndex.2.1 2 = .ok (.aconst_null, 1) := by decide +kernel
theorem d_OB_checkIndex_3 : decode m_OB_checkIndex.2.1 3 = .ok (.invokestatic 105, 3) := by decide +kernel
theorem d_OB_checkIndex_6 : decode m_OB_checkIndex.2.1 6 = .ok (.ireturn, 1) := by decide +kernel
theorem k_OB_checkIndex : fw_cal m_OB_checkIndex := ⟨by decide +kernel, by decide +kernel, (fw_t 19 (by decide +kernel)), Or.inl ⟨rfl, fw_t 480 (by decide +kernel)⟩⟩
abbrev m_AL_get : fw_M := (⟨"java/util/ArrayList", "get", "(I)Ljava/lang/Object;"⟩, prog_21_method_20_code, 2, (some (.object "java/lang/Object")), { frames := 2, cells := 0, slots := 0, locals := 43 }, [])
theorem d_AL_get_0 : decode m_AL_get.2.1 0 = .ok (.iload_n 1, 1) := by decide +kernel
theorem d_AL_get_1 : decode m_AL_get.2.1 1 = .ok (.aload_n 0, 1) := by decide +kernel
theorem d_AL_get_2 : decode m_AL_get.2.1 2 = .ok (.getfield 48, 3) := by decide +kernel
theorem d_AL_get_5 : decode m_AL_get.2.1 5 = .ok (.invokestatic 118, 3) := by decide +kernel
theorem d_AL_get_8 : decode m_AL_get.2.1 8 = .ok (.pop, 1) := by decide +kernel
theorem d_AL_get_9 : decode m_AL_get.2.1 9 = .ok (.aload_n 0, 1) := by decide +kernel
theorem d_AL_get_10 : decode m_AL_get.2.1 10 = .ok (.iload_n 1, 1) := by decide +kernel
theorem d_AL_get_11 : decode m_AL_get.2.1 11 = .ok (.invokevirtual 123, 3) := by decide +kernel
theorem d_AL_get_14 : decode m_AL_get.2.1 14 = .ok (.areturn, 1) := by decide +kernel
theorem k_AL_get : fw_cal m_AL_get := ⟨by decide +kernel, by decide +kernel, (fw_t 6 (by decide +kernel)), Or.inl ⟨rfl, fw_t 520 (by decide +kernel)⟩⟩
abbrev m_AL_rangeCheckForAdd : fw_M := (⟨"java/util/ArrayList", "rangeCheckForAdd", "(I)V"⟩, prog_21_method_45_code, 2, none, { frames := 0, cells := 0, slots := 0, locals := 0 }, [])
theorem d_AL_rangeCheckForAdd_0 : decode m_AL_rangeCheckForAdd.2.1 0 = .ok (.iload_n 1, 1) := by decide +kernel
theorem d_AL_rangeCheckForAdd_1 : decode m_AL_rangeCheckForAdd.2.1 1 = .ok (.aload_n 0, 1) := by decide +kernel
theorem d_AL_rangeCheckForAdd_2 : decode m_AL_rangeCheckForAdd.2.1 2 = .ok (.getfield 48, 3) := by decide +kernel
theorem d_AL_rangeCheckForAdd_5 : decode m_AL_rangeCheckForAdd.2.1 5 = .ok (.if_icmp .gt 7, 3) := by decide +kernel
theorem d_AL_rangeCheckForAdd_8 : decode m_AL_rangeCheckForAdd.2.1 8 = .ok (.iload_n 1, 1) := by decide +kernel
theorem d_AL_rangeCheckForAdd_9 : decode m_AL_rangeCheckForAdd.2.1 9 = .ok (.ifCond .ge 16, 3) := by decide +kernel
theorem d_AL_rangeCheckForAdd_12 : decode m_AL_rangeCheckForAdd.2.1 12 = .ok (.new 187, 3) := by decide +kernel
theorem d_AL_rangeCheckForAdd_15 : decode m_AL_rangeCheckForAdd.2.1 15 = .ok (.dup, 1) := by decide +kernel
theorem d_AL_rangeCheckForAdd_16 : decode m_AL_rangeCheckForAdd.2.1 16 = .ok (.aload_n 0, 1) := by decide +kernel
theorem d_AL_rangeCheckForAdd_17 : decode m_AL_rangeCheckForAdd.2.1 17 = .ok (.iload_n 1, 1) := by decide +kernel
theorem d_AL_rangeCheckForAdd_18 : decode m_AL_rangeCheckForAdd.2.1 18 = .ok (.invokevirtual 198, 3) := by decide +kernel
theorem d_AL_rangeCheckForAdd_21 : decode m_AL_rangeCheckForAdd.2.1 21 = .ok (.invokespecial 193, 3) := by decide +kernel
theorem d_AL_rangeCheckForAdd_24 : decode m_AL_rangeCheckForAdd.2.1 24 = .ok (.athrow, 1) := by decide +kernel
theorem d_AL_rangeCheckForAdd_25 : decode m_AL_rangeCheckForAdd.2.1 25 = .ok (.return_, 1) := by decide +kernel
theorem k_AL_rangeCheckForAdd : fw_cal m_AL_rangeCheckForAdd := ⟨by decide +kernel, by decide +kernel, (fw_t 6 (by decide +kernel)), Or.inl ⟨rfl, fw_t 418 (by decide +kernel)⟩⟩
abbrev m_MA_max : fw_M := (⟨"java/lang/Math", "max", "(II)I"⟩, prog_14_method_65_code, 2, (some .int), { frames := 0, cells := 0, slots := 0, locals := 0 }, [])
theorem d_MA_max_0 : decode m_MA_max.2.1 0 = .ok (.iload_n 0, 1) := by decide +kernel
theorem d_MA_max_1 : decode m_MA_max.2.1 1 = .ok (.iload_n 1, 1) := by decide +kernel
theorem d_MA_max_2 : decode m_MA_max.2.1 2 = .ok (.if_icmp .lt 7, 3) := by decide +kernel
theorem d_MA_max_5 : decode m_MA_max.2.1 5 = .ok (.iload_n 0, 1) := by decide +kernel
theorem d_MA_max_6 : decode m_MA_max.2.1 6 = .ok (.goto 4, 3) := by decide +kernel
theorem d_MA_max_9 : decode m_MA_max.2.1 9 = .ok (.iload_n 1, 1) := by decide +kernel
theorem d_MA_max_10 : decode m_MA_max.2.1 10 = .ok (.ireturn, 1) := by decide +kernel
theorem k_MA_max : fw_cal m_MA_max := ⟨by decide +kernel, by decide +kernel, (fw_t 14 (by decide +kernel)), Or.inl ⟨rfl, fw_t 353 (by decide +kernel)⟩⟩
abbrev m_MA_min : fw_M := (⟨"java/lang/Math", "min", "(II)I"⟩, prog_14_method_69_code, 2, (some .int), { frames := 0, cells := 0, slots := 0, locals := 0 }, [])
theorem d_MA_min_0 : decode m_MA_min.2.1 0 = .ok (.iload_n 0, 1) := by decide +kernel
theorem d_MA_min_1 : decode m_MA_min.2.1 1 = .ok (.iload_n 1, 1) := by decide +kernel
theorem d_MA_min_2 : decode m_MA_min.2.1 2 = .ok (.if_icmp .gt 7, 3) := by decide +kernel
theorem d_MA_min_5 : decode m_MA_min.2.1 5 = .ok (.iload_n 0, 1) := by decide +kernel
theorem d_MA_min_6 : decode m_MA_min.2.1 6 = .ok (.goto 4, 3) := by decide +kernel
theorem d_MA_min_9 : decode m_MA_min.2.1 9 = .ok (.iload_n 1, 1) := by decide +kernel
theorem d_MA_min_10 : decode m_MA_min.2.1 10 = .ok (.ireturn, 1) := by decide +kernel
theorem k_MA_min : fw_cal m_MA_min := ⟨by decide +kernel, by decide +kernel, (fw_t 14 (by decide +kernel)), Or.inl ⟨rfl, fw_t 459 (by decide +kernel)⟩⟩
abbrev m_AP_newLength : fw_M := (⟨"jdk/internal/util/ArraysSupport", "newLength", "(III)I"⟩, prog_29_method_27_code, 4, (some .int), { frames := 1, cells := 0, slots := 0, locals := 22 }, [])
theorem d_AP_newLength_0 : decode m_AP_newLength.2.1 0 = .ok (.iload_n 0, 1) := by decide +kernel
theorem d_AP_newLength_1 : decode m_AP_newLength.2.1 1 = .ok (.iload_n 1, 1) := by decide +kernel
theorem d_AP_newLength_2 : decode m_AP_newLength.2.1 2 = .ok (.iload_n 2, 1) := by decide +kernel
theorem d_AP_newLength_3 : decode m_AP_newLength.2.1 3 = .ok (.invokestatic 194, 3) := by decide +kernel
theorem d_AP_newLength_6 : decode m_AP_newLength.2.1 6 = .ok (.iadd, 1) := by decide +kernel
theorem d_AP_newLength_7 : decode m_AP_newLength.2.1 7 = .ok (.istore_n 3, 1) := by decide +kernel
theorem d_AP_newLength_8 : decode m_AP_newLength.2.1 8 = .ok (.iconst 0, 1) := by decide +kernel
theorem d_AP_newLength_9 : decode m_AP_newLength.2.1 9 = .ok (.iload_n 3, 1) := by decide +kernel
theorem d_AP_newLength_10 : decode m_AP_newLength.2.1 10 = .ok (.if_icmp .ge 11, 3) := by decide +kernel
theorem d_AP_newLength_13 : decode m_AP_newLength.2.1 13 = .ok (.iload_n 3, 1) := by decide +kernel
theorem d_AP_newLength_14 : decode m_AP_newLength.2.1 14 = .ok (.ldc 200, 2) := by decide +kernel
theorem d_AP_newLength_16 : decode m_AP_newLength.2.1 16 = .ok (.if_icmp .gt 5, 3) := by decide +kernel
theorem d_AP_newLength_19 : decode m_AP_newLength.2.1 19 = .ok (.iload_n 3, 1) := by decide +kernel
theorem d_AP_newLength_20 : decode m_AP_newLength.2.1 20 = .ok (.ireturn, 1) := by decide +kernel
theorem d_AP_newLength_21 : decode m_AP_newLength.2.1 21 = .ok (.iload_n 0, 1) := by decide +kernel
theorem d_AP_newLength_22 : decode m_AP_newLength.2.1 22 = .ok (.iload_n 1, 1) := by decide +kernel
theorem d_AP_newLength_23 : decode m_AP_newLength.2.1 23 = .ok (.invokestatic 201, 3) := by decide +kernel
theorem d_AP_newLength_26 : decode m_AP_newLength.2.1 26 = .ok (.ireturn, 1) := by decide +kernel
theorem k_AP_newLength : fw_cal m_AP_newLength := ⟨by decide +kernel, by decide +kernel, (fw_t 16 (by decide +kernel)), Or.inl ⟨rfl, fw_t 429 (by decide +kernel)⟩⟩
abbrev m_AS_copyOf2 : fw_M := (⟨"java/util/Arrays", "copyOf", "([Ljava/lang/Object;ILjava/lang/Class;)[Ljava/lang/Object;"⟩, prog_22_method_120_code, 4, (some (.array (.object "java/lang/Object"))), { frames := 1, cells := 1, slots := 15, locals := 70 }, [])
theorem d_AS_copyOf2_0 : decode m_AS_copyOf2.2.1 0 = .ok (.aload_n 2, 1) := by decide +kernel
theorem d_AS_copyOf2_1 : decode m_AS_copyOf2.2.1 1 = .ok (.ldc 110, 2) := by decide +kernel
theorem d_AS_copyOf2_3 : decode m_AS_copyOf2.2.1 3 = .ok (.if_acmp .ne 10, 3) := by decide +kernel
theorem d_AS_copyOf2_6 : decode m_AS_copyOf2.2.1 6 = .ok (.iload_n 1, 1) := by decide +kernel
theorem d_AS_copyOf2_7 : decode m_AS_copyOf2.2.1 7 = .ok (.anewarray 2, 3) := by decide +kernel
theorem d_AS_copyOf2_10 : decode m_AS_copyOf2.2.1 10 = .ok (.goto 14, 3) := by decide +kernel
theorem d_AS_copyOf2_13 : decode m_AS_copyOf2.2.1 13 = .ok (.aload_n 2, 1) := by decide +kernel
theorem d_AS_copyOf2_14 : decode m_AS_copyOf2.2.1 14 = .ok (.invokevirtual 90, 3) := by decide +kernel
theorem d_AS_copyOf2_17 : decode m_AS_copyOf2.2.1 17 = .ok (.iload_n 1, 1) := by decide +kernel
theorem d_AS_copyOf2_18 : decode m_AS_copyOf2.2.1 18 = .ok (.invokestatic 95, 3) := by decide +kernel
theorem d_AS_copyOf2_21 : decode m_AS_copyOf2.2.1 21 = .ok (.checkcast 110, 3) := by decide +kernel
theorem d_AS_copyOf2_24 : decode m_AS_copyOf2.2.1 24 = .ok (.astore_n 3, 1) := by decide +kernel
theorem d_AS_copyOf2_25 : decode m_AS_copyOf2.2.1 25 = .ok (.aload_n 0, 1) := by decide +kernel
theorem d_AS_copyOf2_26 : decode m_AS_copyOf2.2.1 26 = .ok (.iconst 0, 1) := by decide +kernel
theorem d_AS_copyOf2_27 : decode m_AS_copyOf2.2.1 27 = .ok (.aload_n 3, 1) := by decide +kernel
theorem d_AS_copyOf2_28 : decode m_AS_copyOf2.2.1 28 = .ok (.iconst 0, 1) := by decide +kernel
theorem d_AS_copyOf2_29 : decode m_AS_copyOf2.2.1 29 = .ok (.aload_n 0, 1) := by decide +kernel
theorem d_AS_copyOf2_30 : decode m_AS_copyOf2.2.1 30 = .ok (.arraylength, 1) := by decide +kernel
theorem d_AS_copyOf2_31 : decode m_AS_copyOf2.2.1 31 = .ok (.iload_n 1, 1) := by decide +kernel
theorem d_AS_copyOf2_32 : decode m_AS_copyOf2.2.1 32 = .ok (.invokestatic 304, 3) := by decide +kernel
theorem d_AS_copyOf2_35 : decode m_AS_copyOf2.2.1 35 = .ok (.invokestatic 150, 3) := by decide +kernel
theorem d_AS_copyOf2_38 : decode m_AS_copyOf2.2.1 38 = .ok (.aload_n 3, 1) := by decide +kernel
theorem d_AS_copyOf2_39 : decode m_AS_copyOf2.2.1 39 = .ok (.areturn, 1) := by decide +kernel
theorem k_AS_copyOf2 : fw_cal m_AS_copyOf2 := ⟨by decide +kernel, by decide +kernel, (fw_t 17 (by decide +kernel)), Or.inl ⟨rfl, fw_t 453 (by decide +kernel)⟩⟩
abbrev m_AS_copyOf1 : fw_M := (⟨"java/util/Arrays", "copyOf", "([Ljava/lang/Object;I)[Ljava/lang/Object;"⟩, prog_22_method_119_code, 2, (some (.array (.object "java/lang/Object"))), { frames := 2, cells := 1, slots := 15, locals := 93 }, [])
theorem d_AS_copyOf1_0 : decode m_AS_copyOf1.2.1 0 = .ok (.aload_n 0, 1) := by decide +kernel
theorem d_AS_copyOf1_1 : decode m_AS_copyOf1.2.1 1 = .ok (.iload_n 1, 1) := by decide +kernel
theorem d_AS_copyOf1_2 : decode m_AS_copyOf1.2.1 2 = .ok (.aload_n 0, 1) := by decide +kernel
theorem d_AS_copyOf1_3 : decode m_AS_copyOf1.2.1 3 = .ok (.invokevirtual 86, 3) := by decide +kernel
theorem d_AS_copyOf1_6 : decode m_AS_copyOf1.2.1 6 = .ok (.invokestatic 300, 3) := by decide +kernel
theorem d_AS_copyOf1_9 : decode m_AS_copyOf1.2.1 9 = .ok (.areturn, 1) := by decide +kernel
theorem k_AS_copyOf1 : fw_cal m_AS_copyOf1 := ⟨by decide +kernel, by decide +kernel, (fw_t 17 (by decide +kernel)), Or.inl ⟨rfl, fw_t 437 (by decide +kernel)⟩⟩
abbrev m_AL_grow2 : fw_M := (⟨"java/util/ArrayList", "grow", "(I)[Ljava/lang/Object;"⟩, prog_21_method_6_code, 4, (some (.array (.object "java/lang/Object"))), { frames := 3, cells := 2, slots := 25, locals := 114 }, [])
theorem d_AL_grow2_0 : decode m_AL_grow2.2.1 0 = .ok (.aload_n 0, 1) := by decide +kernel
theorem d_AL_grow2_1 : decode m_AL_grow2.2.1 1 = .ok (.getfield 9, 3) := by decide +kernel
theorem d_AL_grow2_4 : decode m_AL_grow2.2.1 4 = .ok (.arraylength, 1) := by decide +kernel
theorem d_AL_grow2_5 : decode m_AL_grow2.2.1 5 = .ok (.istore_n 2, 1) := by decide +kernel
theorem d_AL_grow2_6 : decode m_AL_grow2.2.1 6 = .ok (.iload_n 2, 1) := by decide +kernel
theorem d_AL_grow2_7 : decode m_AL_grow2.2.1 7 = .ok (.ifCond .gt 13, 3) := by decide +kernel
theorem d_AL_grow2_10 : decode m_AL_grow2.2.1 10 = .ok (.aload_n 0, 1) := by decide +kernel
theorem d_AL_grow2_11 : decode m_AL_grow2.2.1 11 = .ok (.getfield 9, 3) := by decide +kernel
theorem d_AL_grow2_14 : decode m_AL_grow2.2.1 14 = .ok (.getstatic 39, 3) := by decide +kernel
theorem d_AL_grow2_17 : decode m_AL_grow2.2.1 17 = .ok (.if_acmp .eq 28, 3) := by decide +kernel
theorem d_AL_grow2_20 : decode m_AL_grow2.2.1 20 = .ok (.iload_n 2, 1) := by decide +kernel
theorem d_AL_grow2_21 : decode m_AL_grow2.2.1 21 = .ok (.iload_n 1, 1) := by decide +kernel
theorem d_AL_grow2_22 : decode m_AL_grow2.2.1 22 = .ok (.iload_n 2, 1) := by decide +kernel
theorem d_AL_grow2_23 : decode m_AL_grow2.2.1 23 = .ok (.isub, 1) := by decide +kernel
theorem d_AL_grow2_24 : decode m_AL_grow2.2.1 24 = .ok (.iload_n 2, 1) := by decide +kernel
theorem d_AL_grow2_25 : decode m_AL_grow2.2.1 25 = .ok (.iconst 1, 1) := by decide +kernel
theorem d_AL_grow2_26 : decode m_AL_grow2.2.1 26 = .ok (.ishr, 1) := by decide +kernel
theorem d_AL_grow2_27 : decode m_AL_grow2.2.1 27 = .ok (.invokestatic 73, 3) := by decide +kernel
theorem d_AL_grow2_30 : decode m_AL_grow2.2.1 30 = .ok (.istore_n 3, 1) := by decide +kernel
theorem d_AL_grow2_31 : decode m_AL_grow2.2.1 31 = .ok (.aload_n 0, 1) := by decide +kernel
theorem d_AL_grow2_32 : decode m_AL_grow2.2.1 32 = .ok (.aload_n 0, 1) := by decide +kernel
theorem d_AL_grow2_33 : decode m_AL_grow2.2.1 33 = .ok (.getfield 9, 3) := by decide +kernel
theorem d_AL_grow2_36 : decode m_AL_grow2.2.1 36 = .ok (.iload_n 3, 1) := by decide +kernel
theorem d_AL_grow2_37 : decode m_AL_grow2.2.1 37 = .ok (.invokestatic 66, 3) := by decide +kernel
theorem d_AL_grow2_40 : decode m_AL_grow2.2.1 40 = .ok (.dup_x1, 1) := by decide +kernel
theorem d_AL_grow2_41 : decode m_AL_grow2.2.1 41 = .ok (.putfield 9, 3) := by decide +kernel
theorem d_AL_grow2_44 : decode m_AL_grow2.2.1 44 = .ok (.areturn, 1) := by decide +kernel
theorem d_AL_grow2_45 : decode m_AL_grow2.2.1 45 = .ok (.aload_n 0, 1) := by decide +kernel
theorem d_AL_grow2_46 : decode m_AL_grow2.2.1 46 = .ok (.bipush 10, 2) := by decide +kernel
theorem d_AL_grow2_48 : decode m_AL_grow2.2.1 48 = .ok (.iload_n 1, 1) := by decide +kernel
theorem d_AL_grow2_49 : decode m_AL_grow2.2.1 49 = .ok (.invokestatic 79, 3) := by decide +kernel
theorem d_AL_grow2_52 : decode m_AL_grow2.2.1 52 = .ok (.anewarray 7, 3) := by decide +kernel
theorem d_AL_grow2_55 : decode m_AL_grow2.2.1 55 = .ok (.dup_x1, 1) := by decide +kernel
theorem d_AL_grow2_56 : decode m_AL_grow2.2.1 56 = .ok (.putfield 9, 3) := by decide +kernel
theorem d_AL_grow2_59 : decode m_AL_grow2.2.1 59 = .ok (.areturn, 1) := by decide +kernel
theorem k_AL_grow2 : fw_cal m_AL_grow2 := ⟨by decide +kernel, by decide +kernel, (fw_t 6 (by decide +kernel)), Or.inl ⟨rfl, fw_t 426 (by decide +kernel)⟩⟩
abbrev m_AL_grow1 : fw_M := (⟨"java/util/ArrayList", "grow", "()[Ljava/lang/Object;"⟩, prog_21_method_7_code, 1, (some (.array (.object "java/lang/Object"))), { frames := 4, cells := 2, slots := 25, locals := 137 }, [])
theorem d_AL_grow1_0 : decode m_AL_grow1.2.1 0 = .ok (.aload_n 0, 1) := by decide +kernel
theorem d_AL_grow1_1 : decode m_AL_grow1.2.1 1 = .ok (.aload_n 0, 1) := by decide +kernel
theorem d_AL_grow1_2 : decode m_AL_grow1.2.1 2 = .ok (.getfield 48, 3) := by decide +kernel
theorem d_AL_grow1_5 : decode m_AL_grow1.2.1 5 = .ok (.iconst 1, 1) := by decide +kernel
theorem d_AL_grow1_6 : decode m_AL_grow1.2.1 6 = .ok (.iadd, 1) := by decide +kernel
theorem d_AL_grow1_7 : decode m_AL_grow1.2.1 7 = .ok (.invokevirtual 69, 3) := by decide +kernel
theorem d_AL_grow1_10 : decode m_AL_grow1.2.1 10 = .ok (.areturn, 1) := by decide +kernel
theorem k_AL_grow1 : fw_cal m_AL_grow1 := ⟨by decide +kernel, by decide +kernel, (fw_t 6 (by decide +kernel)), Or.inl ⟨rfl, fw_t 422 (by decide +kernel)⟩⟩
abbrev m_AL_add : fw_M := (⟨"java/util/ArrayList", "add", "(ILjava/lang/Object;)V"⟩, prog_21_method_26_code, 5, none, { frames := 5, cells := 2, slots := 25, locals := 157 }, [])
theorem d_AL_add_0 : decode m_AL_add.2.1 0 = .ok (.aload_n 0, 1) := by decide +kernel
theorem d_AL_add_1 : decode m_AL_add.2.1 1 = .ok (.iload_n 1, 1) := by decide +kernel
theorem d_AL_add_2 : decode m_AL_add.2.1 2 = .ok (.invokevirtual 135, 3) := by decide +kernel
theorem d_AL_add_5 : decode m_AL_add.2.1 5 = .ok (.aload_n 0, 1) := by decide +kernel
theorem d_AL_add_6 : decode m_AL_add.2.1 6 = .ok (.dup, 1) := by decide +kernel
theorem d_AL_add_7 : decode m_AL_add.2.1 7 = .ok (.getfield 63, 3) := by decide +kernel
theorem d_AL_add_10 : decode m_AL_add.2.1 10 = .ok (.iconst 1, 1) := by decide +kernel
theorem d_AL_add_11 : decode m_AL_add.2.1 11 = .ok (.iadd, 1) := by decide +kernel
theorem d_AL_add_12 : decode m_AL_add.2.1 12 = .ok (.putfield 63, 3) := by decide +kernel
theorem d_AL_add_15 : decode m_AL_add.2.1 15 = .ok (.aload_n 0, 1) := by decide +kernel
theorem d_AL_add_16 : decode m_AL_add.2.1 16 = .ok (.getfield 48, 3) := by decide +kernel
theorem d_AL_add_19 : decode m_AL_add.2.1 19 = .ok (.dup, 1) := by decide +kernel
theorem d_AL_add_20 : decode m_AL_add.2.1 20 = .ok (.istore_n 3, 1) := by decide +kernel
theorem d_AL_add_21 : decode m_AL_add.2.1 21 = .ok (.aload_n 0, 1) := by decide +kernel
theorem d_AL_add_22 : decode m_AL_add.2.1 22 = .ok (.getfield 9, 3) := by decide +kernel
theorem d_AL_add_25 : decode m_AL_add.2.1 25 = .ok (.dup, 1) := by decide +kernel
theorem d_AL_add_26 : decode m_AL_add.2.1 26 = .ok (.astore 4, 2) := by decide +kernel
theorem d_AL_add_28 : decode m_AL_add.2.1 28 = .ok (.arraylength, 1) := by decide +kernel
theorem d_AL_add_29 : decode m_AL_add.2.1 29 = .ok (.if_icmp .ne 9, 3) := by decide +kernel
theorem d_AL_add_32 : decode m_AL_add.2.1 32 = .ok (.aload_n 0, 1) := by decide +kernel
theorem d_AL_add_33 : decode m_AL_add.2.1 33 = .ok (.invokevirtual 129, 3) := by decide +kernel
theorem d_AL_add_36 : decode m_AL_add.2.1 36 = .ok (.astore 4, 2) := by decide +kernel
theorem d_AL_add_38 : decode m_AL_add.2.1 38 = .ok (.aload 4, 2) := by decide +kernel
theorem d_AL_add_40 : decode m_AL_add.2.1 40 = .ok (.iload_n 1, 1) := by decide +kernel
theorem d_AL_add_41 : decode m_AL_add.2.1 41 = .ok (.aload 4, 2) := by decide +kernel
theorem d_AL_add_43 : decode m_AL_add.2.1 43 = .ok (.iload_n 1, 1) := by decide +kernel
theorem d_AL_add_44 : decode m_AL_add.2.1 44 = .ok (.iconst 1, 1) := by decide +kernel
theorem d_AL_add_45 : decode m_AL_add.2.1 45 = .ok (.iadd, 1) := by decide +kernel
theorem d_AL_add_46 : decode m_AL_add.2.1 46 = .ok (.iload_n 3, 1) := by decide +kernel
theorem d_AL_add_47 : decode m_AL_add.2.1 47 = .ok (.iload_n 1, 1) := by decide +kernel
theorem d_AL_add_48 : decode m_AL_add.2.1 48 = .ok (.isub, 1) := by decide +kernel
theorem d_AL_add_49 : decode m_AL_add.2.1 49 = .ok (.invokestatic 112, 3) := by decide +kernel
theorem d_AL_add_52 : decode m_AL_add.2.1 52 = .ok (.aload 4, 2) := by decide +kernel
theorem d_AL_add_54 : decode m_AL_add.2.1 54 = .ok (.iload_n 1, 1) := by decide +kernel
theorem d_AL_add_55 : decode m_AL_add.2.1 55 = .ok (.aload_n 2, 1) := by decide +kernel
theorem d_AL_add_56 : decode m_AL_add.2.1 56 = .ok (.aastore, 1) := by decide +kernel
theorem d_AL_add_57 : decode m_AL_add.2.1 57 = .ok (.aload_n 0, 1) := by decide +kernel
theorem d_AL_add_58 : decode m_AL_add.2.1 58 = .ok (.iload_n 3, 1) := by decide +kernel
theorem d_AL_add_59 : decode m_AL_add.2.1 59 = .ok (.iconst 1, 1) := by decide +kernel
theorem d_AL_add_60 : decode m_AL_add.2.1 60 = .ok (.iadd, 1) := by decide +kernel
theorem d_AL_add_61 : decode m_AL_add.2.1 61 = .ok (.putfield 48, 3) := by decide +kernel
theorem d_AL_add_64 : decode m_AL_add.2.1 64 = .ok (.return_, 1) := by decide +kernel
theorem k_AL_add : fw_cal m_AL_add := ⟨by decide +kernel, by decide +kernel, (fw_t 6 (by decide +kernel)), Or.inl ⟨rfl, fw_t 414 (by decide +kernel)⟩⟩
abbrev m_AL_fastRemove : fw_M := (⟨"java/util/ArrayList", "fastRemove", "([Ljava/lang/Object;I)V"⟩, prog_21_method_39_code, 4, none, { frames := 1, cells := 0, slots := 0, locals := 70 }, [])
theorem d_AL_fastRemove_0 : decode m_AL_fastRemove.2.1 0 = .ok (.aload_n 0, 1) := by decide +kernel
theorem d_AL_fastRemove_1 : decode m_AL_fastRemove.2.1 1 = .ok (.dup, 1) := by decide +kernel
theorem d_AL_fastRemove_2 : decode m_AL_fastRemove.2.1 2 = .ok (.getfield 63, 3) := by decide +kernel
theorem d_AL_fastRemove_5 : decode m_AL_fastRemove.2.1 5 = .ok (.iconst 1, 1) := by decide +kernel
theorem d_AL_fastRemove_6 : decode m_AL_fastRemove.2.1 6 = .ok (.iadd, 1) := by decide +kernel
theorem d_AL_fastRemove_7 : decode m_AL_fastRemove.2.1 7 = .ok (.putfield 63, 3) := by decide +kernel
theorem d_AL_fastRemove_10 : decode m_AL_fastRemove.2.1 10 = .ok (.aload_n 0, 1) := by decide +kernel
theorem d_AL_fastRemove_11 : decode m_AL_fastRemove.2.1 11 = .ok (.getfield 48, 3) := by decide +kernel
theorem d_AL_fastRemove_14 : decode m_AL_fastRemove.2.1 14 = .ok (.iconst 1, 1) := by decide +kernel
theorem d_AL_fastRemove_15 : decode m_AL_fastRemove.2.1 15 = .ok (.isub, 1) := by decide +kernel
theorem d_AL_fastRemove_16 : decode m_AL_fastRemove.2.1 16 = .ok (.dup, 1) := by decide +kernel
theorem d_AL_fastRemove_17 : decode m_AL_fastRemove.2.1 17 = .ok (.istore_n 3, 1) := by decide +kernel
theorem d_AL_fastRemove_18 : decode m_AL_fastRemove.2.1 18 = .ok (.iload_n 2, 1) := by decide +kernel
theorem d_AL_fastRemove_19 : decode m_AL_fastRemove.2.1 19 = .ok (.if_icmp .le 15, 3) := by decide +kernel
theorem d_AL_fastRemove_22 : decode m_AL_fastRemove.2.1 22 = .ok (.aload_n 1, 1) := by decide +kernel
theorem d_AL_fastRemove_23 : decode m_AL_fastRemove.2.1 23 = .ok (.iload_n 2, 1) := by decide +kernel
theorem d_AL_fastRemove_24 : decode m_AL_fastRemove.2.1 24 = .ok (.iconst 1, 1) := by decide +kernel
theorem d_AL_fastRemove_25 : decode m_AL_fastRemove.2.1 25 = .ok (.iadd, 1) := by decide +kernel
theorem d_AL_fastRemove_26 : decode m_AL_fastRemove.2.1 26 = .ok (.aload_n 1, 1) := by decide +kernel
theorem d_AL_fastRemove_27 : decode m_AL_fastRemove.2.1 27 = .ok (.iload_n 2, 1) := by decide +kernel
theorem d_AL_fastRemove_28 : decode m_AL_fastRemove.2.1 28 = .ok (.iload_n 3, 1) := by decide +kernel
theorem d_AL_fastRemove_29 : decode m_AL_fastRemove.2.1 29 = .ok (.iload_n 2, 1) := by decide +kernel
theorem d_AL_fastRemove_30 : decode m_AL_fastRemove.2.1 30 = .ok (.isub, 1) := by decide +kernel
theorem d_AL_fastRemove_31 : decode m_AL_fastRemove.2.1 31 = .ok (.invokestatic 112, 3) := by decide +kernel
theorem d_AL_fastRemove_34 : decode m_AL_fastRemove.2.1 34 = .ok (.aload_n 1, 1) := by decide +kernel
theorem d_AL_fastRemove_35 : decode m_AL_fastRemove.2.1 35 = .ok (.aload_n 0, 1) := by decide +kernel
theorem d_AL_fastRemove_36 : decode m_AL_fastRemove.2.1 36 = .ok (.iload_n 3, 1) := by decide +kernel
theorem d_AL_fastRemove_37 : decode m_AL_fastRemove.2.1 37 = .ok (.dup_x1, 1) := by decide +kernel
theorem d_AL_fastRemove_38 : decode m_AL_fastRemove.2.1 38 = .ok (.putfield 48, 3) := by decide +kernel
theorem d_AL_fastRemove_41 : decode m_AL_fastRemove.2.1 41 = .ok (.aconst_null, 1) := by decide +kernel
theorem d_AL_fastRemove_42 : decode m_AL_fastRemove.2.1 42 = .ok (.aastore, 1) := by decide +kernel
theorem d_AL_fastRemove_43 : decode m_AL_fastRemove.2.1 43 = .ok (.return_, 1) := by decide +kernel
theorem k_AL_fastRemove : fw_cal m_AL_fastRemove := ⟨by decide +kernel, by decide +kernel, (fw_t 6 (by decide +kernel)), Or.inl ⟨rfl, fw_t 487 (by decide +kernel)⟩⟩
abbrev m_AL_remove : fw_M := (⟨"java/util/ArrayList", "remove", "(I)Ljava/lang/Object;"⟩, prog_21_method_29_code, 4, (some (.object "java/lang/Object")), { frames := 2, cells := 0, slots := 0, locals := 93 }, [])
theorem d_AL_remove_0 : decode m_AL_remove.2.1 0 = .ok (.iload_n 1, 1) := by decide +kernel
theorem d_AL_remove_1 : decode m_AL_remove.2.1 1 = .ok (.aload_n 0, 1) := by decide +kernel
theorem d_AL_remove_2 : decode m_AL_remove.2.1 2 = .ok (.getfield 48, 3) := by decide +kernel
theorem d_AL_remove_5 : decode m_AL_remove.2.1 5 = .ok (.invokestatic 118, 3) := by decide +kernel
theorem d_AL_remove_8 : decode m_AL_remove.2.1 8 = .ok (.pop, 1) := by decide +kernel
theorem d_AL_remove_9 : decode m_AL_remove.2.1 9 = .ok (.aload_n 0, 1) := by decide +kernel
theorem d_AL_remove_10 : decode m_AL_remove.2.1 10 = .ok (.getfield 9, 3) := by decide +kernel
theorem d_AL_remove_13 : decode m_AL_remove.2.1 13 = .ok (.astore_n 2, 1) := by decide +kernel
theorem d_AL_remove_14 : decode m_AL_remove.2.1 14 = .ok (.aload_n 2, 1) := by decide +kernel
theorem d_AL_remove_15 : decode m_AL_remove.2.1 15 = .ok (.iload_n 1, 1) := by decide +kernel
theorem d_AL_remove_16 : decode m_AL_remove.2.1 16 = .ok (.aaload, 1) := by decide +kernel
theorem d_AL_remove_17 : decode m_AL_remove.2.1 17 = .ok (.astore_n 3, 1) := by decide +kernel
theorem d_AL_remove_18 : decode m_AL_remove.2.1 18 = .ok (.aload_n 0, 1) := by decide +kernel
theorem d_AL_remove_19 : decode m_AL_remove.2.1 19 = .ok (.aload_n 2, 1) := by decide +kernel
theorem d_AL_remove_20 : decode m_AL_remove.2.1 20 = .ok (.iload_n 1, 1) := by decide +kernel
theorem d_AL_remove_21 : decode m_AL_remove.2.1 21 = .ok (.invokevirtual 144, 3) := by decide +kernel
theorem d_AL_remove_24 : decode m_AL_remove.2.1 24 = .ok (.aload_n 3, 1) := by decide +kernel
theorem d_AL_remove_25 : decode m_AL_remove.2.1 25 = .ok (.areturn, 1) := by decide +kernel
theorem k_AL_remove : fw_cal m_AL_remove := ⟨by decide +kernel, by decide +kernel, (fw_t 6 (by decide +kernel)), Or.inl ⟨rfl, fw_t 477 (by decide +kernel)⟩⟩
abbrev m_BC_init : fw_M := (⟨"java/util/AbstractCollection", "<init>", "()V"⟩, prog_19_method_1_code, 1, none, { frames := 1, cells := 0, slots := 0, locals := 20 }, [])
theorem d_BC_init_0 : decode m_BC_init.2.1 0 = .ok (.aload_n 0, 1) := by decide +kernel
theorem d_BC_init_1 : decode m_BC_init.2.1 1 = .ok (.invokespecial 1, 3) := by decide +kernel
theorem d_BC_init_4 : decode m_BC_init.2.1 4 = .ok (.return_, 1) := by decide +kernel
theorem k_BC_init : fw_cal m_BC_init := ⟨by decide +kernel, by decide +kernel, (fw_t 4 (by decide +kernel)), Or.inl ⟨rfl, fw_t 72 (by decide +kernel)⟩⟩
abbrev m_BL_init : fw_M := (⟨"java/util/AbstractList", "<init>", "()V"⟩, prog_20_method_1_code, 1, none, { frames := 2, cells := 0, slots := 0, locals := 40 }, [])
theorem d_BL_init_0 : decode m_BL_init.2.1 0 = .ok (.aload_n 0, 1) := by decide +kernel
theorem d_BL_init_1 : decode m_BL_init.2.1 1 = .ok (.invokespecial 1, 3) := by decide +kernel
theorem d_BL_init_4 : decode m_BL_init.2.1 4 = .ok (.aload_n 0, 1) := by decide +kernel
theorem d_BL_init_5 : decode m_BL_init.2.1 5 = .ok (.iconst 0, 1) := by decide +kernel
theorem d_BL_init_6 : decode m_BL_init.2.1 6 = .ok (.putfield 7, 3) := by decide +kernel
theorem d_BL_init_9 : decode m_BL_init.2.1 9 = .ok (.return_, 1) := by decide +kernel
theorem k_BL_init : fw_cal m_BL_init := ⟨by decide +kernel, by decide +kernel, (fw_t 5 (by decide +kernel)), Or.inl ⟨rfl, fw_t 69 (by decide +kernel)⟩⟩
abbrev m_AL_init : fw_M := (⟨"java/util/ArrayList", "<init>", "()V"⟩, prog_21_method_2_code, 1, none, { frames := 3, cells := 0, slots := 0, locals := 60 }, [])
theorem d_AL_init_0 : decode m_AL_init.2.1 0 = .ok (.aload_n 0, 1) := by decide +kernel
theorem d_AL_init_1 : decode m_AL_init.2.1 1 = .ok (.invokespecial 1, 3) := by decide +kernel
theorem d_AL_init_4 : decode m_AL_init.2.1 4 = .ok (.aload_n 0, 1) := by decide +kernel
theorem d_AL_init_5 : decode m_AL_init.2.1 5 = .ok (.getstatic 39, 3) := by decide +kernel
theorem d_AL_init_8 : decode m_AL_init.2.1 8 = .ok (.putfield 9, 3) := by decide +kernel
theorem d_AL_init_11 : decode m_AL_init.2.1 11 = .ok (.return_, 1) := by decide +kernel
theorem k_AL_init : fw_cal m_AL_init := ⟨by decide +kernel, by decide +kernel, (fw_t 6 (by decide +kernel)), Or.inl ⟨rfl, fw_t 66 (by decide +kernel)⟩⟩
theorem fg_AL_48 : fw_fld "java/util/ArrayList" 48 4 2 := ⟨_, _, _, "java/util/ArrayList", rfl, by decide, fw_i4, Or.inl rfl, Or.inl (fw_t 77 (by decide +kernel))⟩
theorem fg_AL_9 : fw_fld "java/util/ArrayList" 9 4 1 := ⟨_, _, _, "java/util/ArrayList", rfl, by decide, fw_i4, Or.inl rfl, Or.inl (fw_t 76 (by decide +kernel))⟩
theorem lk_OB_105 : fw_lk "java/util/Objects" 105 ⟨"jdk/internal/util/Preconditions", "checkIndex", "(IILjava/util/function/BiFunction;)I"⟩ := Or.inl (fw_t 481 (by decide +kernel))
theorem np_PC_checkIndex : fw_np ⟨"jdk/internal/util/Preconditions", "checkIndex", "(IILjava/util/function/BiFunction;)I"⟩ 3 := by unfold fw_np; decide +kernel
theorem sc_PC_checkIndex : Cond.static ⟨"jdk/internal/util/Preconditions", "checkIndex", "(IILjava/util/function/BiFunction;)I"⟩ ∈ lw_tbl := (fw_t 482 (by decide +kernel))
theorem lk_AL_118 : fw_lk "java/util/ArrayList" 118 ⟨"java/util/Objects", "checkIndex", "(II)I"⟩ := Or.inl (fw_t 478 (by decide +kernel))
theorem np_OB_checkIndex : fw_np ⟨"java/util/Objects", "checkIndex", "(II)I"⟩ 2 := by unfold fw_np; decide +kernel
theorem sc_OB_checkIndex : Cond.static ⟨"java/util/Objects", "checkIndex", "(II)I"⟩ ∈ lw_tbl := (fw_t 479 (by decide +kernel))
theorem vc_AL_123 : fw_vc "java/util/ArrayList" 123 4 m_AL_elementData 1 := ⟨k_AL_elementData, Or.inl (fw_t 521 (by decide +kernel)), (fw_t 522 (by decide +kernel)), ⟨_, _, _, rfl, (fw_t 523 (by decide +kernel))⟩, by unfold fw_np; decide +kernel⟩
theorem lk_AP_194 : fw_lk "jdk/internal/util/ArraysSupport" 194 ⟨"java/lang/Math", "max", "(II)I"⟩ := Or.inl (fw_t 430 (by decide +kernel))
theorem np_MA_max : fw_np ⟨"java/lang/Math", "max", "(II)I"⟩ 2 := by unfold fw_np; decide +kernel
theorem sc_MA_max : Cond.static ⟨"java/lang/Math", "max", "(II)I"⟩ ∈ lw_tbl := (fw_t 352 (by decide +kernel))
theorem lk_AP_201 : fw_lk "jdk/internal/util/ArraysSupport" 201 ⟨"jdk/internal/util/ArraysSupport", "hugeLength", "(II)I"⟩ := Or.inl (fw_t 432 (by decide +kernel))
theorem np_AP_hugeLength : fw_np ⟨"jdk/internal/util/ArraysSupport", "hugeLength", "(II)I"⟩ 2 := by unfold fw_np; decide +kernel
theorem sc_AP_hugeLength : Cond.static ⟨"jdk/internal/util/ArraysSupport", "hugeLength", "(II)I"⟩ ∈ lw_tbl := (fw_t 433 (by decide +kernel))
theorem lk_AS_304 : fw_lk "java/util/Arrays" 304 ⟨"java/lang/Math", "min", "(II)I"⟩ := Or.inl (fw_t 457 (by decide +kernel))
theorem np_MA_min : fw_np ⟨"java/lang/Math", "min", "(II)I"⟩ 2 := by unfold fw_np; decide +kernel
theorem sc_MA_min : Cond.static ⟨"java/lang/Math", "min", "(II)I"⟩ ∈ lw_tbl := (fw_t 458 (by decide +kernel))
theorem lk_AS_300 : fw_lk "java/util/Arrays" 300 ⟨"java/util/Arrays", "copyOf", "([Ljava/lang/Object;ILjava/lang/Class;)[Ljava/lang/Object;"⟩ := Or.inl (fw_t 451 (by decide +kernel))
theorem np_AS_copyOf2 : fw_np ⟨"java/util/Arrays", "copyOf", "([Ljava/lang/Object;ILjava/lang/Class;)[Ljava/lang/Object;"⟩ 3 := by unfold fw_np; decide +kernel
theorem sc_AS_copyOf2 : Cond.static ⟨"java/util/Arrays", "copyOf", "([Ljava/lang/Object;ILjava/lang/Class;)[Ljava/lang/Object;"⟩ ∈ lw_tbl := (fw_t 452 (by decide +kernel))
theorem lk_AL_73 : fw_lk "java/util/ArrayList" 73 ⟨"jdk/internal/util/ArraysSupport", "newLength", "(III)I"⟩ := Or.inl (fw_t 427 (by decide +kernel))
theorem np_AP_newLength : fw_np ⟨"jdk/internal/util/ArraysSupport", "newLength", "(III)I"⟩ 3 := by unfold fw_np; decide +kernel
theorem sc_AP_newLength : Cond.static ⟨"jdk/internal/util/ArraysSupport", "newLength", "(III)I"⟩ ∈ lw_tbl := (fw_t 428 (by decide +kernel))
theorem lk_AL_66 : fw_lk "java/util/ArrayList" 66 ⟨"java/util/Arrays", "copyOf", "([Ljava/lang/Object;I)[Ljava/lang/Object;"⟩ := Or.inl (fw_t 435 (by decide +kernel))
theorem np_AS_copyOf1 : fw_np ⟨"java/util/Arrays", "copyOf", "([Ljava/lang/Object;I)[Ljava/lang/Object;"⟩ 2 := by unfold fw_np; decide +kernel
theorem sc_AS_copyOf1 : Cond.static ⟨"java/util/Arrays", "copyOf", "([Ljava/lang/Object;I)[Ljava/lang/Object;"⟩ ∈ lw_tbl := (fw_t 436 (by decide +kernel))
theorem fp_AL_grow2_9 : fw_fpt m_AL_grow2 9 4 1 (.array (.object "java/lang/Object")) := ⟨_, _, _, "java/util/ArrayList", rfl, by decide, fw_i4, Or.inl rfl, ⟨fw_y4, fw_k4⟩, fw_n4, by decide +kernel, Or.inl ⟨rfl, Or.inl (fw_t 76 (by decide +kernel))⟩⟩
theorem lk_AL_79 : fw_lk "java/util/ArrayList" 79 ⟨"java/lang/Math", "max", "(II)I"⟩ := Or.inl (fw_t 463 (by decide +kernel))
theorem vc_AL_69 : fw_vc "java/util/ArrayList" 69 4 m_AL_grow2 1 := ⟨k_AL_grow2, Or.inl (fw_t 423 (by decide +kernel)), (fw_t 425 (by decide +kernel)), ⟨_, _, _, rfl, (fw_p 13 (by decide +kernel))⟩, by unfold fw_np; decide +kernel⟩
theorem vc_AL_135 : fw_vc "java/util/ArrayList" 135 4 m_AL_rangeCheckForAdd 1 := ⟨k_AL_rangeCheckForAdd, Or.inl (fw_t 415 (by decide +kernel)), (fw_t 417 (by decide +kernel)), ⟨_, _, _, rfl, (fw_p 11 (by decide +kernel))⟩, by unfold fw_np; decide +kernel⟩
theorem fg_AL_63 : fw_fld "java/util/ArrayList" 63 4 0 := ⟨_, _, _, "java/util/ArrayList", rfl, by decide, fw_i4, Or.inr (fw_t 80 (by decide +kernel)), Or.inl (fw_t 79 (by decide +kernel))⟩
theorem fp_AL_add_63 : fw_fpt m_AL_add 63 4 0 .int := ⟨_, _, _, "java/util/ArrayList", rfl, by decide, fw_i4, Or.inr (fw_t 80 (by decide +kernel)), ⟨fw_y4, fw_k4⟩, fw_n4, by decide +kernel, Or.inl ⟨rfl, Or.inl (fw_t 79 (by decide +kernel))⟩⟩
theorem vc_AL_129 : fw_vc "java/util/ArrayList" 129 4 m_AL_grow1 0 := ⟨k_AL_grow1, Or.inl (fw_t 419 (by decide +kernel)), (fw_t 421 (by decide +kernel)), ⟨_, _, _, rfl, (fw_p 12 (by decide +kernel))⟩, by unfold fw_np; decide +kernel⟩
theorem fp_AL_add_48 : fw_fpt m_AL_add 48 4 2 .int := ⟨_, _, _, "java/util/ArrayList", rfl, by decide, fw_i4, Or.inl rfl, ⟨fw_y4, fw_k4⟩, fw_n4, by decide +kernel, Or.inl ⟨rfl, Or.inl (fw_t 77 (by decide +kernel))⟩⟩
theorem fp_AL_fastRemove_63 : fw_fpt m_AL_fastRemove 63 4 0 .int := ⟨_, _, _, "java/util/ArrayList", rfl, by decide, fw_i4, Or.inr (fw_t 80 (by decide +kernel)), ⟨fw_y4, fw_k4⟩, fw_n4, by decide +kernel, Or.inl ⟨rfl, Or.inl (fw_t 79 (by decide +kernel))⟩⟩
theorem fp_AL_fastRemove_48 : fw_fpt m_AL_fastRemove 48 4 2 .int := ⟨_, _, _, "java/util/ArrayList", rfl, by decide, fw_i4, Or.inl rfl, ⟨fw_y4, fw_k4⟩, fw_n4, by decide +kernel, Or.inl ⟨rfl, Or.inl (fw_t 77 (by decide +kernel))⟩⟩
theorem vc_AL_144 : fw_vc "java/util/ArrayList" 144 4 m_AL_fastRemove 2 := ⟨k_AL_fastRemove, Or.inl (fw_t 484 (by decide +kernel)), (fw_t 486 (by decide +kernel)), ⟨_, _, _, rfl, (fw_p 14 (by decide +kernel))⟩, by unfold fw_np; decide +kernel⟩
theorem lk_BL_1 : fw_lk "java/util/AbstractList" 1 ⟨"java/util/AbstractCollection", "<init>", "()V"⟩ := Or.inl (fw_t 70 (by decide +kernel))
theorem np_BC_init : fw_np ⟨"java/util/AbstractCollection", "<init>", "()V"⟩ 0 := by unfold fw_np; decide +kernel
theorem im_BC_init : Cond.instanceMethod ⟨"java/util/AbstractCollection", "<init>", "()V"⟩ ∈ lw_tbl := (fw_t 71 (by decide +kernel))
theorem lk_AL_1 : fw_lk "java/util/ArrayList" 1 ⟨"java/util/AbstractList", "<init>", "()V"⟩ := Or.inl (fw_t 67 (by decide +kernel))
theorem np_BL_init : fw_np ⟨"java/util/AbstractList", "<init>", "()V"⟩ 0 := by unfold fw_np; decide +kernel
theorem im_BL_init : Cond.instanceMethod ⟨"java/util/AbstractList", "<init>", "()V"⟩ ∈ lw_tbl := (fw_t 68 (by decide +kernel))
theorem fp_AL_init_9 : fw_fpt m_AL_init 9 4 1 (.array (.object "java/lang/Object")) := ⟨_, _, _, "java/util/ArrayList", rfl, by decide, fw_i4, Or.inl rfl, ⟨fw_y4, fw_k4⟩, fw_n4, by decide +kernel, Or.inl ⟨rfl, Or.inl (fw_t 76 (by decide +kernel))⟩⟩

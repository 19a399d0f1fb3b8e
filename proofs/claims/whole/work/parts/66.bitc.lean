theorem pc_lt {X : Nat} (hX : X < 2 ^ 64) : (X / 2 &&& pc_5 8) ≤ X ∧ pc_A 8 X < 2 ^ 64 := by
  have h1 : (X / 2 &&& pc_5 8) ≤ X / 2 := Nat.and_le_left
  refine ⟨by omega, ?_⟩
  unfold pc_A; omega
theorem pc_m5 : pc_5 8 < 2 ^ 64 ∧ pc_3 8 < 2 ^ 62 ∧ pc_f 8 < 2 ^ 64 := by decide
theorem pc_Bl {Y : Nat} : pc_B 8 Y < 2 ^ 63 := by
  have h1 : (Y &&& pc_3 8) ≤ pc_3 8 := Nat.and_le_right
  have h2 : (Y / 4 &&& pc_3 8) ≤ pc_3 8 := Nat.and_le_right
  have h3 := pc_m5.2.1
  unfold pc_B; omega
theorem c_LO_bitCount {g : fw_G} {nc ns : Nat} {w : fw_W} {X : Nat} (hX : X < 2 ^ 64) : fw_R g m_LO_bitCount (fw_pv (.int (nI (pc_n 8 X))) w) nc ns w 0 [(0, .long (lN X))] [] := by
  obtain ⟨q1, q2⟩ := pc_lt hX
  obtain ⟨m5, m3, mf⟩ := pc_m5
  have hB := pc_Bl (Y := pc_A 8 X)
  obtain ⟨p0, p1, p2, p3, p4, p5, p6, p7, i0, i1, i2, i3, i4, i5, i6, i7, hG, hn⟩ := pc_G8 hX
  have hd16 : pc_B 8 (pc_A 8 X) / 16 ≤ pc_B 8 (pc_A 8 X) := Nat.div_le_self _ _
  have hGl : pc_G 8 X < 2 ^ 60 := by omega
  obtain ⟨c1, c2⟩ := pc_sum i0 i1 i2 i3 i4 i5 i6 i7 hG rfl rfl rfl
  have j1 : pc_G 8 X / 256 ≤ pc_G 8 X := Nat.div_le_self _ _
  have j2 : (pc_G 8 X + pc_G 8 X / 256) / 65536 ≤ pc_G 8 X + pc_G 8 X / 256 := Nat.div_le_self _ _
  refine fr_lload_n (pc := 0) d_LO_bitCount_0 rfl rfl ?_
  refine fr_lload_n (pc := 1) d_LO_bitCount_1 rfl rfl ?_
  refine fr_iconst (pc := 2) (v := 1) d_LO_bitCount_2 (by decide) ?_
  refine fr_st (st2 := [.int (nI 1), .long (lN X), .long (lN X)]) rfl ?_
  refine fr_lushr (pc := 3) d_LO_bitCount_3 rfl ?_
  refine fr_st (st2 := [.long (lN (X / 2)), .long (lN X)]) (by rw [pc_sr (k := 1) hX (by omega)]) ?_
  refine fr_ldc2 (pc := 4) (v := 6148914691236517205) d_LO_bitCount_4 (fw_t 625 (by decide +kernel)) ?_
  refine fr_st (st2 := [.long (lN (pc_5 8)), .long (lN (X / 2)), .long (lN X)]) (by rw [show (6148914691236517205 : Int64) = lN (pc_5 8) from by decide]) ?_
  refine fr_land (pc := 7) d_LO_bitCount_7 ?_
  refine fr_st (st2 := [.long (lN (X / 2 &&& pc_5 8)), .long (lN X)]) (by rw [pc_an (by omega) m5]) ?_
  refine fr_lsub (pc := 8) d_LO_bitCount_8 ?_
  refine fr_st (st2 := [.long (lN (pc_A 8 X))]) (by rw [pc_su q1]; rfl) ?_
  refine fr_lstore_n (pc := 9) (L2 := [(0, .long (lN (pc_A 8 X)))]) d_LO_bitCount_9 rfl (by decide) rfl ?_
  refine fr_lload_n (pc := 10) d_LO_bitCount_10 rfl rfl ?_
  refine fr_ldc2 (pc := 11) (v := 3689348814741910323) d_LO_bitCount_11 (fw_t 626 (by decide +kernel)) ?_
  refine fr_st (st2 := [.long (lN (pc_3 8)), .long (lN (pc_A 8 X))]) (by rw [show (3689348814741910323 : Int64) = lN (pc_3 8) from by decide]) ?_
  refine fr_land (pc := 14) d_LO_bitCount_14 ?_
  refine fr_st (st2 := [.long (lN (pc_A 8 X &&& pc_3 8))]) (by rw [pc_an q2 (by omega)]) ?_
  refine fr_lload_n (pc := 15) d_LO_bitCount_15 rfl rfl ?_
  refine fr_iconst (pc := 16) (v := 2) d_LO_bitCount_16 (by decide) ?_
  refine fr_st (st2 := [.int (nI 2), .long (lN (pc_A 8 X)), .long (lN (pc_A 8 X &&& pc_3 8))]) rfl ?_
  refine fr_lushr (pc := 17) d_LO_bitCount_17 rfl ?_
  refine fr_st (st2 := [.long (lN (pc_A 8 X / 4)), .long (lN (pc_A 8 X &&& pc_3 8))]) (by rw [pc_sr (k := 2) q2 (by omega)]) ?_
  refine fr_ldc2 (pc := 18) (v := 3689348814741910323) d_LO_bitCount_18 (fw_t 626 (by decide +kernel)) ?_
  refine fr_st (st2 := [.long (lN (pc_3 8)), .long (lN (pc_A 8 X / 4)), .long (lN (pc_A 8 X &&& pc_3 8))]) (by rw [show (3689348814741910323 : Int64) = lN (pc_3 8) from by decide]) ?_
  refine fr_land (pc := 21) d_LO_bitCount_21 ?_
  refine fr_st (st2 := [.long (lN (pc_A 8 X / 4 &&& pc_3 8)), .long (lN (pc_A 8 X &&& pc_3 8))]) (by rw [pc_an (by omega) (by omega)]) ?_
  refine fr_ladd (pc := 22) d_LO_bitCount_22 ?_
  refine fr_st (st2 := [.long (lN (pc_B 8 (pc_A 8 X)))]) (by rw [pc_ad]; rfl) ?_
  refine fr_lstore_n (pc := 23) (L2 := [(0, .long (lN (pc_B 8 (pc_A 8 X))))]) d_LO_bitCount_23 rfl (by decide) rfl ?_
  refine fr_lload_n (pc := 24) d_LO_bitCount_24 rfl rfl ?_
  refine fr_lload_n (pc := 25) d_LO_bitCount_25 rfl rfl ?_
  refine fr_iconst (pc := 26) (v := 4) d_LO_bitCount_26 (by decide) ?_
  refine fr_st (st2 := [.int (nI 4), .long (lN (pc_B 8 (pc_A 8 X))), .long (lN (pc_B 8 (pc_A 8 X)))]) rfl ?_
  refine fr_lushr (pc := 27) d_LO_bitCount_27 rfl ?_
  refine fr_st (st2 := [.long (lN (pc_B 8 (pc_A 8 X) / 16)), .long (lN (pc_B 8 (pc_A 8 X)))]) (by rw [pc_sr (k := 4) (by omega) (by omega)]) ?_
  refine fr_ladd (pc := 28) d_LO_bitCount_28 ?_
  refine fr_st (st2 := [.long (lN (pc_B 8 (pc_A 8 X) + pc_B 8 (pc_A 8 X) / 16))]) (by rw [pc_ad]) ?_
  refine fr_ldc2 (pc := 29) (v := 1085102592571150095) d_LO_bitCount_29 (fw_t 627 (by decide +kernel)) ?_
  refine fr_st (st2 := [.long (lN (pc_f 8)), .long (lN (pc_B 8 (pc_A 8 X) + pc_B 8 (pc_A 8 X) / 16))]) (by rw [show (1085102592571150095 : Int64) = lN (pc_f 8) from by decide]) ?_
  refine fr_land (pc := 32) d_LO_bitCount_32 ?_
  refine fr_st (st2 := [.long (lN (pc_G 8 X))]) (by rw [pc_an (by omega) mf]; rfl) ?_
  refine fr_lstore_n (pc := 33) (L2 := [(0, .long (lN (pc_G 8 X)))]) d_LO_bitCount_33 rfl (by decide) rfl ?_
  refine fr_lload_n (pc := 34) d_LO_bitCount_34 rfl rfl ?_
  refine fr_lload_n (pc := 35) d_LO_bitCount_35 rfl rfl ?_
  refine fr_bipush (pc := 36) (v := 8) d_LO_bitCount_36 (by decide) ?_
  refine fr_st (st2 := [.int (nI 8), .long (lN (pc_G 8 X)), .long (lN (pc_G 8 X))]) rfl ?_
  refine fr_lushr (pc := 38) d_LO_bitCount_38 rfl ?_
  refine fr_st (st2 := [.long (lN (pc_G 8 X / 256)), .long (lN (pc_G 8 X))]) (by rw [pc_sr (k := 8) (by omega) (by omega)]) ?_
  refine fr_ladd (pc := 39) d_LO_bitCount_39 ?_
  refine fr_st (st2 := [.long (lN (pc_G 8 X + pc_G 8 X / 256))]) (by rw [pc_ad]) ?_
  refine fr_lstore_n (pc := 40) (L2 := [(0, .long (lN (pc_G 8 X + pc_G 8 X / 256)))]) d_LO_bitCount_40 rfl (by decide) rfl ?_
  refine fr_lload_n (pc := 41) d_LO_bitCount_41 rfl rfl ?_
  refine fr_lload_n (pc := 42) d_LO_bitCount_42 rfl rfl ?_
  refine fr_bipush (pc := 43) (v := 16) d_LO_bitCount_43 (by decide) ?_
  refine fr_st (st2 := [.int (nI 16), .long (lN (pc_G 8 X + pc_G 8 X / 256)), .long (lN (pc_G 8 X + pc_G 8 X / 256))]) rfl ?_
  refine fr_lushr (pc := 45) d_LO_bitCount_45 rfl ?_
  refine fr_st (st2 := [.long (lN ((pc_G 8 X + pc_G 8 X / 256) / 65536)), .long (lN (pc_G 8 X + pc_G 8 X / 256))]) (by rw [pc_sr (k := 16) (by omega) (by omega)]) ?_
  refine fr_ladd (pc := 46) d_LO_bitCount_46 ?_
  refine fr_st (st2 := [.long (lN (pc_G 8 X + pc_G 8 X / 256 + (pc_G 8 X + pc_G 8 X / 256) / 65536))]) (by rw [pc_ad]) ?_
  refine fr_lstore_n (pc := 47) (L2 := [(0, .long (lN (pc_G 8 X + pc_G 8 X / 256 + (pc_G 8 X + pc_G 8 X / 256) / 65536)))]) d_LO_bitCount_47 rfl (by decide) rfl ?_
  refine fr_lload_n (pc := 48) d_LO_bitCount_48 rfl rfl ?_
  refine fr_lload_n (pc := 49) d_LO_bitCount_49 rfl rfl ?_
  refine fr_bipush (pc := 50) (v := 32) d_LO_bitCount_50 (by decide) ?_
  refine fr_st (st2 := [.int (nI 32), .long (lN (pc_G 8 X + pc_G 8 X / 256 + (pc_G 8 X + pc_G 8 X / 256) / 65536)), .long (lN (pc_G 8 X + pc_G 8 X / 256 + (pc_G 8 X + pc_G 8 X / 256) / 65536))]) rfl ?_
  refine fr_lushr (pc := 52) d_LO_bitCount_52 rfl ?_
  refine fr_st (st2 := [.long (lN ((pc_G 8 X + pc_G 8 X / 256 + (pc_G 8 X + pc_G 8 X / 256) / 65536) / 4294967296)), .long (lN (pc_G 8 X + pc_G 8 X / 256 + (pc_G 8 X + pc_G 8 X / 256) / 65536))]) (by rw [pc_sr (k := 32) (by omega) (by omega)]) ?_
  refine fr_ladd (pc := 53) d_LO_bitCount_53 ?_
  refine fr_st (st2 := [.long (lN (pc_G 8 X + pc_G 8 X / 256 + (pc_G 8 X + pc_G 8 X / 256) / 65536 + (pc_G 8 X + pc_G 8 X / 256 + (pc_G 8 X + pc_G 8 X / 256) / 65536) / 4294967296))]) (by rw [pc_ad]) ?_
  refine fr_lstore_n (pc := 54) (L2 := [(0, .long (lN (pc_G 8 X + pc_G 8 X / 256 + (pc_G 8 X + pc_G 8 X / 256) / 65536 + (pc_G 8 X + pc_G 8 X / 256 + (pc_G 8 X + pc_G 8 X / 256) / 65536) / 4294967296)))]) d_LO_bitCount_54 rfl (by decide) rfl ?_
  refine fr_lload_n (pc := 55) d_LO_bitCount_55 rfl rfl ?_
  refine fr_l2i (pc := 56) d_LO_bitCount_56 rfl ?_
  refine fr_bipush (pc := 57) (v := 127) d_LO_bitCount_57 (by decide) ?_
  refine fr_iand (pc := 59) d_LO_bitCount_59 ?_
  refine fr_st (st2 := [.int (nI (pc_n 8 X))]) (by rw [pc_en (by omega), c2, hn]) ?_
  exact fr_iret rfl d_LO_bitCount_60 ⟨rfl, rfl⟩

def fm_f0 (ar : Nat → Nat) (i : Nat) : List Value := [.int 0, .int (nI 1), .int (nI 0), (if 0 < i then .ref (ar 0) else .null), (if 1 < i then .ref (ar 1) else .null), (if 2 < i then .ref (ar 2) else .null), (if 3 < i then .ref (ar 3) else .null), (if 4 < i then .ref (ar 4) else .null), (if 5 < i then .ref (ar 5) else .null), (if 6 < i then .ref (ar 6) else .null), (if 7 < i then .ref (ar 7) else .null), (if 8 < i then .ref (ar 8) else .null), (if 9 < i then .ref (ar 9) else .null), (if 10 < i then .ref (ar 10) else .null), (if 11 < i then .ref (ar 11) else .null), (if 12 < i then .ref (ar 12) else .null), (if 13 < i then .ref (ar 13) else .null), (if 14 < i then .ref (ar 14) else .null), (if 15 < i then .ref (ar 15) else .null), .int 0, .int 0, .int 0]
def fm_I (g : fw_G) (w0 : fw_W) (mo : Nat) (ar : Nat → Nat) (i : Nat) (w : fw_W) : Prop := w mo = some (.inr (5, fm_f0 ar i)) ∧ (∀ j, j < i → w (ar j) = some (fm_ar g j (fun _ => 0))) ∧ (∀ j, j < i → ar j ≠ mo) ∧ (∀ j k, j < i → k < i → ar j = ar k → j = k) ∧ (∀ b e, w0 b = some e → b ≠ mo → w b = some e) ∧ ∀ j, j < i → w0 (ar j) = none
theorem fm_I_s {g : fw_G} {w0 w : fw_W} {mo i q : Nat} {ar : Nat → Nat} (h : fm_I g w0 mo ar i w) (hq : w q = none) : fm_I g w0 mo (va_up ar i q) (i + 1) (fw_up (fw_up w q (fm_ar g i (fun _ => 0))) mo (.inr (5, fm_f0 (va_up ar i q) (i + 1)))) := by
  obtain ⟨h1, h2, h3, h4, h5, h6⟩ := h
  have hqm : q ≠ mo := fun e => by rw [e, h1] at hq; cases hq
  have hqa : ∀ j, j < i → ar j ≠ q := fun j hj e => by have := h2 j hj; rw [e, hq] at this; cases this
  refine ⟨fw_up_self, fun j hj => ?_, fun j hj => ?_, fun j k hj hk e => ?_, fun b e hb hbm => ?_, fun j hj => ?_⟩
  · by_cases e : j = i
    · subst e; rw [vu_self, fw_up_ne hqm, fw_up_self]
    · rw [vu_ne e, fw_up_ne (h3 j (by omega)), fw_up_ne (hqa j (by omega))]; exact h2 j (by omega)
  · by_cases e : j = i
    · subst e; rw [vu_self]; exact hqm
    · rw [vu_ne e]; exact h3 j (by omega)
  · by_cases e1 : j = i
    · subst e1
      by_cases e2 : k = j
      · exact e2.symm
      · rw [vu_self, vu_ne e2] at e; exact absurd e.symm (hqa k (by omega))
    · by_cases e2 : k = i
      · subst e2; rw [vu_self, vu_ne e1] at e; exact absurd e (hqa j (by omega))
      · rw [vu_ne e1, vu_ne e2] at e; exact h4 j k (by omega) (by omega) e
  · have hw := h5 b e hb hbm
    rw [fw_up_ne hbm, fw_up_ne (fun z => by rw [z, hq] at hw; cases hw)]; exact hw
  · by_cases e : j = i
    · subst e; rw [vu_self]
      cases hz : w0 q with
      | none => rfl
      | some x => rw [h5 q x hz hqm] at hq; cases hq
    · rw [vu_ne e]; exact h6 j (by omega)
def fm_d0 : fm_F := fm_e (fm_e (fm_e (fm_e (fun _ _ => 0) 4 0 1) 5 0 1) 7 0 1) 8 0 (-1)
theorem fm_d0_ne {j : Nat} (h : j ≠ 4 ∧ j ≠ 5 ∧ j ≠ 7 ∧ j ≠ 8) : fm_d0 j = fun _ => 0 := by
  unfold fm_d0
  rw [fm_e_ne (by omega), fm_e_ne (by omega), fm_e_ne (by omega), fm_e_ne (by omega)]
theorem fm_d0_4 (k : Nat) : fm_d0 4 k = if k = 0 then 1 else 0 := by
  unfold fm_d0
  rw [fm_e_ne (by decide), fm_e_ne (by decide), fm_e_ne (by decide), fm_e_at]
theorem fm_d0_5 (k : Nat) : fm_d0 5 k = if k = 0 then 1 else 0 := by
  unfold fm_d0
  rw [fm_e_ne (by decide), fm_e_ne (by decide), fm_e_at, fm_e_ne (by decide)]
theorem fm_d0_7 (k : Nat) : fm_d0 7 k = if k = 0 then 1 else 0 := by
  unfold fm_d0
  rw [fm_e_ne (by decide), fm_e_at, fm_e_ne (by decide), fm_e_ne (by decide)]
theorem fm_d0_8 : fm_d0 8 0 = -1 := by
  unfold fm_d0
  rw [fm_e_self]
theorem fs_d0_at {k : Nat} {N : fs_N} (h : fs_d0 k = some N) : k = 0 ∧ N = (true, none, 0, false, true, []) := by
  unfold fs_d0 at h
  by_cases e : k = 0
  · subst e; rw [vu_self] at h; cases h; exact ⟨rfl, rfl⟩
  · rw [vu_ne e] at h; cases h
theorem fm_c_0 : fm_c 1 0 (fun _ _ => false) (fun _ _ => false) fs_d0 fm_d0 := by
  refine ⟨fun i u _ _ => by rw [fm_d0_ne (by decide)]; rfl, fun i u _ _ => by rw [fm_d0_ne (by decide)]; rfl, fun i u _ _ => ?_, fun k _ => ?_, fun k _ => ?_, fun k N hk => ?_, fun k N i E hk hE => ?_, fun j i hj => ?_⟩
  · rw [fm_d0_ne (by decide), fs_in_no (us := 1) (n := 0) (fun _ _ h => by cases h) (fun _ _ h => by cases h) (by omega)]; rfl
  · rw [fm_d0_4]
    by_cases e : k = 0
    · subst e; rw [if_pos rfl]; rfl
    · rw [if_neg e]; unfold fs_d0; rw [vu_ne e]; rfl
  · rw [fm_d0_7]
    by_cases e : k = 0
    · subst e; rw [if_pos rfl]; rfl
    · rw [if_neg e, fm_sl_no (by unfold fs_d0; rw [vu_ne e])]; rfl
  · obtain ⟨rfl, rfl⟩ := fs_d0_at hk
    exact ⟨by rw [fm_d0_5]; rfl, by rw [fm_d0_ne (by decide)]; rfl, fm_d0_8, by rw [fm_d0_ne (by decide)]; rfl, by rw [fm_d0_ne (by decide)]; rfl⟩
  · obtain ⟨rfl, rfl⟩ := fs_d0_at hk
    cases hE
  · by_cases q : j ≠ 4 ∧ j ≠ 5 ∧ j ≠ 7 ∧ j ≠ 8
    · rw [fm_d0_ne q]; exact Or.inl rfl
    · have q2 : j = 4 ∨ j = 5 ∨ j = 7 := by omega
      rcases q2 with rfl | rfl | rfl
      · rw [fm_d0_4]; split <;> decide
      · rw [fm_d0_5]; split <;> decide
      · rw [fm_d0_7]; split <;> decide
theorem fm_S_0 : fm_S 1 0 (fun _ _ => false) (fun _ _ => false) fs_d0 := ⟨fs_ok_0, fun _ _ h => (by cases h), fun _ _ h => (by cases h)⟩
abbrev fm_z : List Value := [.int 0, .int 0, .int 0, .null, .null, .null, .null, .null, .null, .null, .null, .null, .null, .null, .null, .null, .null, .null, .null, .int 0, .int 0, .int 0]
theorem c_MO_init {g : fw_G} {w : fw_W} {mo : Nat} (h : w mo = some (.inr (5, fm_z))) : fw_R g m_MO_init (fun r u => r = .inl none ∧ ∃ (ar : Nat → Nat) (w1 : fw_W), fm_ad mo ar ∧ u = fm_W g w1 mo ar (0, 1, 0, 0, 0, 0) fm_d0 ∧ (∀ b e, w b = some e → b ≠ mo → u b = some e) ∧ ∀ j, j < 16 → w (ar j) = none) 16 13530 w 0 [(0, .ref mo)] [] := by
  refine fr_aload_n (pc := 0) d_MO_init_0 rfl rfl ?_
  refine fr_objInit (pc := 1) d_MO_init_1 (fw_t 634 (by decide +kernel)) (fw_t 28 (by decide +kernel)) (fw_t 29 (by decide +kernel)) (by decide) (Nat.le_of_ble_eq_true rfl) ?_
  refine fr_aload_n (pc := 4) d_MO_init_4 rfl rfl ?_
  refine fr_iconst (pc := 5) (v := 1) d_MO_init_5 (by decide) ?_
  refine fr_put (pc := 6) (fs2 := fm_f0 (fun _ => 0) 0) d_MO_init_6 fp_MO_init_7 h (Nat.le_of_ble_eq_true rfl) rfl rfl rfl ?_
  have hI : fm_I g w mo (fun _ => 0) 0 (fw_up w mo (.inr (5, fm_f0 (fun _ => 0) 0))) := ⟨fw_up_self, fun j hj => absurd hj (Nat.not_lt_zero _), fun j hj => absurd hj (Nat.not_lt_zero _), fun j k hj => absurd hj (Nat.not_lt_zero _), fun b e hb hbm => by rw [fw_up_ne hbm]; exact hb, fun j hj => absurd hj (Nat.not_lt_zero _)⟩
  revert hI
  generalize fw_up w mo (.inr (5, fm_f0 (fun _ => 0) 0)) = w0
  intro hI
  refine fr_aload_n (pc := 9) d_MO_init_9 rfl rfl ?_
  refine fr_sipush (pc := 10) (v := 1440) d_MO_init_10 (by decide) ?_
  refine fr_newa (pc := 13) (nc := 15) (ns := 12090) (N := 1440) (t := 0) (a0 := (1440, .inl (fun _ => 0))) d_MO_init_13 rfl (fw_t 702 (by decide +kernel)) rfl (fun cA => rfl) (by decide) (by decide) (by decide) (fun q0 hq0 => ?_)
  refine fr_put (pc := 15) (fs2 := fm_f0 (va_up (fun _ => 0) 0 q0) 1) d_MO_init_15 fp_MO_init_13 (fw_up_at hI.1 (fun e => by have h9 := hI.1; rw [e, hq0] at h9; cases h9)) (Nat.le_of_ble_eq_true rfl) rfl rfl rfl ?_
  replace hI := fm_I_s hI hq0
  revert hI
  show fm_I g w mo (va_up (fun _ => 0) 0 q0) 1 (fw_up (fw_up w0 q0 (fm_ar g 0 (fun _ => 0))) mo (.inr (5, fm_f0 (va_up (fun _ => 0) 0 q0) 1))) → fw_R _ _ _ _ _ (fw_up (fw_up w0 q0 (fm_ar g 0 (fun _ => 0))) mo (.inr (5, fm_f0 (va_up (fun _ => 0) 0 q0) 1))) _ _ _
  generalize fw_up (fw_up w0 q0 (fm_ar g 0 (fun _ => 0))) mo (.inr (5, fm_f0 (va_up (fun _ => 0) 0 q0) 1)) = w1
  generalize (va_up (fun _ => 0) 0 q0) = ar1
  intro hI
  refine fr_aload_n (pc := 18) d_MO_init_18 rfl rfl ?_
  refine fr_sipush (pc := 19) (v := 576) d_MO_init_19 (by decide) ?_
  refine fr_newa (pc := 22) (nc := 14) (ns := 11514) (N := 576) (t := 0) (a0 := (576, .inl (fun _ => 0))) d_MO_init_22 rfl (fw_t 702 (by decide +kernel)) rfl (fun cA => rfl) (by decide) (by decide) (by decide) (fun q1 hq1 => ?_)
  refine fr_put (pc := 24) (fs2 := fm_f0 (va_up ar1 1 q1) 2) d_MO_init_24 fp_MO_init_17 (fw_up_at hI.1 (fun e => by have h9 := hI.1; rw [e, hq1] at h9; cases h9)) (Nat.le_of_ble_eq_true rfl) rfl rfl rfl ?_
  replace hI := fm_I_s hI hq1
  revert hI
  show fm_I g w mo (va_up ar1 1 q1) 2 (fw_up (fw_up w1 q1 (fm_ar g 1 (fun _ => 0))) mo (.inr (5, fm_f0 (va_up ar1 1 q1) 2))) → fw_R _ _ _ _ _ (fw_up (fw_up w1 q1 (fm_ar g 1 (fun _ => 0))) mo (.inr (5, fm_f0 (va_up ar1 1 q1) 2))) _ _ _
  generalize fw_up (fw_up w1 q1 (fm_ar g 1 (fun _ => 0))) mo (.inr (5, fm_f0 (va_up ar1 1 q1) 2)) = w2
  generalize (va_up ar1 1 q1) = ar2
  intro hI
  refine fr_aload_n (pc := 27) d_MO_init_27 rfl rfl ?_
  refine fr_bipush (pc := 28) (v := 24) d_MO_init_28 (by decide) ?_
  refine fr_newa (pc := 30) (nc := 13) (ns := 11490) (N := 24) (t := 0) (a0 := (24, .inl (fun _ => 0))) d_MO_init_30 rfl (fw_t 702 (by decide +kernel)) rfl (fun cA => rfl) (by decide) (by decide) (by decide) (fun q2 hq2 => ?_)
  refine fr_put (pc := 32) (fs2 := fm_f0 (va_up ar2 2 q2) 3) d_MO_init_32 fp_MO_init_20 (fw_up_at hI.1 (fun e => by have h9 := hI.1; rw [e, hq2] at h9; cases h9)) (Nat.le_of_ble_eq_true rfl) rfl rfl rfl ?_
  replace hI := fm_I_s hI hq2
  revert hI
  show fm_I g w mo (va_up ar2 2 q2) 3 (fw_up (fw_up w2 q2 (fm_ar g 2 (fun _ => 0))) mo (.inr (5, fm_f0 (va_up ar2 2 q2) 3))) → fw_R _ _ _ _ _ (fw_up (fw_up w2 q2 (fm_ar g 2 (fun _ => 0))) mo (.inr (5, fm_f0 (va_up ar2 2 q2) 3))) _ _ _
  generalize fw_up (fw_up w2 q2 (fm_ar g 2 (fun _ => 0))) mo (.inr (5, fm_f0 (va_up ar2 2 q2) 3)) = w3
  generalize (va_up ar2 2 q2) = ar3
  intro hI
  refine fr_aload_n (pc := 35) d_MO_init_35 rfl rfl ?_
  refine fr_sipush (pc := 36) (v := 1440) d_MO_init_36 (by decide) ?_
  refine fr_newa (pc := 39) (nc := 12) (ns := 10050) (N := 1440) (t := 0) (a0 := (1440, .inl (fun _ => 0))) d_MO_init_39 rfl (fw_t 702 (by decide +kernel)) rfl (fun cA => rfl) (by decide) (by decide) (by decide) (fun q3 hq3 => ?_)
  refine fr_put (pc := 41) (fs2 := fm_f0 (va_up ar3 3 q3) 4) d_MO_init_41 fp_MO_init_23 (fw_up_at hI.1 (fun e => by have h9 := hI.1; rw [e, hq3] at h9; cases h9)) (Nat.le_of_ble_eq_true rfl) rfl rfl rfl ?_
  replace hI := fm_I_s hI hq3
  revert hI
  show fm_I g w mo (va_up ar3 3 q3) 4 (fw_up (fw_up w3 q3 (fm_ar g 3 (fun _ => 0))) mo (.inr (5, fm_f0 (va_up ar3 3 q3) 4))) → fw_R _ _ _ _ _ (fw_up (fw_up w3 q3 (fm_ar g 3 (fun _ => 0))) mo (.inr (5, fm_f0 (va_up ar3 3 q3) 4))) _ _ _
  generalize fw_up (fw_up w3 q3 (fm_ar g 3 (fun _ => 0))) mo (.inr (5, fm_f0 (va_up ar3 3 q3) 4)) = w4
  generalize (va_up ar3 3 q3) = ar4
  intro hI
  refine fr_aload_n (pc := 44) d_MO_init_44 rfl rfl ?_
  refine fr_sipush (pc := 45) (v := 150) d_MO_init_45 (by decide) ?_
  refine fr_newa (pc := 48) (nc := 11) (ns := 9900) (N := 150) (t := 0) (a0 := (150, .inl (fun _ => 0))) d_MO_init_48 rfl (fw_t 702 (by decide +kernel)) rfl (fun cA => rfl) (by decide) (by decide) (by decide) (fun q4 hq4 => ?_)
  refine fr_put (pc := 50) (fs2 := fm_f0 (va_up ar4 4 q4) 5) d_MO_init_50 fp_MO_init_26 (fw_up_at hI.1 (fun e => by have h9 := hI.1; rw [e, hq4] at h9; cases h9)) (Nat.le_of_ble_eq_true rfl) rfl rfl rfl ?_
  replace hI := fm_I_s hI hq4
  revert hI
  show fm_I g w mo (va_up ar4 4 q4) 5 (fw_up (fw_up w4 q4 (fm_ar g 4 (fun _ => 0))) mo (.inr (5, fm_f0 (va_up ar4 4 q4) 5))) → fw_R _ _ _ _ _ (fw_up (fw_up w4 q4 (fm_ar g 4 (fun _ => 0))) mo (.inr (5, fm_f0 (va_up ar4 4 q4) 5))) _ _ _
  generalize fw_up (fw_up w4 q4 (fm_ar g 4 (fun _ => 0))) mo (.inr (5, fm_f0 (va_up ar4 4 q4) 5)) = w5
  generalize (va_up ar4 4 q4) = ar5
  intro hI
  refine fr_aload_n (pc := 53) d_MO_init_53 rfl rfl ?_
  refine fr_sipush (pc := 54) (v := 150) d_MO_init_54 (by decide) ?_
  refine fr_newa (pc := 57) (nc := 10) (ns := 9750) (N := 150) (t := 0) (a0 := (150, .inl (fun _ => 0))) d_MO_init_57 rfl (fw_t 702 (by decide +kernel)) rfl (fun cA => rfl) (by decide) (by decide) (by decide) (fun q5 hq5 => ?_)
  refine fr_put (pc := 59) (fs2 := fm_f0 (va_up ar5 5 q5) 6) d_MO_init_59 fp_MO_init_29 (fw_up_at hI.1 (fun e => by have h9 := hI.1; rw [e, hq5] at h9; cases h9)) (Nat.le_of_ble_eq_true rfl) rfl rfl rfl ?_
  replace hI := fm_I_s hI hq5
  revert hI
  show fm_I g w mo (va_up ar5 5 q5) 6 (fw_up (fw_up w5 q5 (fm_ar g 5 (fun _ => 0))) mo (.inr (5, fm_f0 (va_up ar5 5 q5) 6))) → fw_R _ _ _ _ _ (fw_up (fw_up w5 q5 (fm_ar g 5 (fun _ => 0))) mo (.inr (5, fm_f0 (va_up ar5 5 q5) 6))) _ _ _
  generalize fw_up (fw_up w5 q5 (fm_ar g 5 (fun _ => 0))) mo (.inr (5, fm_f0 (va_up ar5 5 q5) 6)) = w6
  generalize (va_up ar5 5 q5) = ar6
  intro hI
  refine fr_aload_n (pc := 62) d_MO_init_62 rfl rfl ?_
  refine fr_sipush (pc := 63) (v := 150) d_MO_init_63 (by decide) ?_
  refine fr_newa (pc := 66) (nc := 9) (ns := 9600) (N := 150) (t := 0) (a0 := (150, .inl (fun _ => 0))) d_MO_init_66 rfl (fw_t 702 (by decide +kernel)) rfl (fun cA => rfl) (by decide) (by decide) (by decide) (fun q6 hq6 => ?_)
  refine fr_put (pc := 68) (fs2 := fm_f0 (va_up ar6 6 q6) 7) d_MO_init_68 fp_MO_init_32 (fw_up_at hI.1 (fun e => by have h9 := hI.1; rw [e, hq6] at h9; cases h9)) (Nat.le_of_ble_eq_true rfl) rfl rfl rfl ?_
  replace hI := fm_I_s hI hq6
  revert hI
  show fm_I g w mo (va_up ar6 6 q6) 7 (fw_up (fw_up w6 q6 (fm_ar g 6 (fun _ => 0))) mo (.inr (5, fm_f0 (va_up ar6 6 q6) 7))) → fw_R _ _ _ _ _ (fw_up (fw_up w6 q6 (fm_ar g 6 (fun _ => 0))) mo (.inr (5, fm_f0 (va_up ar6 6 q6) 7))) _ _ _
  generalize fw_up (fw_up w6 q6 (fm_ar g 6 (fun _ => 0))) mo (.inr (5, fm_f0 (va_up ar6 6 q6) 7)) = w7
  generalize (va_up ar6 6 q6) = ar7
  intro hI
  refine fr_aload_n (pc := 71) d_MO_init_71 rfl rfl ?_
  refine fr_sipush (pc := 72) (v := 150) d_MO_init_72 (by decide) ?_
  refine fr_newa (pc := 75) (nc := 8) (ns := 9450) (N := 150) (t := 0) (a0 := (150, .inl (fun _ => 0))) d_MO_init_75 rfl (fw_t 702 (by decide +kernel)) rfl (fun cA => rfl) (by decide) (by decide) (by decide) (fun q7 hq7 => ?_)
  refine fr_put (pc := 77) (fs2 := fm_f0 (va_up ar7 7 q7) 8) d_MO_init_77 fp_MO_init_35 (fw_up_at hI.1 (fun e => by have h9 := hI.1; rw [e, hq7] at h9; cases h9)) (Nat.le_of_ble_eq_true rfl) rfl rfl rfl ?_
  replace hI := fm_I_s hI hq7
  revert hI
  show fm_I g w mo (va_up ar7 7 q7) 8 (fw_up (fw_up w7 q7 (fm_ar g 7 (fun _ => 0))) mo (.inr (5, fm_f0 (va_up ar7 7 q7) 8))) → fw_R _ _ _ _ _ (fw_up (fw_up w7 q7 (fm_ar g 7 (fun _ => 0))) mo (.inr (5, fm_f0 (va_up ar7 7 q7) 8))) _ _ _
  generalize fw_up (fw_up w7 q7 (fm_ar g 7 (fun _ => 0))) mo (.inr (5, fm_f0 (va_up ar7 7 q7) 8)) = w8
  generalize (va_up ar7 7 q7) = ar8
  intro hI
  refine fr_aload_n (pc := 80) d_MO_init_80 rfl rfl ?_
  refine fr_sipush (pc := 81) (v := 150) d_MO_init_81 (by decide) ?_
  refine fr_newa (pc := 84) (nc := 7) (ns := 9300) (N := 150) (t := 1) (a0 := (150, .inl (fun _ => 0))) d_MO_init_84 rfl (fw_t 703 (by decide +kernel)) rfl (fun cA => rfl) (by decide) (by decide) (by decide) (fun q8 hq8 => ?_)
  refine fr_put (pc := 86) (fs2 := fm_f0 (va_up ar8 8 q8) 9) d_MO_init_86 fp_MO_init_38 (fw_up_at hI.1 (fun e => by have h9 := hI.1; rw [e, hq8] at h9; cases h9)) (Nat.le_of_ble_eq_true rfl) rfl rfl rfl ?_
  replace hI := fm_I_s hI hq8
  revert hI
  show fm_I g w mo (va_up ar8 8 q8) 9 (fw_up (fw_up w8 q8 (fm_ar g 8 (fun _ => 0))) mo (.inr (5, fm_f0 (va_up ar8 8 q8) 9))) → fw_R _ _ _ _ _ (fw_up (fw_up w8 q8 (fm_ar g 8 (fun _ => 0))) mo (.inr (5, fm_f0 (va_up ar8 8 q8) 9))) _ _ _
  generalize fw_up (fw_up w8 q8 (fm_ar g 8 (fun _ => 0))) mo (.inr (5, fm_f0 (va_up ar8 8 q8) 9)) = w9
  generalize (va_up ar8 8 q8) = ar9
  intro hI
  refine fr_aload_n (pc := 89) d_MO_init_89 rfl rfl ?_
  refine fr_sipush (pc := 90) (v := 150) d_MO_init_90 (by decide) ?_
  refine fr_newa (pc := 93) (nc := 6) (ns := 9150) (N := 150) (t := 1) (a0 := (150, .inl (fun _ => 0))) d_MO_init_93 rfl (fw_t 703 (by decide +kernel)) rfl (fun cA => rfl) (by decide) (by decide) (by decide) (fun q9 hq9 => ?_)
  refine fr_put (pc := 95) (fs2 := fm_f0 (va_up ar9 9 q9) 10) d_MO_init_95 fp_MO_init_42 (fw_up_at hI.1 (fun e => by have h9 := hI.1; rw [e, hq9] at h9; cases h9)) (Nat.le_of_ble_eq_true rfl) rfl rfl rfl ?_
  replace hI := fm_I_s hI hq9
  revert hI
  show fm_I g w mo (va_up ar9 9 q9) 10 (fw_up (fw_up w9 q9 (fm_ar g 9 (fun _ => 0))) mo (.inr (5, fm_f0 (va_up ar9 9 q9) 10))) → fw_R _ _ _ _ _ (fw_up (fw_up w9 q9 (fm_ar g 9 (fun _ => 0))) mo (.inr (5, fm_f0 (va_up ar9 9 q9) 10))) _ _ _
  generalize fw_up (fw_up w9 q9 (fm_ar g 9 (fun _ => 0))) mo (.inr (5, fm_f0 (va_up ar9 9 q9) 10)) = w10
  generalize (va_up ar9 9 q9) = ar10
  intro hI
  refine fr_aload_n (pc := 98) d_MO_init_98 rfl rfl ?_
  refine fr_sipush (pc := 99) (v := 150) d_MO_init_99 (by decide) ?_
  refine fr_newa (pc := 102) (nc := 5) (ns := 9000) (N := 150) (t := 1) (a0 := (150, .inl (fun _ => 0))) d_MO_init_102 rfl (fw_t 703 (by decide +kernel)) rfl (fun cA => rfl) (by decide) (by decide) (by decide) (fun q10 hq10 => ?_)
  refine fr_put (pc := 104) (fs2 := fm_f0 (va_up ar10 10 q10) 11) d_MO_init_104 fp_MO_init_45 (fw_up_at hI.1 (fun e => by have h9 := hI.1; rw [e, hq10] at h9; cases h9)) (Nat.le_of_ble_eq_true rfl) rfl rfl rfl ?_
  replace hI := fm_I_s hI hq10
  revert hI
  show fm_I g w mo (va_up ar10 10 q10) 11 (fw_up (fw_up w10 q10 (fm_ar g 10 (fun _ => 0))) mo (.inr (5, fm_f0 (va_up ar10 10 q10) 11))) → fw_R _ _ _ _ _ (fw_up (fw_up w10 q10 (fm_ar g 10 (fun _ => 0))) mo (.inr (5, fm_f0 (va_up ar10 10 q10) 11))) _ _ _
  generalize fw_up (fw_up w10 q10 (fm_ar g 10 (fun _ => 0))) mo (.inr (5, fm_f0 (va_up ar10 10 q10) 11)) = w11
  generalize (va_up ar10 10 q10) = ar11
  intro hI
  refine fr_aload_n (pc := 107) d_MO_init_107 rfl rfl ?_
  refine fr_sipush (pc := 108) (v := 1800) d_MO_init_108 (by decide) ?_
  refine fr_newa (pc := 111) (nc := 4) (ns := 7200) (N := 1800) (t := 0) (a0 := (1800, .inl (fun _ => 0))) d_MO_init_111 rfl (fw_t 702 (by decide +kernel)) rfl (fun cA => rfl) (by decide) (by decide) (by decide) (fun q11 hq11 => ?_)
  refine fr_put (pc := 113) (fs2 := fm_f0 (va_up ar11 11 q11) 12) d_MO_init_113 fp_MO_init_48 (fw_up_at hI.1 (fun e => by have h9 := hI.1; rw [e, hq11] at h9; cases h9)) (Nat.le_of_ble_eq_true rfl) rfl rfl rfl ?_
  replace hI := fm_I_s hI hq11
  revert hI
  show fm_I g w mo (va_up ar11 11 q11) 12 (fw_up (fw_up w11 q11 (fm_ar g 11 (fun _ => 0))) mo (.inr (5, fm_f0 (va_up ar11 11 q11) 12))) → fw_R _ _ _ _ _ (fw_up (fw_up w11 q11 (fm_ar g 11 (fun _ => 0))) mo (.inr (5, fm_f0 (va_up ar11 11 q11) 12))) _ _ _
  generalize fw_up (fw_up w11 q11 (fm_ar g 11 (fun _ => 0))) mo (.inr (5, fm_f0 (va_up ar11 11 q11) 12)) = w12
  generalize (va_up ar11 11 q11) = ar12
  intro hI
  refine fr_aload_n (pc := 116) d_MO_init_116 rfl rfl ?_
  refine fr_sipush (pc := 117) (v := 1800) d_MO_init_117 (by decide) ?_
  refine fr_newa (pc := 120) (nc := 3) (ns := 5400) (N := 1800) (t := 0) (a0 := (1800, .inl (fun _ => 0))) d_MO_init_120 rfl (fw_t 702 (by decide +kernel)) rfl (fun cA => rfl) (by decide) (by decide) (by decide) (fun q12 hq12 => ?_)
  refine fr_put (pc := 122) (fs2 := fm_f0 (va_up ar12 12 q12) 13) d_MO_init_122 fp_MO_init_51 (fw_up_at hI.1 (fun e => by have h9 := hI.1; rw [e, hq12] at h9; cases h9)) (Nat.le_of_ble_eq_true rfl) rfl rfl rfl ?_
  replace hI := fm_I_s hI hq12
  revert hI
  show fm_I g w mo (va_up ar12 12 q12) 13 (fw_up (fw_up w12 q12 (fm_ar g 12 (fun _ => 0))) mo (.inr (5, fm_f0 (va_up ar12 12 q12) 13))) → fw_R _ _ _ _ _ (fw_up (fw_up w12 q12 (fm_ar g 12 (fun _ => 0))) mo (.inr (5, fm_f0 (va_up ar12 12 q12) 13))) _ _ _
  generalize fw_up (fw_up w12 q12 (fm_ar g 12 (fun _ => 0))) mo (.inr (5, fm_f0 (va_up ar12 12 q12) 13)) = w13
  generalize (va_up ar12 12 q12) = ar13
  intro hI
  refine fr_aload_n (pc := 125) d_MO_init_125 rfl rfl ?_
  refine fr_sipush (pc := 126) (v := 1800) d_MO_init_126 (by decide) ?_
  refine fr_newa (pc := 129) (nc := 2) (ns := 3600) (N := 1800) (t := 1) (a0 := (1800, .inl (fun _ => 0))) d_MO_init_129 rfl (fw_t 703 (by decide +kernel)) rfl (fun cA => rfl) (by decide) (by decide) (by decide) (fun q13 hq13 => ?_)
  refine fr_put (pc := 131) (fs2 := fm_f0 (va_up ar13 13 q13) 14) d_MO_init_131 fp_MO_init_54 (fw_up_at hI.1 (fun e => by have h9 := hI.1; rw [e, hq13] at h9; cases h9)) (Nat.le_of_ble_eq_true rfl) rfl rfl rfl ?_
  replace hI := fm_I_s hI hq13
  revert hI
  show fm_I g w mo (va_up ar13 13 q13) 14 (fw_up (fw_up w13 q13 (fm_ar g 13 (fun _ => 0))) mo (.inr (5, fm_f0 (va_up ar13 13 q13) 14))) → fw_R _ _ _ _ _ (fw_up (fw_up w13 q13 (fm_ar g 13 (fun _ => 0))) mo (.inr (5, fm_f0 (va_up ar13 13 q13) 14))) _ _ _
  generalize fw_up (fw_up w13 q13 (fm_ar g 13 (fun _ => 0))) mo (.inr (5, fm_f0 (va_up ar13 13 q13) 14)) = w14
  generalize (va_up ar13 13 q13) = ar14
  intro hI
  refine fr_aload_n (pc := 134) d_MO_init_134 rfl rfl ?_
  refine fr_sipush (pc := 135) (v := 1800) d_MO_init_135 (by decide) ?_
  refine fr_newa (pc := 138) (nc := 1) (ns := 1800) (N := 1800) (t := 1) (a0 := (1800, .inl (fun _ => 0))) d_MO_init_138 rfl (fw_t 703 (by decide +kernel)) rfl (fun cA => rfl) (by decide) (by decide) (by decide) (fun q14 hq14 => ?_)
  refine fr_put (pc := 140) (fs2 := fm_f0 (va_up ar14 14 q14) 15) d_MO_init_140 fp_MO_init_57 (fw_up_at hI.1 (fun e => by have h9 := hI.1; rw [e, hq14] at h9; cases h9)) (Nat.le_of_ble_eq_true rfl) rfl rfl rfl ?_
  replace hI := fm_I_s hI hq14
  revert hI
  show fm_I g w mo (va_up ar14 14 q14) 15 (fw_up (fw_up w14 q14 (fm_ar g 14 (fun _ => 0))) mo (.inr (5, fm_f0 (va_up ar14 14 q14) 15))) → fw_R _ _ _ _ _ (fw_up (fw_up w14 q14 (fm_ar g 14 (fun _ => 0))) mo (.inr (5, fm_f0 (va_up ar14 14 q14) 15))) _ _ _
  generalize fw_up (fw_up w14 q14 (fm_ar g 14 (fun _ => 0))) mo (.inr (5, fm_f0 (va_up ar14 14 q14) 15)) = w15
  generalize (va_up ar14 14 q14) = ar15
  intro hI
  refine fr_aload_n (pc := 143) d_MO_init_143 rfl rfl ?_
  refine fr_sipush (pc := 144) (v := 1800) d_MO_init_144 (by decide) ?_
  refine fr_newa (pc := 147) (nc := 0) (ns := 0) (N := 1800) (t := 1) (a0 := (1800, .inl (fun _ => 0))) d_MO_init_147 rfl (fw_t 703 (by decide +kernel)) rfl (fun cA => rfl) (by decide) (by decide) (by decide) (fun q15 hq15 => ?_)
  refine fr_put (pc := 149) (fs2 := fm_f0 (va_up ar15 15 q15) 16) d_MO_init_149 fp_MO_init_60 (fw_up_at hI.1 (fun e => by have h9 := hI.1; rw [e, hq15] at h9; cases h9)) (Nat.le_of_ble_eq_true rfl) rfl rfl rfl ?_
  replace hI := fm_I_s hI hq15
  revert hI
  show fm_I g w mo (va_up ar15 15 q15) 16 (fw_up (fw_up w15 q15 (fm_ar g 15 (fun _ => 0))) mo (.inr (5, fm_f0 (va_up ar15 15 q15) 16))) → fw_R _ _ _ _ _ (fw_up (fw_up w15 q15 (fm_ar g 15 (fun _ => 0))) mo (.inr (5, fm_f0 (va_up ar15 15 q15) 16))) _ _ _
  generalize fw_up (fw_up w15 q15 (fm_ar g 15 (fun _ => 0))) mo (.inr (5, fm_f0 (va_up ar15 15 q15) 16)) = w16
  generalize (va_up ar15 15 q15) = ar16
  intro hI
  obtain ⟨h1, h2, h3, h4, h5, h6⟩ := hI
  have hA : fm_ad mo ar16 := ⟨h3, h4⟩
  have e0 : w16 = fm_W g w16 mo ar16 (0, 1, 0, 0, 0, 0) (fun _ _ => 0) := fs_X_of_fm h1 h2
  have h7 : ∀ F2, ∀ b e, w b = some e → b ≠ mo → fm_W g w16 mo ar16 (0, 1, 0, 0, 0, 0) F2 b = some e := fun F2 b e hb hbm => by rw [fm_out hbm (fun j hj z => by rw [z, h6 j hj] at hb; cases hb)]; exact h5 b e hb hbm
  rw [e0]
  refine fr_aload_n (pc := 152) d_MO_init_152 rfl rfl ?_
  refine fr_get (pc := 153) (v := .ref (ar16 4)) d_MO_init_153 fg_MO_26 fm_mo rfl ?_
  refine fr_iconst (pc := 156) (v := 0) d_MO_init_156 (by decide) ?_
  refine fr_iconst (pc := 157) (v := 1) d_MO_init_157 (by decide) ?_
  refine fr_mzst (pc := 158) (j := 4) (k := 0) (x := 1) d_MO_init_158 hA (by decide) rfl (by show 0 < 150; omega) (Or.inr rfl) ?_
  refine fr_aload_n (pc := 159) d_MO_init_159 rfl rfl ?_
  refine fr_get (pc := 160) (v := .ref (ar16 5)) d_MO_init_160 fg_MO_29 fm_mo rfl ?_
  refine fr_iconst (pc := 163) (v := 0) d_MO_init_163 (by decide) ?_
  refine fr_iconst (pc := 164) (v := 1) d_MO_init_164 (by decide) ?_
  refine fr_mzst (pc := 165) (j := 5) (k := 0) (x := 1) d_MO_init_165 hA (by decide) rfl (by show 0 < 150; omega) (Or.inr rfl) ?_
  refine fr_aload_n (pc := 166) d_MO_init_166 rfl rfl ?_
  refine fr_get (pc := 167) (v := .ref (ar16 7)) d_MO_init_167 fg_MO_35 fm_mo rfl ?_
  refine fr_iconst (pc := 170) (v := 0) d_MO_init_170 (by decide) ?_
  refine fr_iconst (pc := 171) (v := 1) d_MO_init_171 (by decide) ?_
  refine fr_mzst (pc := 172) (j := 7) (k := 0) (x := 1) d_MO_init_172 hA (by decide) rfl (by show 0 < 150; omega) (Or.inr rfl) ?_
  refine fr_aload_n (pc := 173) d_MO_init_173 rfl rfl ?_
  refine fr_get (pc := 174) (v := .ref (ar16 8)) d_MO_init_174 fg_MO_38 fm_mo rfl ?_
  refine fr_iconst (pc := 177) (v := 0) d_MO_init_177 (by decide) ?_
  refine fr_iconst (pc := 178) (v := -1) d_MO_init_178 (by decide) ?_
  refine fr_mist (pc := 179) (j := 8) (k := 0) (x := (-1)) d_MO_init_179 hA (by decide) rfl (by show 0 < 150; omega) ?_
  exact fr_vret rfl d_MO_init_180 ⟨rfl, ar16, w16, hA, rfl, h7 _, h6⟩

def fs_d0 : fs_D := va_up (fun _ => none) 0 (some (true, none, 0, false, true, []))
theorem fs_ok_0 : fs_ok 1 0 fs_d0 := by
  have hc : fs_ch fs_d0 0 [] := ⟨_, vu_self, rfl⟩
  refine ⟨Nat.le_refl _, by omega, by omega, ⟨_, vu_self, rfl⟩, fun k N hk => ?_⟩
  by_cases e : k = 0
  · subst e
    have hN : N = (true, none, 0, false, true, []) := by
      have h2 : fs_d0 0 = some (true, none, 0, false, true, []) := vu_self
      rw [h2] at hk; exact (Option.some.inj hk).symm
    subst hN
    refine ⟨by omega, fun _ => rfl, by decide, Nat.zero_le _, fun E hE => (by cases hE), ?_, ?_⟩
    · rw [fs_ab_of hc (by simp)]; exact hc
    · rw [fs_ab_of hc (by simp)]; simp
  · have h2 : fs_d0 k = none := vu_ne e
    rw [h2] at hk; cases hk
theorem c_FR_init {g : fw_G} {w : fw_W} {o : Nat} (h : w o = some (.inr (0, [.null, .null, .int 0]))) : fw_R g m_FR_init (fun r u => r = .inl none ∧ ∃ gr a1 a2 a3 a4 na, fs_X g (o, gr, a1, a2, a3, a4, na) (1, 0, (fun _ _ => false), (fun _ _ => false), fs_d0) u ∧ ∀ b e, w b = some e → b ≠ o → u b = some e) 8 261 w 0 [(0, .ref o)] [] := by
  refine fr_aload_n (pc := 0) d_FR_init_0 rfl rfl ?_
  refine fr_objInit (pc := 1) d_FR_init_1 (fw_t 27 (by decide +kernel)) (fw_t 28 (by decide +kernel)) (fw_t 29 (by decide +kernel)) (by decide) (Nat.le_of_ble_eq_true rfl) ?_
  refine fr_aload_n (pc := 4) d_FR_init_4 rfl rfl ?_
  refine fr_new (pc := 5) (nc := 7) (ns := 256) (ci := 1) (N := 5) (fs := [.int 0, .null, .null, .null, .null]) d_FR_init_5 nw_GR_FR (fun gr hgr => ?_)
  refine fr_dup (pc := 8) d_FR_init_8 rfl ?_
  refine fr_calli (pc := 9) (nc := 3) (ns := 160) (N := m_GR_init) (rest := [.ref gr, .ref o]) (as := []) d_FR_init_9 k_GR_init rfl rfl rfl (fw_t 34 (by decide +kernel)) lk_FR_9 im_GR_init np_GR_init ⟨by decide, by decide, Nat.le_of_ble_eq_true rfl⟩ (Nat.le_of_ble_eq_true rfl) (c_GR_init fw_up_self) (fun v1 w2 h9 => ?_) (fun C w1 h9 => by obtain ⟨h1, -⟩ := h9; cases h1) rfl
  obtain ⟨h1, a1, a2, a3, a4, hG, n1, n2, n3, n4, hfr⟩ := h9
  cases h1
  have hog : o ≠ gr := fun z => by rw [z, hgr] at h; cases h
  have hup1 : ∀ b e, w b = some e → w2 b = some e := fun b e hb => by
    have hbg : b ≠ gr := fun z => by rw [z, hgr] at hb; cases hb
    rw [hfr b (by rw [fw_up_ne hbg, hb]; intro q; cases q) hbg, fw_up_ne hbg]; exact hb
  refine fr_put (pc := 12) (fs2 := [.ref gr, .null, .int 0]) d_FR_init_12 fp_FR_init_10 (hup1 _ _ h) (Nat.le_of_ble_eq_true rfl) rfl rfl rfl ?_
  refine fr_aload_n (pc := 15) d_FR_init_15 rfl rfl ?_
  refine fr_sipush (pc := 16) (v := 150) d_FR_init_16 (by decide) ?_
  refine fr_newq (pc := 19) (nc := 2) (ns := 10) (C := "FolderRights$Node") (N := 150) (t := 3) d_FR_init_19 (fw_t 55 (by decide +kernel)) (fw_t 56 (by decide +kernel)) rfl (by decide) (by decide) (by decide) (fun na hna => ?_)
  have hon : o ≠ na := fun z => by rw [← z, fw_up_self] at hna; cases hna
  refine fr_put (pc := 22) (fs2 := [.ref gr, .ref na, .int 0]) d_FR_init_22 fp_FR_init_18 (fw_up_at fw_up_self hon) (Nat.le_of_ble_eq_true rfl) rfl rfl rfl ?_
  refine fr_aload_n (pc := 25) d_FR_init_25 rfl rfl ?_
  refine fr_get (pc := 26) (v := .ref na) d_FR_init_26 fg_FR_18 fw_up_self rfl ?_
  refine fr_iconst (pc := 29) (v := 0) d_FR_init_29 (by decide) ?_
  refine fr_new (pc := 30) (nc := 1) (ns := 3) (ci := 2) (N := 7) (fs := [.int 0, .int 0, .null, .null, .int 0, .int 0, .int 0]) d_FR_init_30 nw_ND_FR (fun q hq => ?_)
  refine fr_dup (pc := 33) d_FR_init_33 rfl ?_
  refine fr_iconst (pc := 34) (v := 0) d_FR_init_34 (by decide) ?_
  refine fr_null (pc := 35) d_FR_init_35 ?_
  refine fr_iconst (pc := 36) (v := 1) d_FR_init_36 (by decide) ?_
  refine fr_iconst (pc := 37) (v := 0) d_FR_init_37 (by decide) ?_
  refine fr_calli (pc := 38) (nc := 0) (ns := 0) (N := m_ND_init) (rest := [.ref q, .int 0, .ref na]) (as := [.int 0, .null, .int 1, .int 0]) d_FR_init_38 k_ND_init rfl rfl rfl (fw_t 60 (by decide +kernel)) lk_FR_22 im_ND_init np_ND_init ⟨by decide, by decide, Nat.le_of_ble_eq_true rfl⟩ (Nat.le_of_ble_eq_true rfl) (c_ND_init (n := 0) (ow := 0) (fo := true) (pr := none) fw_up_self) (fun v1 w1 h9 => ?_) (fun C w1 h9 => by obtain ⟨h1, -⟩ := h9; cases h1) rfl
  obtain ⟨h1, q2, hq2, hne, rfl⟩ := h9
  cases h1
  rw [fw_uu]
  show fw_R g m_FR_init _ _ _ (fw_up (fw_up (fw_up (fw_up (fw_up w2 o (.inr (0, [.ref gr, .null, .int 0]))) na (fs_no g (fun _ => none))) o (.inr (0, [.ref gr, .ref na, .int 0]))) q (.inr (2, fs_nc 0 (true, none, 0, false, true, []) q2 none))) q2 (.inr (4, [.int 0, .ref (fw_df g), .int 0]))) _ _ _
  have hq20 : (fw_up (fw_up (fw_up w2 o (.inr (0, [.ref gr, .null, .int 0]))) na (fs_no g (fun _ => none))) o (.inr (0, [.ref gr, .ref na, .int 0]))) q2 = none := (fw_up_ne hne).symm.trans hq2
  have hup5 : ∀ b e, (fw_up (fw_up (fw_up w2 o (.inr (0, [.ref gr, .null, .int 0]))) na (fs_no g (fun _ => none))) o (.inr (0, [.ref gr, .ref na, .int 0]))) b = some e → (fw_up (fw_up (fw_up (fw_up (fw_up w2 o (.inr (0, [.ref gr, .null, .int 0]))) na (fs_no g (fun _ => none))) o (.inr (0, [.ref gr, .ref na, .int 0]))) q (.inr (2, fs_nc 0 (true, none, 0, false, true, []) q2 none))) q2 (.inr (4, [.int 0, .ref (fw_df g), .int 0]))) b = some e := fun b e hb => fw_up_at (fw_up_at hb (fun z => by rw [z, hq] at hb; cases hb)) (fun z => by rw [z, hq20] at hb; cases hb)
  have hN7 : (fw_up (fw_up (fw_up (fw_up (fw_up w2 o (.inr (0, [.ref gr, .null, .int 0]))) na (fs_no g (fun _ => none))) o (.inr (0, [.ref gr, .ref na, .int 0]))) q (.inr (2, fs_nc 0 (true, none, 0, false, true, []) q2 none))) q2 (.inr (4, [.int 0, .ref (fw_df g), .int 0]))) na = some (fs_no g (fun _ => none)) := hup5 _ _ (fw_up_at fw_up_self (Ne.symm hon))
  have h07 : (fw_up (fw_up (fw_up (fw_up (fw_up w2 o (.inr (0, [.ref gr, .null, .int 0]))) na (fs_no g (fun _ => none))) o (.inr (0, [.ref gr, .ref na, .int 0]))) q (.inr (2, fs_nc 0 (true, none, 0, false, true, []) q2 none))) q2 (.inr (4, [.int 0, .ref (fw_df g), .int 0]))) o = some (.inr (0, [.ref gr, .ref na, .int 0])) := hup5 _ _ fw_up_self
  have hqc : (fw_up (fw_up (fw_up (fw_up (fw_up w2 o (.inr (0, [.ref gr, .null, .int 0]))) na (fs_no g (fun _ => none))) o (.inr (0, [.ref gr, .ref na, .int 0]))) q (.inr (2, fs_nc 0 (true, none, 0, false, true, []) q2 none))) q2 (.inr (4, [.int 0, .ref (fw_df g), .int 0]))) q = some (.inr (2, fs_nc 0 (true, none, 0, false, true, []) q2 none)) := fw_up_at fw_up_self (Ne.symm hne)
  refine fr_aastk (pc := 41) (k := 0) (t := 3) (ci := 2) d_FR_init_41 rfl rfl hN7 hqc (by omega) (by omega) ?_
  refine fr_aload_n (pc := 42) d_FR_init_42 rfl rfl ?_
  refine fr_iconst (pc := 43) (v := 1) d_FR_init_43 (by decide) ?_
  refine fr_put (pc := 44) (fs2 := [.ref gr, .ref na, .int 1]) d_FR_init_44 fp_FR_init_25 (fw_up_at h07 hon) (Nat.le_of_ble_eq_true rfl) rfl rfl rfl ?_
  have hup9 : ∀ b e, (fw_up (fw_up (fw_up (fw_up (fw_up w2 o (.inr (0, [.ref gr, .null, .int 0]))) na (fs_no g (fun _ => none))) o (.inr (0, [.ref gr, .ref na, .int 0]))) q (.inr (2, fs_nc 0 (true, none, 0, false, true, []) q2 none))) q2 (.inr (4, [.int 0, .ref (fw_df g), .int 0]))) b = some e → b ≠ o → b ≠ na → (fw_up (fw_up (fw_up (fw_up (fw_up (fw_up (fw_up w2 o (.inr (0, [.ref gr, .null, .int 0]))) na (fs_no g (fun _ => none))) o (.inr (0, [.ref gr, .ref na, .int 0]))) q (.inr (2, fs_nc 0 (true, none, 0, false, true, []) q2 none))) q2 (.inr (4, [.int 0, .ref (fw_df g), .int 0]))) na (fs_no g (va_up (fun _ => none) 0 (some q)))) o (.inr (0, [.ref gr, .ref na, .int 1]))) b = some e := fun b e hb h1 h2 => fw_up_at (fw_up_at hb h2) h1
  have hup2 : ∀ b e, w2 b = some e → b ≠ o → (fw_up (fw_up (fw_up (fw_up (fw_up (fw_up (fw_up w2 o (.inr (0, [.ref gr, .null, .int 0]))) na (fs_no g (fun _ => none))) o (.inr (0, [.ref gr, .ref na, .int 0]))) q (.inr (2, fs_nc 0 (true, none, 0, false, true, []) q2 none))) q2 (.inr (4, [.int 0, .ref (fw_df g), .int 0]))) na (fs_no g (va_up (fun _ => none) 0 (some q)))) o (.inr (0, [.ref gr, .ref na, .int 1]))) b = some e := fun b e hb h1 => by
    have hbn : b ≠ na := fun z => by
      subst z
      rw [fw_up_ne h1, hb] at hna; cases hna
    exact hup9 b e (hup5 b e (fw_up_at (fw_up_at (fw_up_at hb h1) hbn) h1)) h1 hbn
  have hq9 : (fw_up (fw_up (fw_up (fw_up (fw_up (fw_up (fw_up w2 o (.inr (0, [.ref gr, .null, .int 0]))) na (fs_no g (fun _ => none))) o (.inr (0, [.ref gr, .ref na, .int 0]))) q (.inr (2, fs_nc 0 (true, none, 0, false, true, []) q2 none))) q2 (.inr (4, [.int 0, .ref (fw_df g), .int 0]))) na (fs_no g (va_up (fun _ => none) 0 (some q)))) o (.inr (0, [.ref gr, .ref na, .int 1]))) q = some (.inr (2, fs_nc 0 (true, none, 0, false, true, []) q2 none)) := hup9 q _ hqc (fs_ne hqc h07 (fun z => by cases z)) (fs_ne hqc hN7 (fun z => by cases z))
  have hl7 : (fw_up (fw_up (fw_up (fw_up (fw_up w2 o (.inr (0, [.ref gr, .null, .int 0]))) na (fs_no g (fun _ => none))) o (.inr (0, [.ref gr, .ref na, .int 0]))) q (.inr (2, fs_nc 0 (true, none, 0, false, true, []) q2 none))) q2 (.inr (4, [.int 0, .ref (fw_df g), .int 0]))) q2 = some (.inr (4, [.int 0, .ref (fw_df g), .int 0])) := fw_up_self
  have hl9 : (fw_up (fw_up (fw_up (fw_up (fw_up (fw_up (fw_up w2 o (.inr (0, [.ref gr, .null, .int 0]))) na (fs_no g (fun _ => none))) o (.inr (0, [.ref gr, .ref na, .int 0]))) q (.inr (2, fs_nc 0 (true, none, 0, false, true, []) q2 none))) q2 (.inr (4, [.int 0, .ref (fw_df g), .int 0]))) na (fs_no g (va_up (fun _ => none) 0 (some q)))) o (.inr (0, [.ref gr, .ref na, .int 1]))) q2 = some (.inr (4, [.int 0, .ref (fw_df g), .int 0])) := hup9 q2 _ hl7 (fs_ne hl7 h07 (fun z => by cases z)) (fs_ne hl7 hN7 (fun z => by cases z))
  have hrr : fs_rN g (fw_up (fw_up (fw_up (fw_up (fw_up (fw_up (fw_up w2 o (.inr (0, [.ref gr, .null, .int 0]))) na (fs_no g (fun _ => none))) o (.inr (0, [.ref gr, .ref na, .int 0]))) q (.inr (2, fs_nc 0 (true, none, 0, false, true, []) q2 none))) q2 (.inr (4, [.int 0, .ref (fw_df g), .int 0]))) na (fs_no g (va_up (fun _ => none) 0 (some q)))) o (.inr (0, [.ref gr, .ref na, .int 1]))) fs_d0 (va_up (fun _ => none) 0 (some q)) (fun _ => q2) (fun _ => fw_df g) (fun _ => 10) (fun _ => []) := by
    have key : ∀ j, fs_d0 j ≠ none → j = 0 := fun j hj => Classical.byContradiction (fun e => hj (vu_ne e))
    refine ⟨fun j hj => vu_ne (fun e => by subst e; exact absurd (show fs_d0 0 = some _ from vu_self) (by rw [hj]; intro z; cases z)), fun j M hj => ?_, fun i j e1 e2 _ => by rw [key i e1, key j e2], fun i j e1 e2 _ _ => by rw [key i e1, key j e2]⟩
    have hj0 := key j (by rw [hj]; intro z; cases z)
    subst hj0
    have hM : M = (true, none, 0, false, true, []) := by
      have h2 : fs_d0 0 = some (true, none, 0, false, true, []) := vu_self
      rw [h2] at hj; exact (Option.some.inj hj).symm
    subst hM
    exact ⟨by omega, q, vu_self, hq9, ⟨0, hl9, Nat.zero_le _, fun y hy => (by cases hy), Or.inl ⟨rfl, rfl⟩⟩, ⟨rfl, fun i y E z => (by simp at z)⟩⟩
  have hGo : ∀ b e, w2 b = some e → (∀ ci fs, e = .inr (ci, fs) → ci = 1) → b ≠ o := fun b e hb h1 z => by
    subst z
    rw [hup1 _ _ h] at hb; cases hb
    have := h1 0 _ rfl; omega
  exact fr_vret rfl d_FR_init_47 ⟨rfl, gr, a1, a2, a3, a4, na, fs_X_in fs_ok_0 fw_up_self (fs_gr_fr hG (fun b e hb h1 _ => hup2 b e hb (hGo b e hb h1))) gr_rep_0 (fw_up_at fw_up_self (Ne.symm hon)) hrr, fun b e hb hbo => hup2 b e (hup1 b e hb) hbo⟩

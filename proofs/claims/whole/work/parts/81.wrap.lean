abbrev lx_lo (g : fw_G) (f : Nat → Int64) : va_E := .inl (fw_c g 2, 1, .inr (.inl f))
def fm_nk (e : va_E) : Prop := (∀ fs, e ≠ .inr (5, fs)) ∧ (∀ c n f, e ≠ .inl (c, n, .inl f)) ∧ (∀ c f, e ≠ .inl (c, 1, .inr (.inl f)))
def fm_mk (e : va_E) : Prop := (∃ fs, e = .inr (5, fs)) ∨ ∃ c n f, e = .inl (c, n, .inl f)
theorem fm_nk_o {ci : Nat} {fs : List Value} (h : ci ≠ 5) : fm_nk (.inr (ci, fs)) := ⟨fun _ e => (by cases e; exact h rfl), fun _ _ _ e => (by cases e), fun _ _ e => (by cases e)⟩
theorem fm_nk_l {c : ClassId} {n : Nat} {f : Nat → Int64} (h : n ≠ 1) : fm_nk (.inl (c, n, .inr (.inl f))) := ⟨fun _ e => (by cases e), fun _ _ _ e => (by cases e), fun _ _ e => (by cases e; exact h rfl)⟩
theorem fm_nk_q {c : ClassId} {n : Nat} {f : Nat → Option Nat} : fm_nk (.inl (c, n, .inr (.inr (.inr (.inr f))))) := ⟨fun _ e => (by cases e), fun _ _ _ e => (by cases e), fun _ _ e => (by cases e)⟩
theorem fm_nk_kk {e : va_E} (h : fs_kk e) : fm_nk e := by
  rcases h with ⟨ci, fs, rfl, h1, h2⟩ | ⟨c, n, f, rfl, -⟩
  · exact fm_nk_o (by omega)
  · exact fm_nk_q
theorem fs_X_nk {g : fw_G} {A : fs_A} {S : fs_S} {u v : fw_W} (hF : ∀ b e, u b = some e → fm_nk e → v b = some e) (h : fs_X g A S u) : fs_X g A S v := by
  obtain ⟨f1, f2, f3, f4, ad, lq, ld, lc, lt, hok, h0, hG, hR, hN, hr⟩ := h
  obtain ⟨e0, e1, e2, e3, e4, e5⟩ := hG
  exact ⟨f1, f2, f3, f4, ad, lq, ld, lc, lt, hok, hF _ _ h0 (fm_nk_o (by decide)), ⟨hF _ _ e0 (fm_nk_o (by decide)), hF _ _ e1 (fm_nk_l (by decide)), hF _ _ e2 (fm_nk_l (by decide)), hF _ _ e3 (fm_nk_l (by decide)), hF _ _ e4 (fm_nk_l (by decide)), e5⟩, hR, hF _ _ hN fm_nk_q, fs_rN_fr hr (fun b e hb hk => hF b e hb (fm_nk_kk hk))⟩
theorem lx_Fr {g : fw_G} {A : fs_A} {S : fs_S} {w u : fw_W} (hX : fs_X g A S w) (hF : fs_Fr A w u) {b : Nat} {e : va_E} (hb : w b = some e) (h1 : ∀ ci fs, e = .inr (ci, fs) → ci = 5) (h2 : ∀ c n f, e ≠ .inl (c, n, .inr (.inr (.inr (.inr f))))) (h3 : ∀ c f, e ≠ .inl (c, 24, .inr (.inl f))) : u b = some e := by
  obtain ⟨f1, f2, f3, f4, ad, lq, ld, lc, lt, hok, h0, hG, hR, hN, hr⟩ := hX
  obtain ⟨e0, e1, e2, e3, e4, e5⟩ := hG
  rcases hF b e hb with (⟨ci, fs, rfl, hci⟩ | ⟨c, n, f, rfl⟩ | q | q | q | q) | h
  · have := h1 ci fs rfl; omega
  · exact absurd rfl (h2 c n f)
  · subst q; rw [e1] at hb; cases hb; exact absurd rfl (h3 _ _)
  · subst q; rw [e2] at hb; cases hb; exact absurd rfl (h3 _ _)
  · subst q; rw [e3] at hb; cases hb; exact absurd rfl (h3 _ _)
  · subst q; rw [e4] at hb; cases hb; exact absurd rfl (h3 _ _)
  · exact h
theorem lx_Fr_mk {g : fw_G} {A : fs_A} {S : fs_S} {w u : fw_W} (hX : fs_X g A S w) (hF : fs_Fr A w u) (b : Nat) (e : va_E) (hb : w b = some e) (hm : fm_mk e) : u b = some e := by
  rcases hm with ⟨fs, rfl⟩ | ⟨c, n, f, rfl⟩
  · exact lx_Fr hX hF hb (fun ci fs z => by cases z; rfl) (fun c n f z => by cases z) (fun c f z => by cases z)
  · exact lx_Fr hX hF hb (fun ci fs z => by cases z) (fun c n f z => by cases z) (fun c f z => by cases z)
theorem lx_Fr_lo {g : fw_G} {A : fs_A} {S : fs_S} {w u : fw_W} (hX : fs_X g A S w) (hF : fs_Fr A w u) {b : Nat} {f : Nat → Int64} (hb : w b = some (lx_lo g f)) : u b = some (lx_lo g f) :=
  lx_Fr hX hF hb (fun ci fs z => by cases z) (fun c n f z => by cases z) (fun c f z => by cases z)
theorem lx_up_nk {g : fw_G} {u : fw_W} {a : Nat} {f f2 : Nat → Int64} (ha : u a = some (lx_lo g f)) (b : Nat) (e : va_E) (hb : u b = some e) (hk : fm_nk e) : fw_up u a (lx_lo g f2) b = some e := by
  refine fw_up_at hb (fun z => ?_)
  subst z
  rw [ha] at hb; cases hb
  exact hk.2.2 _ _ rfl
theorem lx_up_mk {g : fw_G} {u : fw_W} {a : Nat} {f f2 : Nat → Int64} (ha : u a = some (lx_lo g f)) (b : Nat) (e : va_E) (hb : u b = some e) (hk : fm_mk e) : fw_up u a (lx_lo g f2) b = some e := by
  refine fw_up_at hb (fun z => ?_)
  subst z
  rw [ha] at hb; cases hb
  rcases hk with ⟨fs, z⟩ | ⟨c, n, f, z⟩ <;> cases z
def lx_Wp (g : fw_G) (A : fs_A) (w : fw_W) (out : Nat) (S : fs_S) (c : Int32) (x : Int64) : fw_O → fw_W → Prop := fun r u => r = .inl (some (.int c)) ∧ fs_X g A S u ∧ (∀ b e, w b = some e → fm_mk e → u b = some e) ∧ ∃ f, u out = some (lx_lo g f) ∧ (c = 0 → f 0 = x)
theorem lx_o {g : fw_G} {A : fs_A} {S : fs_S} {w : fw_W} (h : fs_X g A S w) : ∃ fs, w A.1 = some (.inr (0, fs)) := by
  obtain ⟨f1, f2, f3, f4, ad, lq, ld, lc, lt, hok, h0, -⟩ := h
  exact ⟨_, h0⟩
theorem upL_self {f : Nat → Int64} {k : Nat} {x : Int64} : vp_updL f k x k = x := by simp [vp_updL]
theorem fr_nzl {g : fw_G} {M : fw_M} {Post : fw_O → fw_W → Prop} {nc ns : Nat} {w : fw_W} {pc : Nat} {L : List (Nat × Value)} {rest : List Value} {b : Bool} (p1 p2 p3 : Nat) (e1 : pc + 3 = p1) (e2 : p1 + 1 = p2) (e3 : pc + 7 = p3) (h1 : decode M.2.1 pc = .ok (.ifCond .eq 7, 3)) (h2 : decode M.2.1 p1 = .ok (.lconst 1, 1)) (h3 : decode M.2.1 p2 = .ok (.goto 4, 3)) (h4 : decode M.2.1 p3 = .ok (.lconst 0, 1)) (kk : fw_R g M Post nc ns w (pc + 8) L (.long (bI b).toInt64 :: rest)) : fw_R g M Post nc ns w pc L (.int (bI b) :: rest) := by
  subst e1 e2 e3
  refine fr_if_eq (tgt := pc + 7) h1 (by omega) (fun q => ?_) (fun q => ?_)
  · have e := bI_0.mp q
    subst e
    exact fr_lconst (v := 0) h4 (by decide) kk
  · have e := ts_nf (fun x => q (bI_0.mpr x))
    subst e
    exact fr_lconst (v := 1) h2 (by decide) (fr_goto (tgt := pc + 8) h3 (by omega) kk)
theorem fr_nz {g : fw_G} {M : fw_M} {Post : fw_O → fw_W → Prop} {nc ns : Nat} {w : fw_W} {pc : Nat} {L : List (Nat × Value)} {rest : List Value} {x : Int32} (p1 p2 p3 : Nat) (e1 : pc + 3 = p1) (e2 : p1 + 1 = p2) (e3 : pc + 7 = p3) (h1 : decode M.2.1 pc = .ok (.ifCond .eq 7, 3)) (h2 : decode M.2.1 p1 = .ok (.iconst 1, 1)) (h3 : decode M.2.1 p2 = .ok (.goto 4, 3)) (h4 : decode M.2.1 p3 = .ok (.iconst 0, 1)) (kk : fw_R g M Post nc ns w (pc + 8) L (.int (bI (decide (x ≠ 0))) :: rest)) : fw_R g M Post nc ns w pc L (.int x :: rest) := by
  subst e1 e2 e3
  refine fr_if_eq (tgt := pc + 7) h1 (by omega) (fun q => ?_) (fun q => ?_)
  · have e : decide (x ≠ 0) = false := decide_eq_false (fun z => z q)
    rw [e] at kk
    exact fr_iconst (v := 0) h4 (by decide) kk
  · have e : decide (x ≠ 0) = true := decide_eq_true q
    rw [e] at kk
    exact fr_iconst (v := 1) h2 (by decide) (fr_goto (tgt := pc + 8) h3 (by omega) kk)
abbrev m_LW_user : fw_M := (⟨"FolderRightsLaw", "user", "(LFolderRights;[J)I"⟩, method_3_code, 3, (some .int), { frames := 7, cells := 1, slots := 6, locals := 110 }, [(0, 8, 11, 13)])
theorem d_LW_user_0 : decode m_LW_user.2.1 0 = .ok (.aload_n 1, 1) := by decide +kernel
theorem d_LW_user_1 : decode m_LW_user.2.1 1 = .ok (.iconst 0, 1) := by decide +kernel
theorem d_LW_user_2 : decode m_LW_user.2.1 2 = .ok (.aload_n 0, 1) := by decide +kernel
theorem d_LW_user_3 : decode m_LW_user.2.1 3 = .ok (.invokevirtual 7, 3) := by decide +kernel
theorem d_LW_user_6 : decode m_LW_user.2.1 6 = .ok (.i2l, 1) := by decide +kernel
theorem d_LW_user_7 : decode m_LW_user.2.1 7 = .ok (.lastore, 1) := by decide +kernel
theorem d_LW_user_8 : decode m_LW_user.2.1 8 = .ok (.goto 6, 3) := by decide +kernel
theorem d_LW_user_11 : decode m_LW_user.2.1 11 = .ok (.astore_n 2, 1) := by decide +kernel
theorem d_LW_user_12 : decode m_LW_user.2.1 12 = .ok (.iconst 1, 1) := by decide +kernel
theorem d_LW_user_13 : decode m_LW_user.2.1 13 = .ok (.ireturn, 1) := by decide +kernel
theorem d_LW_user_14 : decode m_LW_user.2.1 14 = .ok (.iconst 0, 1) := by decide +kernel
theorem d_LW_user_15 : decode m_LW_user.2.1 15 = .ok (.ireturn, 1) := by decide +kernel
theorem k_LW_user : fw_cal m_LW_user := ⟨by decide +kernel, by decide +kernel, (fw_t 0 (by decide +kernel)), Or.inr (fw_t 139 (by decide +kernel))⟩
abbrev m_LW_group : fw_M := (⟨"FolderRightsLaw", "group", "(LFolderRights;[J)I"⟩, method_4_code, 3, (some .int), { frames := 7, cells := 1, slots := 6, locals := 110 }, [(0, 8, 11, 13)])
theorem d_LW_group_0 : decode m_LW_group.2.1 0 = .ok (.aload_n 1, 1) := by decide +kernel
theorem d_LW_group_1 : decode m_LW_group.2.1 1 = .ok (.iconst 0, 1) := by decide +kernel
theorem d_LW_group_2 : decode m_LW_group.2.1 2 = .ok (.aload_n 0, 1) := by decide +kernel
theorem d_LW_group_3 : decode m_LW_group.2.1 3 = .ok (.invokevirtual 15, 3) := by decide +kernel
theorem d_LW_group_6 : decode m_LW_group.2.1 6 = .ok (.i2l, 1) := by decide +kernel
theorem d_LW_group_7 : decode m_LW_group.2.1 7 = .ok (.lastore, 1) := by decide +kernel
theorem d_LW_group_8 : decode m_LW_group.2.1 8 = .ok (.goto 6, 3) := by decide +kernel
theorem d_LW_group_11 : decode m_LW_group.2.1 11 = .ok (.astore_n 2, 1) := by decide +kernel
theorem d_LW_group_12 : decode m_LW_group.2.1 12 = .ok (.iconst 1, 1) := by decide +kernel
theorem d_LW_group_13 : decode m_LW_group.2.1 13 = .ok (.ireturn, 1) := by decide +kernel
theorem d_LW_group_14 : decode m_LW_group.2.1 14 = .ok (.iconst 0, 1) := by decide +kernel
theorem d_LW_group_15 : decode m_LW_group.2.1 15 = .ok (.ireturn, 1) := by decide +kernel
theorem k_LW_group : fw_cal m_LW_group := ⟨by decide +kernel, by decide +kernel, (fw_t 0 (by decide +kernel)), Or.inr (fw_t 215 (by decide +kernel))⟩
abbrev m_LW_join : fw_M := (⟨"FolderRightsLaw", "join", "(LFolderRights;IIZ[J)I"⟩, method_5_code, 6, (some .int), { frames := 9, cells := 4, slots := 24, locals := 156 }, [(0, 19, 22, 22), (0, 19, 26, 13)])
theorem d_LW_join_0 : decode m_LW_join.2.1 0 = .ok (.aload 4, 2) := by decide +kernel
theorem d_LW_join_2 : decode m_LW_join.2.1 2 = .ok (.iconst 0, 1) := by decide +kernel
theorem d_LW_join_3 : decode m_LW_join.2.1 3 = .ok (.aload_n 0, 1) := by decide +kernel
theorem d_LW_join_4 : decode m_LW_join.2.1 4 = .ok (.iload_n 1, 1) := by decide +kernel
theorem d_LW_join_5 : decode m_LW_join.2.1 5 = .ok (.iload_n 2, 1) := by decide +kernel
theorem d_LW_join_6 : decode m_LW_join.2.1 6 = .ok (.iload_n 3, 1) := by decide +kernel
theorem d_LW_join_7 : decode m_LW_join.2.1 7 = .ok (.invokevirtual 18, 3) := by decide +kernel
theorem d_LW_join_10 : decode m_LW_join.2.1 10 = .ok (.ifCond .eq 7, 3) := by decide +kernel
theorem d_LW_join_13 : decode m_LW_join.2.1 13 = .ok (.lconst 1, 1) := by decide +kernel
theorem d_LW_join_14 : decode m_LW_join.2.1 14 = .ok (.goto 4, 3) := by decide +kernel
theorem d_LW_join_17 : decode m_LW_join.2.1 17 = .ok (.lconst 0, 1) := by decide +kernel
theorem d_LW_join_18 : decode m_LW_join.2.1 18 = .ok (.lastore, 1) := by decide +kernel
theorem d_LW_join_19 : decode m_LW_join.2.1 19 = .ok (.goto 11, 3) := by decide +kernel
theorem d_LW_join_22 : decode m_LW_join.2.1 22 = .ok (.astore 5, 2) := by decide +kernel
theorem d_LW_join_24 : decode m_LW_join.2.1 24 = .ok (.iconst 1, 1) := by decide +kernel
theorem d_LW_join_25 : decode m_LW_join.2.1 25 = .ok (.ireturn, 1) := by decide +kernel
theorem d_LW_join_26 : decode m_LW_join.2.1 26 = .ok (.astore 5, 2) := by decide +kernel
theorem d_LW_join_28 : decode m_LW_join.2.1 28 = .ok (.iconst 2, 1) := by decide +kernel
theorem d_LW_join_29 : decode m_LW_join.2.1 29 = .ok (.ireturn, 1) := by decide +kernel
theorem d_LW_join_30 : decode m_LW_join.2.1 30 = .ok (.iconst 0, 1) := by decide +kernel
theorem d_LW_join_31 : decode m_LW_join.2.1 31 = .ok (.ireturn, 1) := by decide +kernel
theorem k_LW_join : fw_cal m_LW_join := ⟨by decide +kernel, by decide +kernel, (fw_t 0 (by decide +kernel)), Or.inr (fw_t 223 (by decide +kernel))⟩
abbrev m_LW_leave : fw_M := (⟨"FolderRightsLaw", "leave", "(LFolderRights;IIZ[J)I"⟩, method_6_code, 6, (some .int), { frames := 9, cells := 3, slots := 18, locals := 156 }, [(0, 19, 22, 22)])
theorem d_LW_leave_0 : decode m_LW_leave.2.1 0 = .ok (.aload 4, 2) := by decide +kernel
theorem d_LW_leave_2 : decode m_LW_leave.2.1 2 = .ok (.iconst 0, 1) := by decide +kernel
theorem d_LW_leave_3 : decode m_LW_leave.2.1 3 = .ok (.aload_n 0, 1) := by decide +kernel
theorem d_LW_leave_4 : decode m_LW_leave.2.1 4 = .ok (.iload_n 1, 1) := by decide +kernel
theorem d_LW_leave_5 : decode m_LW_leave.2.1 5 = .ok (.iload_n 2, 1) := by decide +kernel
theorem d_LW_leave_6 : decode m_LW_leave.2.1 6 = .ok (.iload_n 3, 1) := by decide +kernel
theorem d_LW_leave_7 : decode m_LW_leave.2.1 7 = .ok (.invokevirtual 24, 3) := by decide +kernel
theorem d_LW_leave_10 : decode m_LW_leave.2.1 10 = .ok (.ifCond .eq 7, 3) := by decide +kernel
theorem d_LW_leave_13 : decode m_LW_leave.2.1 13 = .ok (.lconst 1, 1) := by decide +kernel
theorem d_LW_leave_14 : decode m_LW_leave.2.1 14 = .ok (.goto 4, 3) := by decide +kernel
theorem d_LW_leave_17 : decode m_LW_leave.2.1 17 = .ok (.lconst 0, 1) := by decide +kernel
theorem d_LW_leave_18 : decode m_LW_leave.2.1 18 = .ok (.lastore, 1) := by decide +kernel
theorem d_LW_leave_19 : decode m_LW_leave.2.1 19 = .ok (.goto 7, 3) := by decide +kernel
theorem d_LW_leave_22 : decode m_LW_leave.2.1 22 = .ok (.astore 5, 2) := by decide +kernel
theorem d_LW_leave_24 : decode m_LW_leave.2.1 24 = .ok (.iconst 1, 1) := by decide +kernel
theorem d_LW_leave_25 : decode m_LW_leave.2.1 25 = .ok (.ireturn, 1) := by decide +kernel
theorem d_LW_leave_26 : decode m_LW_leave.2.1 26 = .ok (.iconst 0, 1) := by decide +kernel
theorem d_LW_leave_27 : decode m_LW_leave.2.1 27 = .ok (.ireturn, 1) := by decide +kernel
theorem k_LW_leave : fw_cal m_LW_leave := ⟨by decide +kernel, by decide +kernel, (fw_t 0 (by decide +kernel)), Or.inr (fw_t 284 (by decide +kernel))⟩
abbrev m_LW_node : fw_M := (⟨"FolderRightsLaw", "node", "(LFolderRights;IZI[J)I"⟩, method_7_code, 6, (some .int), { frames := 8, cells := 7, slots := 40, locals := 136 }, [(0, 12, 15, 22), (0, 12, 19, 31), (0, 12, 23, 13)])
theorem d_LW_node_0 : decode m_LW_node.2.1 0 = .ok (.aload 4, 2) := by decide +kernel
theorem d_LW_node_2 : decode m_LW_node.2.1 2 = .ok (.iconst 0, 1) := by decide +kernel
theorem d_LW_node_3 : decode m_LW_node.2.1 3 = .ok (.aload_n 0, 1) := by decide +kernel
theorem d_LW_node_4 : decode m_LW_node.2.1 4 = .ok (.iload_n 1, 1) := by decide +kernel
theorem d_LW_node_5 : decode m_LW_node.2.1 5 = .ok (.iload_n 2, 1) := by decide +kernel
theorem d_LW_node_6 : decode m_LW_node.2.1 6 = .ok (.iload_n 3, 1) := by decide +kernel
theorem d_LW_node_7 : decode m_LW_node.2.1 7 = .ok (.invokevirtual 27, 3) := by decide +kernel
theorem d_LW_node_10 : decode m_LW_node.2.1 10 = .ok (.i2l, 1) := by decide +kernel
theorem d_LW_node_11 : decode m_LW_node.2.1 11 = .ok (.lastore, 1) := by decide +kernel
theorem d_LW_node_12 : decode m_LW_node.2.1 12 = .ok (.goto 15, 3) := by decide +kernel
theorem d_LW_node_15 : decode m_LW_node.2.1 15 = .ok (.astore 5, 2) := by decide +kernel
theorem d_LW_node_17 : decode m_LW_node.2.1 17 = .ok (.iconst 1, 1) := by decide +kernel
theorem d_LW_node_18 : decode m_LW_node.2.1 18 = .ok (.ireturn, 1) := by decide +kernel
theorem d_LW_node_19 : decode m_LW_node.2.1 19 = .ok (.astore 5, 2) := by decide +kernel
theorem d_LW_node_21 : decode m_LW_node.2.1 21 = .ok (.iconst 2, 1) := by decide +kernel
theorem d_LW_node_22 : decode m_LW_node.2.1 22 = .ok (.ireturn, 1) := by decide +kernel
theorem d_LW_node_23 : decode m_LW_node.2.1 23 = .ok (.astore 5, 2) := by decide +kernel
theorem d_LW_node_25 : decode m_LW_node.2.1 25 = .ok (.iconst 3, 1) := by decide +kernel
theorem d_LW_node_26 : decode m_LW_node.2.1 26 = .ok (.ireturn, 1) := by decide +kernel
theorem d_LW_node_27 : decode m_LW_node.2.1 27 = .ok (.iconst 0, 1) := by decide +kernel
theorem d_LW_node_28 : decode m_LW_node.2.1 28 = .ok (.ireturn, 1) := by decide +kernel
theorem k_LW_node : fw_cal m_LW_node := ⟨by decide +kernel, by decide +kernel, (fw_t 0 (by decide +kernel)), Or.inr (fw_t 291 (by decide +kernel))⟩
abbrev m_LW_move : fw_M := (⟨"FolderRightsLaw", "move", "(LFolderRights;II[J)I"⟩, method_8_code, 5, (some .int), { frames := 8, cells := 6, slots := 36, locals := 136 }, [(0, 10, 13, 22), (0, 10, 17, 31), (0, 10, 21, 13)])
theorem d_LW_move_0 : decode m_LW_move.2.1 0 = .ok (.aload_n 3, 1) := by decide +kernel
theorem d_LW_move_1 : decode m_LW_move.2.1 1 = .ok (.iconst 0, 1) := by decide +kernel
theorem d_LW_move_2 : decode m_LW_move.2.1 2 = .ok (.aload_n 0, 1) := by decide +kernel
theorem d_LW_move_3 : decode m_LW_move.2.1 3 = .ok (.iload_n 1, 1) := by decide +kernel
theorem d_LW_move_4 : decode m_LW_move.2.1 4 = .ok (.iload_n 2, 1) := by decide +kernel
theorem d_LW_move_5 : decode m_LW_move.2.1 5 = .ok (.invokevirtual 33, 3) := by decide +kernel
theorem d_LW_move_8 : decode m_LW_move.2.1 8 = .ok (.i2l, 1) := by decide +kernel
theorem d_LW_move_9 : decode m_LW_move.2.1 9 = .ok (.lastore, 1) := by decide +kernel
theorem d_LW_move_10 : decode m_LW_move.2.1 10 = .ok (.goto 15, 3) := by decide +kernel
theorem d_LW_move_13 : decode m_LW_move.2.1 13 = .ok (.astore 4, 2) := by decide +kernel
theorem d_LW_move_15 : decode m_LW_move.2.1 15 = .ok (.iconst 1, 1) := by decide +kernel
theorem d_LW_move_16 : decode m_LW_move.2.1 16 = .ok (.ireturn, 1) := by decide +kernel
theorem d_LW_move_17 : decode m_LW_move.2.1 17 = .ok (.astore 4, 2) := by decide +kernel
theorem d_LW_move_19 : decode m_LW_move.2.1 19 = .ok (.iconst 2, 1) := by decide +kernel
theorem d_LW_move_20 : decode m_LW_move.2.1 20 = .ok (.ireturn, 1) := by decide +kernel
theorem d_LW_move_21 : decode m_LW_move.2.1 21 = .ok (.astore 4, 2) := by decide +kernel
theorem d_LW_move_23 : decode m_LW_move.2.1 23 = .ok (.iconst 3, 1) := by decide +kernel
theorem d_LW_move_24 : decode m_LW_move.2.1 24 = .ok (.ireturn, 1) := by decide +kernel
theorem d_LW_move_25 : decode m_LW_move.2.1 25 = .ok (.iconst 0, 1) := by decide +kernel
theorem d_LW_move_26 : decode m_LW_move.2.1 26 = .ok (.ireturn, 1) := by decide +kernel
theorem k_LW_move : fw_cal m_LW_move := ⟨by decide +kernel, by decide +kernel, (fw_t 0 (by decide +kernel)), Or.inr (fw_t 333 (by decide +kernel))⟩
abbrev m_LW_remove : fw_M := (⟨"FolderRightsLaw", "remove", "(LFolderRights;I[J)I"⟩, method_9_code, 4, (some .int), { frames := 8, cells := 3, slots := 18, locals := 133 }, [(0, 9, 12, 22), (0, 9, 15, 31), (0, 9, 18, 13)])
theorem d_LW_remove_0 : decode m_LW_remove.2.1 0 = .ok (.aload_n 2, 1) := by decide +kernel
theorem d_LW_remove_1 : decode m_LW_remove.2.1 1 = .ok (.iconst 0, 1) := by decide +kernel
theorem d_LW_remove_2 : decode m_LW_remove.2.1 2 = .ok (.aload_n 0, 1) := by decide +kernel
theorem d_LW_remove_3 : decode m_LW_remove.2.1 3 = .ok (.iload_n 1, 1) := by decide +kernel
theorem d_LW_remove_4 : decode m_LW_remove.2.1 4 = .ok (.invokevirtual 37, 3) := by decide +kernel
theorem d_LW_remove_7 : decode m_LW_remove.2.1 7 = .ok (.i2l, 1) := by decide +kernel
theorem d_LW_remove_8 : decode m_LW_remove.2.1 8 = .ok (.lastore, 1) := by decide +kernel
theorem d_LW_remove_9 : decode m_LW_remove.2.1 9 = .ok (.goto 12, 3) := by decide +kernel
theorem d_LW_remove_12 : decode m_LW_remove.2.1 12 = .ok (.astore_n 3, 1) := by decide +kernel
theorem d_LW_remove_13 : decode m_LW_remove.2.1 13 = .ok (.iconst 1, 1) := by decide +kernel
theorem d_LW_remove_14 : decode m_LW_remove.2.1 14 = .ok (.ireturn, 1) := by decide +kernel
theorem d_LW_remove_15 : decode m_LW_remove.2.1 15 = .ok (.astore_n 3, 1) := by decide +kernel
theorem d_LW_remove_16 : decode m_LW_remove.2.1 16 = .ok (.iconst 2, 1) := by decide +kernel
theorem d_LW_remove_17 : decode m_LW_remove.2.1 17 = .ok (.ireturn, 1) := by decide +kernel
theorem d_LW_remove_18 : decode m_LW_remove.2.1 18 = .ok (.astore_n 3, 1) := by decide +kernel
theorem d_LW_remove_19 : decode m_LW_remove.2.1 19 = .ok (.iconst 3, 1) := by decide +kernel
theorem d_LW_remove_20 : decode m_LW_remove.2.1 20 = .ok (.ireturn, 1) := by decide +kernel
theorem d_LW_remove_21 : decode m_LW_remove.2.1 21 = .ok (.iconst 0, 1) := by decide +kernel
theorem d_LW_remove_22 : decode m_LW_remove.2.1 22 = .ok (.ireturn, 1) := by decide +kernel
theorem k_LW_remove : fw_cal m_LW_remove := ⟨by decide +kernel, by decide +kernel, (fw_t 0 (by decide +kernel)), Or.inr (fw_t 361 (by decide +kernel))⟩
abbrev m_LW_entry : fw_M := (⟨"FolderRightsLaw", "entry", "(LFolderRights;IIZIZII[J)I"⟩, method_10_code, 10, (some .int), { frames := 9, cells := 10, slots := 72, locals := 209 }, [(0, 20, 23, 22), (0, 20, 27, 31), (0, 20, 31, 13)])
theorem d_LW_entry_0 : decode m_LW_entry.2.1 0 = .ok (.aload 8, 2) := by decide +kernel
theorem d_LW_entry_2 : decode m_LW_entry.2.1 2 = .ok (.iconst 0, 1) := by decide +kernel
theorem d_LW_entry_3 : decode m_LW_entry.2.1 3 = .ok (.aload_n 0, 1) := by decide +kernel
theorem d_LW_entry_4 : decode m_LW_entry.2.1 4 = .ok (.iload_n 1, 1) := by decide +kernel
theorem d_LW_entry_5 : decode m_LW_entry.2.1 5 = .ok (.iload_n 2, 1) := by decide +kernel
theorem d_LW_entry_6 : decode m_LW_entry.2.1 6 = .ok (.iload_n 3, 1) := by decide +kernel
theorem d_LW_entry_7 : decode m_LW_entry.2.1 7 = .ok (.iload 4, 2) := by decide +kernel
theorem d_LW_entry_9 : decode m_LW_entry.2.1 9 = .ok (.iload 5, 2) := by decide +kernel
theorem d_LW_entry_11 : decode m_LW_entry.2.1 11 = .ok (.iload 6, 2) := by decide +kernel
theorem d_LW_entry_13 : decode m_LW_entry.2.1 13 = .ok (.iload 7, 2) := by decide +kernel
theorem d_LW_entry_15 : decode m_LW_entry.2.1 15 = .ok (.invokevirtual 41, 3) := by decide +kernel
theorem d_LW_entry_18 : decode m_LW_entry.2.1 18 = .ok (.i2l, 1) := by decide +kernel
theorem d_LW_entry_19 : decode m_LW_entry.2.1 19 = .ok (.lastore, 1) := by decide +kernel
theorem d_LW_entry_20 : decode m_LW_entry.2.1 20 = .ok (.goto 15, 3) := by decide +kernel
theorem d_LW_entry_23 : decode m_LW_entry.2.1 23 = .ok (.astore 9, 2) := by decide +kernel
theorem d_LW_entry_25 : decode m_LW_entry.2.1 25 = .ok (.iconst 1, 1) := by decide +kernel
theorem d_LW_entry_26 : decode m_LW_entry.2.1 26 = .ok (.ireturn, 1) := by decide +kernel
theorem d_LW_entry_27 : decode m_LW_entry.2.1 27 = .ok (.astore 9, 2) := by decide +kernel
theorem d_LW_entry_29 : decode m_LW_entry.2.1 29 = .ok (.iconst 2, 1) := by decide +kernel
theorem d_LW_entry_30 : decode m_LW_entry.2.1 30 = .ok (.ireturn, 1) := by decide +kernel
theorem d_LW_entry_31 : decode m_LW_entry.2.1 31 = .ok (.astore 9, 2) := by decide +kernel
theorem d_LW_entry_33 : decode m_LW_entry.2.1 33 = .ok (.iconst 3, 1) := by decide +kernel
theorem d_LW_entry_34 : decode m_LW_entry.2.1 34 = .ok (.ireturn, 1) := by decide +kernel
theorem d_LW_entry_35 : decode m_LW_entry.2.1 35 = .ok (.iconst 0, 1) := by decide +kernel
theorem d_LW_entry_36 : decode m_LW_entry.2.1 36 = .ok (.ireturn, 1) := by decide +kernel
theorem k_LW_entry : fw_cal m_LW_entry := ⟨by decide +kernel, by decide +kernel, (fw_t 0 (by decide +kernel)), Or.inr (fw_t 377 (by decide +kernel))⟩
abbrev m_LW_dropEntry : fw_M := (⟨"FolderRightsLaw", "dropEntry", "(LFolderRights;II[J)I"⟩, method_11_code, 5, (some .int), { frames := 8, cells := 2, slots := 12, locals := 139 }, [(0, 10, 13, 22)])
theorem d_LW_dropEntry_0 : decode m_LW_dropEntry.2.1 0 = .ok (.aload_n 3, 1) := by decide +kernel
theorem d_LW_dropEntry_1 : decode m_LW_dropEntry.2.1 1 = .ok (.iconst 0, 1) := by decide +kernel
theorem d_LW_dropEntry_2 : decode m_LW_dropEntry.2.1 2 = .ok (.aload_n 0, 1) := by decide +kernel
theorem d_LW_dropEntry_3 : decode m_LW_dropEntry.2.1 3 = .ok (.iload_n 1, 1) := by decide +kernel
theorem d_LW_dropEntry_4 : decode m_LW_dropEntry.2.1 4 = .ok (.iload_n 2, 1) := by decide +kernel
theorem d_LW_dropEntry_5 : decode m_LW_dropEntry.2.1 5 = .ok (.invokevirtual 45, 3) := by decide +kernel
theorem d_LW_dropEntry_8 : decode m_LW_dropEntry.2.1 8 = .ok (.i2l, 1) := by decide +kernel
theorem d_LW_dropEntry_9 : decode m_LW_dropEntry.2.1 9 = .ok (.lastore, 1) := by decide +kernel
theorem d_LW_dropEntry_10 : decode m_LW_dropEntry.2.1 10 = .ok (.goto 7, 3) := by decide +kernel
theorem d_LW_dropEntry_13 : decode m_LW_dropEntry.2.1 13 = .ok (.astore 4, 2) := by decide +kernel
theorem d_LW_dropEntry_15 : decode m_LW_dropEntry.2.1 15 = .ok (.iconst 1, 1) := by decide +kernel
theorem d_LW_dropEntry_16 : decode m_LW_dropEntry.2.1 16 = .ok (.ireturn, 1) := by decide +kernel
theorem d_LW_dropEntry_17 : decode m_LW_dropEntry.2.1 17 = .ok (.iconst 0, 1) := by decide +kernel
theorem d_LW_dropEntry_18 : decode m_LW_dropEntry.2.1 18 = .ok (.ireturn, 1) := by decide +kernel
theorem k_LW_dropEntry : fw_cal m_LW_dropEntry := ⟨by decide +kernel, by decide +kernel, (fw_t 0 (by decide +kernel)), Or.inr (fw_t 468 (by decide +kernel))⟩
abbrev m_LW_block : fw_M := (⟨"FolderRightsLaw", "block", "(LFolderRights;IZ[J)I"⟩, method_12_code, 5, (some .int), { frames := 8, cells := 1, slots := 6, locals := 135 }, [(0, 17, 20, 22)])
theorem d_LW_block_0 : decode m_LW_block.2.1 0 = .ok (.aload_n 3, 1) := by decide +kernel
theorem d_LW_block_1 : decode m_LW_block.2.1 1 = .ok (.iconst 0, 1) := by decide +kernel
theorem d_LW_block_2 : decode m_LW_block.2.1 2 = .ok (.aload_n 0, 1) := by decide +kernel
theorem d_LW_block_3 : decode m_LW_block.2.1 3 = .ok (.iload_n 1, 1) := by decide +kernel
theorem d_LW_block_4 : decode m_LW_block.2.1 4 = .ok (.iload_n 2, 1) := by decide +kernel
theorem d_LW_block_5 : decode m_LW_block.2.1 5 = .ok (.invokevirtual 48, 3) := by decide +kernel
theorem d_LW_block_8 : decode m_LW_block.2.1 8 = .ok (.ifCond .eq 7, 3) := by decide +kernel
theorem d_LW_block_11 : decode m_LW_block.2.1 11 = .ok (.lconst 1, 1) := by decide +kernel
theorem d_LW_block_12 : decode m_LW_block.2.1 12 = .ok (.goto 4, 3) := by decide +kernel
theorem d_LW_block_15 : decode m_LW_block.2.1 15 = .ok (.lconst 0, 1) := by decide +kernel
theorem d_LW_block_16 : decode m_LW_block.2.1 16 = .ok (.lastore, 1) := by decide +kernel
theorem d_LW_block_17 : decode m_LW_block.2.1 17 = .ok (.goto 7, 3) := by decide +kernel
theorem d_LW_block_20 : decode m_LW_block.2.1 20 = .ok (.astore 4, 2) := by decide +kernel
theorem d_LW_block_22 : decode m_LW_block.2.1 22 = .ok (.iconst 1, 1) := by decide +kernel
theorem d_LW_block_23 : decode m_LW_block.2.1 23 = .ok (.ireturn, 1) := by decide +kernel
theorem d_LW_block_24 : decode m_LW_block.2.1 24 = .ok (.iconst 0, 1) := by decide +kernel
theorem d_LW_block_25 : decode m_LW_block.2.1 25 = .ok (.ireturn, 1) := by decide +kernel
theorem k_LW_block : fw_cal m_LW_block := ⟨by decide +kernel, by decide +kernel, (fw_t 0 (by decide +kernel)), Or.inr (fw_t 490 (by decide +kernel))⟩
abbrev m_LW_owner : fw_M := (⟨"FolderRightsLaw", "owner", "(LFolderRights;II[J)I"⟩, method_13_code, 5, (some .int), { frames := 8, cells := 2, slots := 12, locals := 135 }, [(0, 10, 13, 22)])
theorem d_LW_owner_0 : decode m_LW_owner.2.1 0 = .ok (.aload_n 3, 1) := by decide +kernel
theorem d_LW_owner_1 : decode m_LW_owner.2.1 1 = .ok (.iconst 0, 1) := by decide +kernel
theorem d_LW_owner_2 : decode m_LW_owner.2.1 2 = .ok (.aload_n 0, 1) := by decide +kernel
theorem d_LW_owner_3 : decode m_LW_owner.2.1 3 = .ok (.iload_n 1, 1) := by decide +kernel
theorem d_LW_owner_4 : decode m_LW_owner.2.1 4 = .ok (.iload_n 2, 1) := by decide +kernel
theorem d_LW_owner_5 : decode m_LW_owner.2.1 5 = .ok (.invokevirtual 52, 3) := by decide +kernel
theorem d_LW_owner_8 : decode m_LW_owner.2.1 8 = .ok (.i2l, 1) := by decide +kernel
theorem d_LW_owner_9 : decode m_LW_owner.2.1 9 = .ok (.lastore, 1) := by decide +kernel
theorem d_LW_owner_10 : decode m_LW_owner.2.1 10 = .ok (.goto 7, 3) := by decide +kernel
theorem d_LW_owner_13 : decode m_LW_owner.2.1 13 = .ok (.astore 4, 2) := by decide +kernel
theorem d_LW_owner_15 : decode m_LW_owner.2.1 15 = .ok (.iconst 1, 1) := by decide +kernel
theorem d_LW_owner_16 : decode m_LW_owner.2.1 16 = .ok (.ireturn, 1) := by decide +kernel
theorem d_LW_owner_17 : decode m_LW_owner.2.1 17 = .ok (.iconst 0, 1) := by decide +kernel
theorem d_LW_owner_18 : decode m_LW_owner.2.1 18 = .ok (.ireturn, 1) := by decide +kernel
theorem k_LW_owner : fw_cal m_LW_owner := ⟨by decide +kernel, by decide +kernel, (fw_t 0 (by decide +kernel)), Or.inr (fw_t 497 (by decide +kernel))⟩
abbrev m_LW_rights : fw_M := (⟨"FolderRightsLaw", "rights", "(LFolderRights;II[J)I"⟩, method_14_code, 5, (some .int), { frames := 8, cells := 2, slots := 12, locals := 148 }, [(0, 10, 13, 22)])
theorem d_LW_rights_0 : decode m_LW_rights.2.1 0 = .ok (.aload_n 3, 1) := by decide +kernel
theorem d_LW_rights_1 : decode m_LW_rights.2.1 1 = .ok (.iconst 0, 1) := by decide +kernel
theorem d_LW_rights_2 : decode m_LW_rights.2.1 2 = .ok (.aload_n 0, 1) := by decide +kernel
theorem d_LW_rights_3 : decode m_LW_rights.2.1 3 = .ok (.iload_n 1, 1) := by decide +kernel
theorem d_LW_rights_4 : decode m_LW_rights.2.1 4 = .ok (.iload_n 2, 1) := by decide +kernel
theorem d_LW_rights_5 : decode m_LW_rights.2.1 5 = .ok (.invokevirtual 55, 3) := by decide +kernel
theorem d_LW_rights_8 : decode m_LW_rights.2.1 8 = .ok (.i2l, 1) := by decide +kernel
theorem d_LW_rights_9 : decode m_LW_rights.2.1 9 = .ok (.lastore, 1) := by decide +kernel
theorem d_LW_rights_10 : decode m_LW_rights.2.1 10 = .ok (.goto 7, 3) := by decide +kernel
theorem d_LW_rights_13 : decode m_LW_rights.2.1 13 = .ok (.astore 4, 2) := by decide +kernel
theorem d_LW_rights_15 : decode m_LW_rights.2.1 15 = .ok (.iconst 1, 1) := by decide +kernel
theorem d_LW_rights_16 : decode m_LW_rights.2.1 16 = .ok (.ireturn, 1) := by decide +kernel
theorem d_LW_rights_17 : decode m_LW_rights.2.1 17 = .ok (.iconst 0, 1) := by decide +kernel
theorem d_LW_rights_18 : decode m_LW_rights.2.1 18 = .ok (.ireturn, 1) := by decide +kernel
theorem k_LW_rights : fw_cal m_LW_rights := ⟨by decide +kernel, by decide +kernel, (fw_t 0 (by decide +kernel)), Or.inr (fw_t 504 (by decide +kernel))⟩
abbrev m_LW_explain : fw_M := (⟨"FolderRightsLaw", "explain", "(LFolderRights;IIII[J)I"⟩, method_15_code, 7, (some .int), { frames := 8, cells := 4, slots := 24, locals := 139 }, [(0, 14, 17, 22), (0, 14, 21, 31)])
theorem d_LW_explain_0 : decode m_LW_explain.2.1 0 = .ok (.aload 5, 2) := by decide +kernel
theorem d_LW_explain_2 : decode m_LW_explain.2.1 2 = .ok (.iconst 0, 1) := by decide +kernel
theorem d_LW_explain_3 : decode m_LW_explain.2.1 3 = .ok (.aload_n 0, 1) := by decide +kernel
theorem d_LW_explain_4 : decode m_LW_explain.2.1 4 = .ok (.iload_n 1, 1) := by decide +kernel
theorem d_LW_explain_5 : decode m_LW_explain.2.1 5 = .ok (.iload_n 2, 1) := by decide +kernel
theorem d_LW_explain_6 : decode m_LW_explain.2.1 6 = .ok (.iload_n 3, 1) := by decide +kernel
theorem d_LW_explain_7 : decode m_LW_explain.2.1 7 = .ok (.iload 4, 2) := by decide +kernel
theorem d_LW_explain_9 : decode m_LW_explain.2.1 9 = .ok (.invokevirtual 58, 3) := by decide +kernel
theorem d_LW_explain_12 : decode m_LW_explain.2.1 12 = .ok (.i2l, 1) := by decide +kernel
theorem d_LW_explain_13 : decode m_LW_explain.2.1 13 = .ok (.lastore, 1) := by decide +kernel
theorem d_LW_explain_14 : decode m_LW_explain.2.1 14 = .ok (.goto 11, 3) := by decide +kernel
theorem d_LW_explain_17 : decode m_LW_explain.2.1 17 = .ok (.astore 6, 2) := by decide +kernel
theorem d_LW_explain_19 : decode m_LW_explain.2.1 19 = .ok (.iconst 1, 1) := by decide +kernel
theorem d_LW_explain_20 : decode m_LW_explain.2.1 20 = .ok (.ireturn, 1) := by decide +kernel
theorem d_LW_explain_21 : decode m_LW_explain.2.1 21 = .ok (.astore 6, 2) := by decide +kernel
theorem d_LW_explain_23 : decode m_LW_explain.2.1 23 = .ok (.iconst 2, 1) := by decide +kernel
theorem d_LW_explain_24 : decode m_LW_explain.2.1 24 = .ok (.ireturn, 1) := by decide +kernel
theorem d_LW_explain_25 : decode m_LW_explain.2.1 25 = .ok (.iconst 0, 1) := by decide +kernel
theorem d_LW_explain_26 : decode m_LW_explain.2.1 26 = .ok (.ireturn, 1) := by decide +kernel
theorem k_LW_explain : fw_cal m_LW_explain := ⟨by decide +kernel, by decide +kernel, (fw_t 0 (by decide +kernel)), Or.inr (fw_t 546 (by decide +kernel))⟩
abbrev m_LW_who : fw_M := (⟨"FolderRightsLaw", "who", "(LFolderRights;III[J)I"⟩, method_16_code, 6, (some .int), { frames := 8, cells := 3, slots := 18, locals := 151 }, [(0, 12, 15, 22), (0, 12, 19, 31)])
theorem d_LW_who_0 : decode m_LW_who.2.1 0 = .ok (.aload 4, 2) := by decide +kernel
theorem d_LW_who_2 : decode m_LW_who.2.1 2 = .ok (.iconst 0, 1) := by decide +kernel
theorem d_LW_who_3 : decode m_LW_who.2.1 3 = .ok (.aload_n 0, 1) := by decide +kernel
theorem d_LW_who_4 : decode m_LW_who.2.1 4 = .ok (.iload_n 1, 1) := by decide +kernel
theorem d_LW_who_5 : decode m_LW_who.2.1 5 = .ok (.iload_n 2, 1) := by decide +kernel
theorem d_LW_who_6 : decode m_LW_who.2.1 6 = .ok (.iload_n 3, 1) := by decide +kernel
theorem d_LW_who_7 : decode m_LW_who.2.1 7 = .ok (.invokevirtual 62, 3) := by decide +kernel
theorem d_LW_who_10 : decode m_LW_who.2.1 10 = .ok (.i2l, 1) := by decide +kernel
theorem d_LW_who_11 : decode m_LW_who.2.1 11 = .ok (.lastore, 1) := by decide +kernel
theorem d_LW_who_12 : decode m_LW_who.2.1 12 = .ok (.goto 11, 3) := by decide +kernel
theorem d_LW_who_15 : decode m_LW_who.2.1 15 = .ok (.astore 5, 2) := by decide +kernel
theorem d_LW_who_17 : decode m_LW_who.2.1 17 = .ok (.iconst 1, 1) := by decide +kernel
theorem d_LW_who_18 : decode m_LW_who.2.1 18 = .ok (.ireturn, 1) := by decide +kernel
theorem d_LW_who_19 : decode m_LW_who.2.1 19 = .ok (.astore 5, 2) := by decide +kernel
theorem d_LW_who_21 : decode m_LW_who.2.1 21 = .ok (.iconst 2, 1) := by decide +kernel
theorem d_LW_who_22 : decode m_LW_who.2.1 22 = .ok (.ireturn, 1) := by decide +kernel
theorem d_LW_who_23 : decode m_LW_who.2.1 23 = .ok (.iconst 0, 1) := by decide +kernel
theorem d_LW_who_24 : decode m_LW_who.2.1 24 = .ok (.ireturn, 1) := by decide +kernel
theorem k_LW_who : fw_cal m_LW_who := ⟨by decide +kernel, by decide +kernel, (fw_t 0 (by decide +kernel)), Or.inr (fw_t 565 (by decide +kernel))⟩
abbrev m_LW_where : fw_M := (⟨"FolderRightsLaw", "where", "(LFolderRights;III[J)I"⟩, method_17_code, 6, (some .int), { frames := 8, cells := 3, slots := 18, locals := 151 }, [(0, 12, 15, 22), (0, 12, 19, 31)])
theorem d_LW_where_0 : decode m_LW_where.2.1 0 = .ok (.aload 4, 2) := by decide +kernel
theorem d_LW_where_2 : decode m_LW_where.2.1 2 = .ok (.iconst 0, 1) := by decide +kernel
theorem d_LW_where_3 : decode m_LW_where.2.1 3 = .ok (.aload_n 0, 1) := by decide +kernel
theorem d_LW_where_4 : decode m_LW_where.2.1 4 = .ok (.iload_n 1, 1) := by decide +kernel
theorem d_LW_where_5 : decode m_LW_where.2.1 5 = .ok (.iload_n 2, 1) := by decide +kernel
theorem d_LW_where_6 : decode m_LW_where.2.1 6 = .ok (.iload_n 3, 1) := by decide +kernel
theorem d_LW_where_7 : decode m_LW_where.2.1 7 = .ok (.invokevirtual 66, 3) := by decide +kernel
theorem d_LW_where_10 : decode m_LW_where.2.1 10 = .ok (.i2l, 1) := by decide +kernel
theorem d_LW_where_11 : decode m_LW_where.2.1 11 = .ok (.lastore, 1) := by decide +kernel
theorem d_LW_where_12 : decode m_LW_where.2.1 12 = .ok (.goto 11, 3) := by decide +kernel
theorem d_LW_where_15 : decode m_LW_where.2.1 15 = .ok (.astore 5, 2) := by decide +kernel
theorem d_LW_where_17 : decode m_LW_where.2.1 17 = .ok (.iconst 1, 1) := by decide +kernel
theorem d_LW_where_18 : decode m_LW_where.2.1 18 = .ok (.ireturn, 1) := by decide +kernel
theorem d_LW_where_19 : decode m_LW_where.2.1 19 = .ok (.astore 5, 2) := by decide +kernel
theorem d_LW_where_21 : decode m_LW_where.2.1 21 = .ok (.iconst 2, 1) := by decide +kernel
theorem d_LW_where_22 : decode m_LW_where.2.1 22 = .ok (.ireturn, 1) := by decide +kernel
theorem d_LW_where_23 : decode m_LW_where.2.1 23 = .ok (.iconst 0, 1) := by decide +kernel
theorem d_LW_where_24 : decode m_LW_where.2.1 24 = .ok (.ireturn, 1) := by decide +kernel
theorem k_LW_where : fw_cal m_LW_where := ⟨by decide +kernel, by decide +kernel, (fw_t 0 (by decide +kernel)), Or.inr (fw_t 576 (by decide +kernel))⟩
abbrev m_LW_same : fw_M := (⟨"FolderRightsLaw", "same", "(LFolderRights;II[J)I"⟩, method_18_code, 5, (some .int), { frames := 8, cells := 2, slots := 12, locals := 148 }, [(0, 17, 20, 22)])
theorem d_LW_same_0 : decode m_LW_same.2.1 0 = .ok (.aload_n 3, 1) := by decide +kernel
theorem d_LW_same_1 : decode m_LW_same.2.1 1 = .ok (.iconst 0, 1) := by decide +kernel
theorem d_LW_same_2 : decode m_LW_same.2.1 2 = .ok (.aload_n 0, 1) := by decide +kernel
theorem d_LW_same_3 : decode m_LW_same.2.1 3 = .ok (.iload_n 1, 1) := by decide +kernel
theorem d_LW_same_4 : decode m_LW_same.2.1 4 = .ok (.iload_n 2, 1) := by decide +kernel
theorem d_LW_same_5 : decode m_LW_same.2.1 5 = .ok (.invokevirtual 69, 3) := by decide +kernel
theorem d_LW_same_8 : decode m_LW_same.2.1 8 = .ok (.ifCond .eq 7, 3) := by decide +kernel
theorem d_LW_same_11 : decode m_LW_same.2.1 11 = .ok (.lconst 1, 1) := by decide +kernel
theorem d_LW_same_12 : decode m_LW_same.2.1 12 = .ok (.goto 4, 3) := by decide +kernel
theorem d_LW_same_15 : decode m_LW_same.2.1 15 = .ok (.lconst 0, 1) := by decide +kernel
theorem d_LW_same_16 : decode m_LW_same.2.1 16 = .ok (.lastore, 1) := by decide +kernel
theorem d_LW_same_17 : decode m_LW_same.2.1 17 = .ok (.goto 7, 3) := by decide +kernel
theorem d_LW_same_20 : decode m_LW_same.2.1 20 = .ok (.astore 4, 2) := by decide +kernel
theorem d_LW_same_22 : decode m_LW_same.2.1 22 = .ok (.iconst 1, 1) := by decide +kernel
theorem d_LW_same_23 : decode m_LW_same.2.1 23 = .ok (.ireturn, 1) := by decide +kernel
theorem d_LW_same_24 : decode m_LW_same.2.1 24 = .ok (.iconst 0, 1) := by decide +kernel
theorem d_LW_same_25 : decode m_LW_same.2.1 25 = .ok (.ireturn, 1) := by decide +kernel
theorem k_LW_same : fw_cal m_LW_same := ⟨by decide +kernel, by decide +kernel, (fw_t 0 (by decide +kernel)), Or.inr (fw_t 583 (by decide +kernel))⟩
abbrev m_LW_in : fw_M := (⟨"FolderRightsLaw", "in", "(LFolderRights;II[J)I"⟩, method_19_code, 5, (some .int), { frames := 8, cells := 2, slots := 12, locals := 133 }, [(0, 17, 20, 22)])
theorem d_LW_in_0 : decode m_LW_in.2.1 0 = .ok (.aload_n 3, 1) := by decide +kernel
theorem d_LW_in_1 : decode m_LW_in.2.1 1 = .ok (.iconst 0, 1) := by decide +kernel
theorem d_LW_in_2 : decode m_LW_in.2.1 2 = .ok (.aload_n 0, 1) := by decide +kernel
theorem d_LW_in_3 : decode m_LW_in.2.1 3 = .ok (.iload_n 1, 1) := by decide +kernel
theorem d_LW_in_4 : decode m_LW_in.2.1 4 = .ok (.iload_n 2, 1) := by decide +kernel
theorem d_LW_in_5 : decode m_LW_in.2.1 5 = .ok (.invokevirtual 73, 3) := by decide +kernel
theorem d_LW_in_8 : decode m_LW_in.2.1 8 = .ok (.ifCond .eq 7, 3) := by decide +kernel
theorem d_LW_in_11 : decode m_LW_in.2.1 11 = .ok (.lconst 1, 1) := by decide +kernel
theorem d_LW_in_12 : decode m_LW_in.2.1 12 = .ok (.goto 4, 3) := by decide +kernel
theorem d_LW_in_15 : decode m_LW_in.2.1 15 = .ok (.lconst 0, 1) := by decide +kernel
theorem d_LW_in_16 : decode m_LW_in.2.1 16 = .ok (.lastore, 1) := by decide +kernel
theorem d_LW_in_17 : decode m_LW_in.2.1 17 = .ok (.goto 7, 3) := by decide +kernel
theorem d_LW_in_20 : decode m_LW_in.2.1 20 = .ok (.astore 4, 2) := by decide +kernel
theorem d_LW_in_22 : decode m_LW_in.2.1 22 = .ok (.iconst 1, 1) := by decide +kernel
theorem d_LW_in_23 : decode m_LW_in.2.1 23 = .ok (.ireturn, 1) := by decide +kernel
theorem d_LW_in_24 : decode m_LW_in.2.1 24 = .ok (.iconst 0, 1) := by decide +kernel
theorem d_LW_in_25 : decode m_LW_in.2.1 25 = .ok (.ireturn, 1) := by decide +kernel
theorem k_LW_in : fw_cal m_LW_in := ⟨by decide +kernel, by decide +kernel, (fw_t 0 (by decide +kernel)), Or.inr (fw_t 590 (by decide +kernel))⟩
abbrev m_LW_about : fw_M := (⟨"FolderRightsLaw", "about", "(LFolderRights;II[J)I"⟩, method_20_code, 5, (some .int), { frames := 8, cells := 2, slots := 12, locals := 134 }, [(0, 10, 13, 22), (0, 10, 17, 31)])
theorem d_LW_about_0 : decode m_LW_about.2.1 0 = .ok (.aload_n 3, 1) := by decide +kernel
theorem d_LW_about_1 : decode m_LW_about.2.1 1 = .ok (.iconst 0, 1) := by decide +kernel
theorem d_LW_about_2 : decode m_LW_about.2.1 2 = .ok (.aload_n 0, 1) := by decide +kernel
theorem d_LW_about_3 : decode m_LW_about.2.1 3 = .ok (.iload_n 1, 1) := by decide +kernel
theorem d_LW_about_4 : decode m_LW_about.2.1 4 = .ok (.iload_n 2, 1) := by decide +kernel
theorem d_LW_about_5 : decode m_LW_about.2.1 5 = .ok (.invokevirtual 76, 3) := by decide +kernel
theorem d_LW_about_8 : decode m_LW_about.2.1 8 = .ok (.i2l, 1) := by decide +kernel
theorem d_LW_about_9 : decode m_LW_about.2.1 9 = .ok (.lastore, 1) := by decide +kernel
theorem d_LW_about_10 : decode m_LW_about.2.1 10 = .ok (.goto 11, 3) := by decide +kernel
theorem d_LW_about_13 : decode m_LW_about.2.1 13 = .ok (.astore 4, 2) := by decide +kernel
theorem d_LW_about_15 : decode m_LW_about.2.1 15 = .ok (.iconst 1, 1) := by decide +kernel
theorem d_LW_about_16 : decode m_LW_about.2.1 16 = .ok (.ireturn, 1) := by decide +kernel
theorem d_LW_about_17 : decode m_LW_about.2.1 17 = .ok (.astore 4, 2) := by decide +kernel
theorem d_LW_about_19 : decode m_LW_about.2.1 19 = .ok (.iconst 2, 1) := by decide +kernel
theorem d_LW_about_20 : decode m_LW_about.2.1 20 = .ok (.ireturn, 1) := by decide +kernel
theorem d_LW_about_21 : decode m_LW_about.2.1 21 = .ok (.iconst 0, 1) := by decide +kernel
theorem d_LW_about_22 : decode m_LW_about.2.1 22 = .ok (.ireturn, 1) := by decide +kernel
theorem k_LW_about : fw_cal m_LW_about := ⟨by decide +kernel, by decide +kernel, (fw_t 0 (by decide +kernel)), Or.inr (fw_t 597 (by decide +kernel))⟩
abbrev m_LW_count : fw_M := (⟨"FolderRightsLaw", "count", "(LFolderRights;I[J)I"⟩, method_21_code, 4, (some .int), { frames := 7, cells := 1, slots := 6, locals := 111 }, [(0, 9, 12, 31)])
theorem d_LW_count_0 : decode m_LW_count.2.1 0 = .ok (.aload_n 2, 1) := by decide +kernel
theorem d_LW_count_1 : decode m_LW_count.2.1 1 = .ok (.iconst 0, 1) := by decide +kernel
theorem d_LW_count_2 : decode m_LW_count.2.1 2 = .ok (.aload_n 0, 1) := by decide +kernel
theorem d_LW_count_3 : decode m_LW_count.2.1 3 = .ok (.iload_n 1, 1) := by decide +kernel
theorem d_LW_count_4 : decode m_LW_count.2.1 4 = .ok (.invokevirtual 79, 3) := by decide +kernel
theorem d_LW_count_7 : decode m_LW_count.2.1 7 = .ok (.i2l, 1) := by decide +kernel
theorem d_LW_count_8 : decode m_LW_count.2.1 8 = .ok (.lastore, 1) := by decide +kernel
theorem d_LW_count_9 : decode m_LW_count.2.1 9 = .ok (.goto 6, 3) := by decide +kernel
theorem d_LW_count_12 : decode m_LW_count.2.1 12 = .ok (.astore_n 3, 1) := by decide +kernel
theorem d_LW_count_13 : decode m_LW_count.2.1 13 = .ok (.iconst 1, 1) := by decide +kernel
theorem d_LW_count_14 : decode m_LW_count.2.1 14 = .ok (.ireturn, 1) := by decide +kernel
theorem d_LW_count_15 : decode m_LW_count.2.1 15 = .ok (.iconst 0, 1) := by decide +kernel
theorem d_LW_count_16 : decode m_LW_count.2.1 16 = .ok (.ireturn, 1) := by decide +kernel
theorem k_LW_count : fw_cal m_LW_count := ⟨by decide +kernel, by decide +kernel, (fw_t 0 (by decide +kernel)), Or.inr (fw_t 605 (by decide +kernel))⟩
theorem vc_LW_7 : fw_vc "FolderRightsLaw" 7 0 m_FR_user 0 := ⟨k_FR_user, Or.inl (fw_t 141 (by decide +kernel)), (fw_t 142 (by decide +kernel)), ⟨_, _, _, rfl, (fw_t 143 (by decide +kernel))⟩, by unfold fw_np; decide +kernel⟩
theorem vc_LW_15 : fw_vc "FolderRightsLaw" 15 0 m_FR_group 0 := ⟨k_FR_group, Or.inl (fw_t 216 (by decide +kernel)), (fw_t 217 (by decide +kernel)), ⟨_, _, _, rfl, (fw_t 218 (by decide +kernel))⟩, by unfold fw_np; decide +kernel⟩
theorem vc_LW_18 : fw_vc "FolderRightsLaw" 18 0 m_FR_join 3 := ⟨k_FR_join, Or.inl (fw_t 225 (by decide +kernel)), (fw_t 226 (by decide +kernel)), ⟨_, _, _, rfl, (fw_t 227 (by decide +kernel))⟩, by unfold fw_np; decide +kernel⟩
theorem vc_LW_24 : fw_vc "FolderRightsLaw" 24 0 m_FR_leave 3 := ⟨k_FR_leave, Or.inl (fw_t 285 (by decide +kernel)), (fw_t 286 (by decide +kernel)), ⟨_, _, _, rfl, (fw_t 287 (by decide +kernel))⟩, by unfold fw_np; decide +kernel⟩
theorem vc_LW_27 : fw_vc "FolderRightsLaw" 27 0 m_FR_node 3 := ⟨k_FR_node, Or.inl (fw_t 293 (by decide +kernel)), (fw_t 294 (by decide +kernel)), ⟨_, _, _, rfl, (fw_t 295 (by decide +kernel))⟩, by unfold fw_np; decide +kernel⟩
theorem vc_LW_33 : fw_vc "FolderRightsLaw" 33 0 m_FR_move 2 := ⟨k_FR_move, Or.inl (fw_t 334 (by decide +kernel)), (fw_t 335 (by decide +kernel)), ⟨_, _, _, rfl, (fw_t 336 (by decide +kernel))⟩, by unfold fw_np; decide +kernel⟩
theorem vc_LW_37 : fw_vc "FolderRightsLaw" 37 0 m_FR_remove 1 := ⟨k_FR_remove, Or.inl (fw_t 362 (by decide +kernel)), (fw_t 363 (by decide +kernel)), ⟨_, _, _, rfl, (fw_t 364 (by decide +kernel))⟩, by unfold fw_np; decide +kernel⟩
theorem vc_LW_41 : fw_vc "FolderRightsLaw" 41 0 m_FR_entry 7 := ⟨k_FR_entry, Or.inl (fw_t 378 (by decide +kernel)), (fw_t 379 (by decide +kernel)), ⟨_, _, _, rfl, (fw_t 380 (by decide +kernel))⟩, by unfold fw_np; decide +kernel⟩
theorem vc_LW_45 : fw_vc "FolderRightsLaw" 45 0 m_FR_dropEntry 2 := ⟨k_FR_dropEntry, Or.inl (fw_t 469 (by decide +kernel)), (fw_t 470 (by decide +kernel)), ⟨_, _, _, rfl, (fw_t 471 (by decide +kernel))⟩, by unfold fw_np; decide +kernel⟩
theorem vc_LW_48 : fw_vc "FolderRightsLaw" 48 0 m_FR_block 2 := ⟨k_FR_block, Or.inl (fw_t 491 (by decide +kernel)), (fw_t 492 (by decide +kernel)), ⟨_, _, _, rfl, (fw_t 493 (by decide +kernel))⟩, by unfold fw_np; decide +kernel⟩
theorem vc_LW_52 : fw_vc "FolderRightsLaw" 52 0 m_FR_owner 2 := ⟨k_FR_owner, Or.inl (fw_t 498 (by decide +kernel)), (fw_t 499 (by decide +kernel)), ⟨_, _, _, rfl, (fw_t 500 (by decide +kernel))⟩, by unfold fw_np; decide +kernel⟩
theorem vc_LW_55 : fw_vc "FolderRightsLaw" 55 0 m_FR_rights 2 := ⟨k_FR_rights, Or.inl (fw_t 505 (by decide +kernel)), (fw_t 506 (by decide +kernel)), ⟨_, _, _, rfl, (fw_t 507 (by decide +kernel))⟩, by unfold fw_np; decide +kernel⟩
theorem vc_LW_58 : fw_vc "FolderRightsLaw" 58 0 m_FR_explain 4 := ⟨k_FR_explain, Or.inl (fw_t 547 (by decide +kernel)), (fw_t 548 (by decide +kernel)), ⟨_, _, _, rfl, (fw_t 549 (by decide +kernel))⟩, by unfold fw_np; decide +kernel⟩
theorem vc_LW_62 : fw_vc "FolderRightsLaw" 62 0 m_FR_who 3 := ⟨k_FR_who, Or.inl (fw_t 566 (by decide +kernel)), (fw_t 567 (by decide +kernel)), ⟨_, _, _, rfl, (fw_t 568 (by decide +kernel))⟩, by unfold fw_np; decide +kernel⟩
theorem vc_LW_66 : fw_vc "FolderRightsLaw" 66 0 m_FR_where 3 := ⟨k_FR_where, Or.inl (fw_t 577 (by decide +kernel)), (fw_t 578 (by decide +kernel)), ⟨_, _, _, rfl, (fw_t 579 (by decide +kernel))⟩, by unfold fw_np; decide +kernel⟩
theorem vc_LW_69 : fw_vc "FolderRightsLaw" 69 0 m_FR_same 2 := ⟨k_FR_same, Or.inl (fw_t 584 (by decide +kernel)), (fw_t 585 (by decide +kernel)), ⟨_, _, _, rfl, (fw_t 586 (by decide +kernel))⟩, by unfold fw_np; decide +kernel⟩
theorem vc_LW_73 : fw_vc "FolderRightsLaw" 73 0 m_FR_in 2 := ⟨k_FR_in, Or.inl (fw_t 591 (by decide +kernel)), (fw_t 592 (by decide +kernel)), ⟨_, _, _, rfl, (fw_t 593 (by decide +kernel))⟩, by unfold fw_np; decide +kernel⟩
theorem vc_LW_76 : fw_vc "FolderRightsLaw" 76 0 m_FR_about 2 := ⟨k_FR_about, Or.inl (fw_t 598 (by decide +kernel)), (fw_t 599 (by decide +kernel)), ⟨_, _, _, rfl, (fw_t 600 (by decide +kernel))⟩, by unfold fw_np; decide +kernel⟩
theorem vc_LW_79 : fw_vc "FolderRightsLaw" 79 0 m_FR_count 1 := ⟨k_FR_count, Or.inl (fw_t 606 (by decide +kernel)), (fw_t 607 (by decide +kernel)), ⟨_, _, _, rfl, (fw_t 608 (by decide +kernel))⟩, by unfold fw_np; decide +kernel⟩
theorem w_user_ok {g : fw_G} {w : fw_W} {o gr a1 a2 a3 a4 na out : Nat} {S S2 : fs_S} (hX : fs_X g (o, gr, a1, a2, a3, a4, na) S w) {f : Nat → Int64} (hout : w out = some (lx_lo g f)) {v : Int32} (h : fw_R g m_FR_user (fs_P g (o, gr, a1, a2, a3, a4, na) w (.inl (some (.int v))) S2) 1 6 w 0 [(0, .ref o)] []) : fw_R g m_LW_user (lx_Wp g (o, gr, a1, a2, a3, a4, na) w out S2 0 v.toInt64) 1 6 w 0 [(0, .ref o), (1, .ref out)] [] := by
  obtain ⟨fs0, h0⟩ := lx_o hX
  refine fr_aload_n (pc := 0) d_LW_user_0 rfl rfl ?_
  refine fr_iconst (pc := 1) (v := 0) d_LW_user_1 (by decide) ?_
  refine fr_aload_n (pc := 2) d_LW_user_2 rfl rfl ?_
  refine fr_callV (pc := 3) (nc := 0) (ns := 0) (N := m_FR_user) (rest := [.int 0, .ref out]) (as := []) d_LW_user_3 vc_LW_7 ⟨by decide, by decide, Nat.le_of_ble_eq_true rfl⟩ (Nat.le_of_ble_eq_true rfl) h0 h rfl (fun v1 u h9 => ?_) (fun C u h9 => by obtain ⟨h1, -⟩ := h9; cases h1)
  obtain ⟨h1, hX2, hF⟩ := h9
  cases h1
  have ho2 := lx_Fr_lo hX hF hout
  refine fr_i2l (pc := 6) d_LW_user_6 rfl ?_
  refine fr_lastN (pc := 7) (n := 1) (k := 0) d_LW_user_7 ho2 (by omega) (by omega) ?_
  refine fr_goto (pc := 8) (tgt := 14) d_LW_user_8 (by decide) ?_
  refine fr_iconst (pc := 14) (v := 0) d_LW_user_14 (by decide) ?_
  exact fr_iret rfl d_LW_user_15 ⟨rfl, fs_X_nk (lx_up_nk ho2) hX2, fun b e hb hm => lx_up_mk ho2 b e (lx_Fr_mk hX hF b e hb hm) hm, _, fw_up_self, fun _ => upL_self⟩
theorem w_user_ISE {g : fw_G} {w : fw_W} {o gr a1 a2 a3 a4 na out : Nat} {S S2 : fs_S} (hX : fs_X g (o, gr, a1, a2, a3, a4, na) S w) {f : Nat → Int64} (hout : w out = some (lx_lo g f)) {y : Int64}  (h : fw_R g m_FR_user (fs_P g (o, gr, a1, a2, a3, a4, na) w (.inr "java/lang/IllegalStateException") S2) 1 6 w 0 [(0, .ref o)] []) : fw_R g m_LW_user (lx_Wp g (o, gr, a1, a2, a3, a4, na) w out S2 1 y) 1 6 w 0 [(0, .ref o), (1, .ref out)] [] := by
  obtain ⟨fs0, h0⟩ := lx_o hX
  refine fr_aload_n (pc := 0) d_LW_user_0 rfl rfl ?_
  refine fr_iconst (pc := 1) (v := 0) d_LW_user_1 (by decide) ?_
  refine fr_aload_n (pc := 2) d_LW_user_2 rfl rfl ?_
  refine fr_callV (pc := 3) (nc := 0) (ns := 0) (N := m_FR_user) (rest := [.int 0, .ref out]) (as := []) d_LW_user_3 vc_LW_7 ⟨by decide, by decide, Nat.le_of_ble_eq_true rfl⟩ (Nat.le_of_ble_eq_true rfl) h0 h rfl (fun v1 u h9 => by obtain ⟨h1, -⟩ := h9; cases h1) (fun C u h9 => ?_)
  obtain ⟨h1, hX2, hF⟩ := h9
  cases h1
  have ho2 := lx_Fr_lo hX hF hout
  refine fx_catch (pc := 3) (hpc := 11) ⟨[], [], (0, 8, 11, 13), rfl, (fun z hz => by cases hz), by decide, by decide, rfl, by decide, (fw_t 140 (by decide +kernel)), (fw_t 147 (by decide +kernel))⟩ (fun q => ?_)
  refine fr_astore_n (pc := 11) (L2 := [(0, .ref o), (1, .ref out), (2, .ref q)]) d_LW_user_11 rfl (by decide) rfl ?_
  refine fr_iconst (pc := 12) (v := 1) d_LW_user_12 (by decide) ?_
  exact fr_iret rfl d_LW_user_13 ⟨rfl, hX2, fun b e hb hm => lx_Fr_mk hX hF b e hb hm, f, ho2, fun z => absurd z (by decide)⟩
theorem w_group_ok {g : fw_G} {w : fw_W} {o gr a1 a2 a3 a4 na out : Nat} {S S2 : fs_S} (hX : fs_X g (o, gr, a1, a2, a3, a4, na) S w) {f : Nat → Int64} (hout : w out = some (lx_lo g f)) {v : Int32} (h : fw_R g m_FR_group (fs_P g (o, gr, a1, a2, a3, a4, na) w (.inl (some (.int v))) S2) 1 6 w 0 [(0, .ref o)] []) : fw_R g m_LW_group (lx_Wp g (o, gr, a1, a2, a3, a4, na) w out S2 0 v.toInt64) 1 6 w 0 [(0, .ref o), (1, .ref out)] [] := by
  obtain ⟨fs0, h0⟩ := lx_o hX
  refine fr_aload_n (pc := 0) d_LW_group_0 rfl rfl ?_
  refine fr_iconst (pc := 1) (v := 0) d_LW_group_1 (by decide) ?_
  refine fr_aload_n (pc := 2) d_LW_group_2 rfl rfl ?_
  refine fr_callV (pc := 3) (nc := 0) (ns := 0) (N := m_FR_group) (rest := [.int 0, .ref out]) (as := []) d_LW_group_3 vc_LW_15 ⟨by decide, by decide, Nat.le_of_ble_eq_true rfl⟩ (Nat.le_of_ble_eq_true rfl) h0 h rfl (fun v1 u h9 => ?_) (fun C u h9 => by obtain ⟨h1, -⟩ := h9; cases h1)
  obtain ⟨h1, hX2, hF⟩ := h9
  cases h1
  have ho2 := lx_Fr_lo hX hF hout
  refine fr_i2l (pc := 6) d_LW_group_6 rfl ?_
  refine fr_lastN (pc := 7) (n := 1) (k := 0) d_LW_group_7 ho2 (by omega) (by omega) ?_
  refine fr_goto (pc := 8) (tgt := 14) d_LW_group_8 (by decide) ?_
  refine fr_iconst (pc := 14) (v := 0) d_LW_group_14 (by decide) ?_
  exact fr_iret rfl d_LW_group_15 ⟨rfl, fs_X_nk (lx_up_nk ho2) hX2, fun b e hb hm => lx_up_mk ho2 b e (lx_Fr_mk hX hF b e hb hm) hm, _, fw_up_self, fun _ => upL_self⟩
theorem w_group_ISE {g : fw_G} {w : fw_W} {o gr a1 a2 a3 a4 na out : Nat} {S S2 : fs_S} (hX : fs_X g (o, gr, a1, a2, a3, a4, na) S w) {f : Nat → Int64} (hout : w out = some (lx_lo g f)) {y : Int64}  (h : fw_R g m_FR_group (fs_P g (o, gr, a1, a2, a3, a4, na) w (.inr "java/lang/IllegalStateException") S2) 1 6 w 0 [(0, .ref o)] []) : fw_R g m_LW_group (lx_Wp g (o, gr, a1, a2, a3, a4, na) w out S2 1 y) 1 6 w 0 [(0, .ref o), (1, .ref out)] [] := by
  obtain ⟨fs0, h0⟩ := lx_o hX
  refine fr_aload_n (pc := 0) d_LW_group_0 rfl rfl ?_
  refine fr_iconst (pc := 1) (v := 0) d_LW_group_1 (by decide) ?_
  refine fr_aload_n (pc := 2) d_LW_group_2 rfl rfl ?_
  refine fr_callV (pc := 3) (nc := 0) (ns := 0) (N := m_FR_group) (rest := [.int 0, .ref out]) (as := []) d_LW_group_3 vc_LW_15 ⟨by decide, by decide, Nat.le_of_ble_eq_true rfl⟩ (Nat.le_of_ble_eq_true rfl) h0 h rfl (fun v1 u h9 => by obtain ⟨h1, -⟩ := h9; cases h1) (fun C u h9 => ?_)
  obtain ⟨h1, hX2, hF⟩ := h9
  cases h1
  have ho2 := lx_Fr_lo hX hF hout
  refine fx_catch (pc := 3) (hpc := 11) ⟨[], [], (0, 8, 11, 13), rfl, (fun z hz => by cases hz), by decide, by decide, rfl, by decide, (fw_t 140 (by decide +kernel)), (fw_t 147 (by decide +kernel))⟩ (fun q => ?_)
  refine fr_astore_n (pc := 11) (L2 := [(0, .ref o), (1, .ref out), (2, .ref q)]) d_LW_group_11 rfl (by decide) rfl ?_
  refine fr_iconst (pc := 12) (v := 1) d_LW_group_12 (by decide) ?_
  exact fr_iret rfl d_LW_group_13 ⟨rfl, hX2, fun b e hb hm => lx_Fr_mk hX hF b e hb hm, f, ho2, fun z => absurd z (by decide)⟩
theorem w_join_ok {g : fw_G} {w : fw_W} {o gr a1 a2 a3 a4 na out : Nat} {S S2 : fs_S} (hX : fs_X g (o, gr, a1, a2, a3, a4, na) S w) {f : Nat → Int64} (hout : w out = some (lx_lo g f)) {x1 x2 x3 : Int32} {b : Bool} (h : fw_R g m_FR_join (fs_P g (o, gr, a1, a2, a3, a4, na) w (.inl (some (.int (bI b)))) S2) 4 24 w 0 [(0, .ref o), (1, .int x1), (2, .int x2), (3, .int x3)] []) : fw_R g m_LW_join (lx_Wp g (o, gr, a1, a2, a3, a4, na) w out S2 0 (bI b).toInt64) 4 24 w 0 [(0, .ref o), (1, .int x1), (2, .int x2), (3, .int x3), (4, .ref out)] [] := by
  obtain ⟨fs0, h0⟩ := lx_o hX
  refine fr_aload (pc := 0) d_LW_join_0 rfl ?_
  refine fr_iconst (pc := 2) (v := 0) d_LW_join_2 (by decide) ?_
  refine fr_aload_n (pc := 3) d_LW_join_3 rfl rfl ?_
  refine fr_iload_n (pc := 4) d_LW_join_4 rfl rfl ?_
  refine fr_iload_n (pc := 5) d_LW_join_5 rfl rfl ?_
  refine fr_iload_n (pc := 6) d_LW_join_6 rfl rfl ?_
  refine fr_callV (pc := 7) (nc := 0) (ns := 0) (N := m_FR_join) (rest := [.int 0, .ref out]) (as := [.int x1, .int x2, .int x3]) d_LW_join_7 vc_LW_18 ⟨by decide, by decide, Nat.le_of_ble_eq_true rfl⟩ (Nat.le_of_ble_eq_true rfl) h0 h rfl (fun v1 u h9 => ?_) (fun C u h9 => by obtain ⟨h1, -⟩ := h9; cases h1)
  obtain ⟨h1, hX2, hF⟩ := h9
  cases h1
  have ho2 := lx_Fr_lo hX hF hout
  refine fr_nzl (pc := 10) 13 14 17 rfl rfl rfl d_LW_join_10 d_LW_join_13 d_LW_join_14 d_LW_join_17 ?_
  refine fr_lastN (pc := 18) (n := 1) (k := 0) d_LW_join_18 ho2 (by omega) (by omega) ?_
  refine fr_goto (pc := 19) (tgt := 30) d_LW_join_19 (by decide) ?_
  refine fr_iconst (pc := 30) (v := 0) d_LW_join_30 (by decide) ?_
  exact fr_iret rfl d_LW_join_31 ⟨rfl, fs_X_nk (lx_up_nk ho2) hX2, fun b e hb hm => lx_up_mk ho2 b e (lx_Fr_mk hX hF b e hb hm) hm, _, fw_up_self, fun _ => upL_self⟩
theorem w_join_NSE {g : fw_G} {w : fw_W} {o gr a1 a2 a3 a4 na out : Nat} {S S2 : fs_S} (hX : fs_X g (o, gr, a1, a2, a3, a4, na) S w) {f : Nat → Int64} (hout : w out = some (lx_lo g f)) {x1 x2 x3 : Int32} {y : Int64}  (h : fw_R g m_FR_join (fs_P g (o, gr, a1, a2, a3, a4, na) w (.inr "java/util/NoSuchElementException") S2) 4 24 w 0 [(0, .ref o), (1, .int x1), (2, .int x2), (3, .int x3)] []) : fw_R g m_LW_join (lx_Wp g (o, gr, a1, a2, a3, a4, na) w out S2 1 y) 4 24 w 0 [(0, .ref o), (1, .int x1), (2, .int x2), (3, .int x3), (4, .ref out)] [] := by
  obtain ⟨fs0, h0⟩ := lx_o hX
  refine fr_aload (pc := 0) d_LW_join_0 rfl ?_
  refine fr_iconst (pc := 2) (v := 0) d_LW_join_2 (by decide) ?_
  refine fr_aload_n (pc := 3) d_LW_join_3 rfl rfl ?_
  refine fr_iload_n (pc := 4) d_LW_join_4 rfl rfl ?_
  refine fr_iload_n (pc := 5) d_LW_join_5 rfl rfl ?_
  refine fr_iload_n (pc := 6) d_LW_join_6 rfl rfl ?_
  refine fr_callV (pc := 7) (nc := 0) (ns := 0) (N := m_FR_join) (rest := [.int 0, .ref out]) (as := [.int x1, .int x2, .int x3]) d_LW_join_7 vc_LW_18 ⟨by decide, by decide, Nat.le_of_ble_eq_true rfl⟩ (Nat.le_of_ble_eq_true rfl) h0 h rfl (fun v1 u h9 => by obtain ⟨h1, -⟩ := h9; cases h1) (fun C u h9 => ?_)
  obtain ⟨h1, hX2, hF⟩ := h9
  cases h1
  have ho2 := lx_Fr_lo hX hF hout
  refine fx_catch (pc := 7) (hpc := 22) ⟨[], [(0, 19, 26, 13)], (0, 19, 22, 22), rfl, (fun z hz => by cases hz), by decide, by decide, rfl, by decide, (fw_t 224 (by decide +kernel)), (fw_t 235 (by decide +kernel))⟩ (fun q => ?_)
  refine fr_astore (pc := 22) (L2 := [(0, .ref o), (1, .int x1), (2, .int x2), (3, .int x3), (4, .ref out), (5, .ref q)]) d_LW_join_22 (by decide) rfl ?_
  refine fr_iconst (pc := 24) (v := 1) d_LW_join_24 (by decide) ?_
  exact fr_iret rfl d_LW_join_25 ⟨rfl, hX2, fun b e hb hm => lx_Fr_mk hX hF b e hb hm, f, ho2, fun z => absurd z (by decide)⟩
theorem w_join_ISE {g : fw_G} {w : fw_W} {o gr a1 a2 a3 a4 na out : Nat} {S S2 : fs_S} (hX : fs_X g (o, gr, a1, a2, a3, a4, na) S w) {f : Nat → Int64} (hout : w out = some (lx_lo g f)) {x1 x2 x3 : Int32} {y : Int64}  (h : fw_R g m_FR_join (fs_P g (o, gr, a1, a2, a3, a4, na) w (.inr "java/lang/IllegalStateException") S2) 4 24 w 0 [(0, .ref o), (1, .int x1), (2, .int x2), (3, .int x3)] []) : fw_R g m_LW_join (lx_Wp g (o, gr, a1, a2, a3, a4, na) w out S2 2 y) 4 24 w 0 [(0, .ref o), (1, .int x1), (2, .int x2), (3, .int x3), (4, .ref out)] [] := by
  obtain ⟨fs0, h0⟩ := lx_o hX
  refine fr_aload (pc := 0) d_LW_join_0 rfl ?_
  refine fr_iconst (pc := 2) (v := 0) d_LW_join_2 (by decide) ?_
  refine fr_aload_n (pc := 3) d_LW_join_3 rfl rfl ?_
  refine fr_iload_n (pc := 4) d_LW_join_4 rfl rfl ?_
  refine fr_iload_n (pc := 5) d_LW_join_5 rfl rfl ?_
  refine fr_iload_n (pc := 6) d_LW_join_6 rfl rfl ?_
  refine fr_callV (pc := 7) (nc := 0) (ns := 0) (N := m_FR_join) (rest := [.int 0, .ref out]) (as := [.int x1, .int x2, .int x3]) d_LW_join_7 vc_LW_18 ⟨by decide, by decide, Nat.le_of_ble_eq_true rfl⟩ (Nat.le_of_ble_eq_true rfl) h0 h rfl (fun v1 u h9 => by obtain ⟨h1, -⟩ := h9; cases h1) (fun C u h9 => ?_)
  obtain ⟨h1, hX2, hF⟩ := h9
  cases h1
  have ho2 := lx_Fr_lo hX hF hout
  refine fx_catch (pc := 7) (hpc := 26) ⟨[(0, 19, 22, 22)], [], (0, 19, 26, 13), rfl, (List.forall_mem_cons.mpr ⟨⟨by decide, "java/util/NoSuchElementException", (fw_t 224 (by decide +kernel)), by decide⟩, fun z hz => by cases hz⟩), by decide, by decide, rfl, by decide, (fw_t 140 (by decide +kernel)), (fw_t 147 (by decide +kernel))⟩ (fun q => ?_)
  refine fr_astore (pc := 26) (L2 := [(0, .ref o), (1, .int x1), (2, .int x2), (3, .int x3), (4, .ref out), (5, .ref q)]) d_LW_join_26 (by decide) rfl ?_
  refine fr_iconst (pc := 28) (v := 2) d_LW_join_28 (by decide) ?_
  exact fr_iret rfl d_LW_join_29 ⟨rfl, hX2, fun b e hb hm => lx_Fr_mk hX hF b e hb hm, f, ho2, fun z => absurd z (by decide)⟩
theorem w_leave_ok {g : fw_G} {w : fw_W} {o gr a1 a2 a3 a4 na out : Nat} {S S2 : fs_S} (hX : fs_X g (o, gr, a1, a2, a3, a4, na) S w) {f : Nat → Int64} (hout : w out = some (lx_lo g f)) {x1 x2 x3 : Int32} {b : Bool} (h : fw_R g m_FR_leave (fs_P g (o, gr, a1, a2, a3, a4, na) w (.inl (some (.int (bI b)))) S2) 3 18 w 0 [(0, .ref o), (1, .int x1), (2, .int x2), (3, .int x3)] []) : fw_R g m_LW_leave (lx_Wp g (o, gr, a1, a2, a3, a4, na) w out S2 0 (bI b).toInt64) 3 18 w 0 [(0, .ref o), (1, .int x1), (2, .int x2), (3, .int x3), (4, .ref out)] [] := by
  obtain ⟨fs0, h0⟩ := lx_o hX
  refine fr_aload (pc := 0) d_LW_leave_0 rfl ?_
  refine fr_iconst (pc := 2) (v := 0) d_LW_leave_2 (by decide) ?_
  refine fr_aload_n (pc := 3) d_LW_leave_3 rfl rfl ?_
  refine fr_iload_n (pc := 4) d_LW_leave_4 rfl rfl ?_
  refine fr_iload_n (pc := 5) d_LW_leave_5 rfl rfl ?_
  refine fr_iload_n (pc := 6) d_LW_leave_6 rfl rfl ?_
  refine fr_callV (pc := 7) (nc := 0) (ns := 0) (N := m_FR_leave) (rest := [.int 0, .ref out]) (as := [.int x1, .int x2, .int x3]) d_LW_leave_7 vc_LW_24 ⟨by decide, by decide, Nat.le_of_ble_eq_true rfl⟩ (Nat.le_of_ble_eq_true rfl) h0 h rfl (fun v1 u h9 => ?_) (fun C u h9 => by obtain ⟨h1, -⟩ := h9; cases h1)
  obtain ⟨h1, hX2, hF⟩ := h9
  cases h1
  have ho2 := lx_Fr_lo hX hF hout
  refine fr_nzl (pc := 10) 13 14 17 rfl rfl rfl d_LW_leave_10 d_LW_leave_13 d_LW_leave_14 d_LW_leave_17 ?_
  refine fr_lastN (pc := 18) (n := 1) (k := 0) d_LW_leave_18 ho2 (by omega) (by omega) ?_
  refine fr_goto (pc := 19) (tgt := 26) d_LW_leave_19 (by decide) ?_
  refine fr_iconst (pc := 26) (v := 0) d_LW_leave_26 (by decide) ?_
  exact fr_iret rfl d_LW_leave_27 ⟨rfl, fs_X_nk (lx_up_nk ho2) hX2, fun b e hb hm => lx_up_mk ho2 b e (lx_Fr_mk hX hF b e hb hm) hm, _, fw_up_self, fun _ => upL_self⟩
theorem w_leave_NSE {g : fw_G} {w : fw_W} {o gr a1 a2 a3 a4 na out : Nat} {S S2 : fs_S} (hX : fs_X g (o, gr, a1, a2, a3, a4, na) S w) {f : Nat → Int64} (hout : w out = some (lx_lo g f)) {x1 x2 x3 : Int32} {y : Int64}  (h : fw_R g m_FR_leave (fs_P g (o, gr, a1, a2, a3, a4, na) w (.inr "java/util/NoSuchElementException") S2) 3 18 w 0 [(0, .ref o), (1, .int x1), (2, .int x2), (3, .int x3)] []) : fw_R g m_LW_leave (lx_Wp g (o, gr, a1, a2, a3, a4, na) w out S2 1 y) 3 18 w 0 [(0, .ref o), (1, .int x1), (2, .int x2), (3, .int x3), (4, .ref out)] [] := by
  obtain ⟨fs0, h0⟩ := lx_o hX
  refine fr_aload (pc := 0) d_LW_leave_0 rfl ?_
  refine fr_iconst (pc := 2) (v := 0) d_LW_leave_2 (by decide) ?_
  refine fr_aload_n (pc := 3) d_LW_leave_3 rfl rfl ?_
  refine fr_iload_n (pc := 4) d_LW_leave_4 rfl rfl ?_
  refine fr_iload_n (pc := 5) d_LW_leave_5 rfl rfl ?_
  refine fr_iload_n (pc := 6) d_LW_leave_6 rfl rfl ?_
  refine fr_callV (pc := 7) (nc := 0) (ns := 0) (N := m_FR_leave) (rest := [.int 0, .ref out]) (as := [.int x1, .int x2, .int x3]) d_LW_leave_7 vc_LW_24 ⟨by decide, by decide, Nat.le_of_ble_eq_true rfl⟩ (Nat.le_of_ble_eq_true rfl) h0 h rfl (fun v1 u h9 => by obtain ⟨h1, -⟩ := h9; cases h1) (fun C u h9 => ?_)
  obtain ⟨h1, hX2, hF⟩ := h9
  cases h1
  have ho2 := lx_Fr_lo hX hF hout
  refine fx_catch (pc := 7) (hpc := 22) ⟨[], [], (0, 19, 22, 22), rfl, (fun z hz => by cases hz), by decide, by decide, rfl, by decide, (fw_t 224 (by decide +kernel)), (fw_t 235 (by decide +kernel))⟩ (fun q => ?_)
  refine fr_astore (pc := 22) (L2 := [(0, .ref o), (1, .int x1), (2, .int x2), (3, .int x3), (4, .ref out), (5, .ref q)]) d_LW_leave_22 (by decide) rfl ?_
  refine fr_iconst (pc := 24) (v := 1) d_LW_leave_24 (by decide) ?_
  exact fr_iret rfl d_LW_leave_25 ⟨rfl, hX2, fun b e hb hm => lx_Fr_mk hX hF b e hb hm, f, ho2, fun z => absurd z (by decide)⟩
theorem w_node_ok {g : fw_G} {w : fw_W} {o gr a1 a2 a3 a4 na out : Nat} {S S2 : fs_S} (hX : fs_X g (o, gr, a1, a2, a3, a4, na) S w) {f : Nat → Int64} (hout : w out = some (lx_lo g f)) {x1 x2 x3 : Int32} {v : Int32} (h : fw_R g m_FR_node (fs_P g (o, gr, a1, a2, a3, a4, na) w (.inl (some (.int v))) S2) 7 40 w 0 [(0, .ref o), (1, .int x1), (2, .int x2), (3, .int x3)] []) : fw_R g m_LW_node (lx_Wp g (o, gr, a1, a2, a3, a4, na) w out S2 0 v.toInt64) 7 40 w 0 [(0, .ref o), (1, .int x1), (2, .int x2), (3, .int x3), (4, .ref out)] [] := by
  obtain ⟨fs0, h0⟩ := lx_o hX
  refine fr_aload (pc := 0) d_LW_node_0 rfl ?_
  refine fr_iconst (pc := 2) (v := 0) d_LW_node_2 (by decide) ?_
  refine fr_aload_n (pc := 3) d_LW_node_3 rfl rfl ?_
  refine fr_iload_n (pc := 4) d_LW_node_4 rfl rfl ?_
  refine fr_iload_n (pc := 5) d_LW_node_5 rfl rfl ?_
  refine fr_iload_n (pc := 6) d_LW_node_6 rfl rfl ?_
  refine fr_callV (pc := 7) (nc := 0) (ns := 0) (N := m_FR_node) (rest := [.int 0, .ref out]) (as := [.int x1, .int x2, .int x3]) d_LW_node_7 vc_LW_27 ⟨by decide, by decide, Nat.le_of_ble_eq_true rfl⟩ (Nat.le_of_ble_eq_true rfl) h0 h rfl (fun v1 u h9 => ?_) (fun C u h9 => by obtain ⟨h1, -⟩ := h9; cases h1)
  obtain ⟨h1, hX2, hF⟩ := h9
  cases h1
  have ho2 := lx_Fr_lo hX hF hout
  refine fr_i2l (pc := 10) d_LW_node_10 rfl ?_
  refine fr_lastN (pc := 11) (n := 1) (k := 0) d_LW_node_11 ho2 (by omega) (by omega) ?_
  refine fr_goto (pc := 12) (tgt := 27) d_LW_node_12 (by decide) ?_
  refine fr_iconst (pc := 27) (v := 0) d_LW_node_27 (by decide) ?_
  exact fr_iret rfl d_LW_node_28 ⟨rfl, fs_X_nk (lx_up_nk ho2) hX2, fun b e hb hm => lx_up_mk ho2 b e (lx_Fr_mk hX hF b e hb hm) hm, _, fw_up_self, fun _ => upL_self⟩
theorem w_node_NSE {g : fw_G} {w : fw_W} {o gr a1 a2 a3 a4 na out : Nat} {S S2 : fs_S} (hX : fs_X g (o, gr, a1, a2, a3, a4, na) S w) {f : Nat → Int64} (hout : w out = some (lx_lo g f)) {x1 x2 x3 : Int32} {y : Int64}  (h : fw_R g m_FR_node (fs_P g (o, gr, a1, a2, a3, a4, na) w (.inr "java/util/NoSuchElementException") S2) 7 40 w 0 [(0, .ref o), (1, .int x1), (2, .int x2), (3, .int x3)] []) : fw_R g m_LW_node (lx_Wp g (o, gr, a1, a2, a3, a4, na) w out S2 1 y) 7 40 w 0 [(0, .ref o), (1, .int x1), (2, .int x2), (3, .int x3), (4, .ref out)] [] := by
  obtain ⟨fs0, h0⟩ := lx_o hX
  refine fr_aload (pc := 0) d_LW_node_0 rfl ?_
  refine fr_iconst (pc := 2) (v := 0) d_LW_node_2 (by decide) ?_
  refine fr_aload_n (pc := 3) d_LW_node_3 rfl rfl ?_
  refine fr_iload_n (pc := 4) d_LW_node_4 rfl rfl ?_
  refine fr_iload_n (pc := 5) d_LW_node_5 rfl rfl ?_
  refine fr_iload_n (pc := 6) d_LW_node_6 rfl rfl ?_
  refine fr_callV (pc := 7) (nc := 0) (ns := 0) (N := m_FR_node) (rest := [.int 0, .ref out]) (as := [.int x1, .int x2, .int x3]) d_LW_node_7 vc_LW_27 ⟨by decide, by decide, Nat.le_of_ble_eq_true rfl⟩ (Nat.le_of_ble_eq_true rfl) h0 h rfl (fun v1 u h9 => by obtain ⟨h1, -⟩ := h9; cases h1) (fun C u h9 => ?_)
  obtain ⟨h1, hX2, hF⟩ := h9
  cases h1
  have ho2 := lx_Fr_lo hX hF hout
  refine fx_catch (pc := 7) (hpc := 15) ⟨[], [(0, 12, 19, 31), (0, 12, 23, 13)], (0, 12, 15, 22), rfl, (fun z hz => by cases hz), by decide, by decide, rfl, by decide, (fw_t 224 (by decide +kernel)), (fw_t 235 (by decide +kernel))⟩ (fun q => ?_)
  refine fr_astore (pc := 15) (L2 := [(0, .ref o), (1, .int x1), (2, .int x2), (3, .int x3), (4, .ref out), (5, .ref q)]) d_LW_node_15 (by decide) rfl ?_
  refine fr_iconst (pc := 17) (v := 1) d_LW_node_17 (by decide) ?_
  exact fr_iret rfl d_LW_node_18 ⟨rfl, hX2, fun b e hb hm => lx_Fr_mk hX hF b e hb hm, f, ho2, fun z => absurd z (by decide)⟩
theorem w_node_IAE {g : fw_G} {w : fw_W} {o gr a1 a2 a3 a4 na out : Nat} {S S2 : fs_S} (hX : fs_X g (o, gr, a1, a2, a3, a4, na) S w) {f : Nat → Int64} (hout : w out = some (lx_lo g f)) {x1 x2 x3 : Int32} {y : Int64}  (h : fw_R g m_FR_node (fs_P g (o, gr, a1, a2, a3, a4, na) w (.inr "java/lang/IllegalArgumentException") S2) 7 40 w 0 [(0, .ref o), (1, .int x1), (2, .int x2), (3, .int x3)] []) : fw_R g m_LW_node (lx_Wp g (o, gr, a1, a2, a3, a4, na) w out S2 2 y) 7 40 w 0 [(0, .ref o), (1, .int x1), (2, .int x2), (3, .int x3), (4, .ref out)] [] := by
  obtain ⟨fs0, h0⟩ := lx_o hX
  refine fr_aload (pc := 0) d_LW_node_0 rfl ?_
  refine fr_iconst (pc := 2) (v := 0) d_LW_node_2 (by decide) ?_
  refine fr_aload_n (pc := 3) d_LW_node_3 rfl rfl ?_
  refine fr_iload_n (pc := 4) d_LW_node_4 rfl rfl ?_
  refine fr_iload_n (pc := 5) d_LW_node_5 rfl rfl ?_
  refine fr_iload_n (pc := 6) d_LW_node_6 rfl rfl ?_
  refine fr_callV (pc := 7) (nc := 0) (ns := 0) (N := m_FR_node) (rest := [.int 0, .ref out]) (as := [.int x1, .int x2, .int x3]) d_LW_node_7 vc_LW_27 ⟨by decide, by decide, Nat.le_of_ble_eq_true rfl⟩ (Nat.le_of_ble_eq_true rfl) h0 h rfl (fun v1 u h9 => by obtain ⟨h1, -⟩ := h9; cases h1) (fun C u h9 => ?_)
  obtain ⟨h1, hX2, hF⟩ := h9
  cases h1
  have ho2 := lx_Fr_lo hX hF hout
  refine fx_catch (pc := 7) (hpc := 19) ⟨[(0, 12, 15, 22)], [(0, 12, 23, 13)], (0, 12, 19, 31), rfl, (List.forall_mem_cons.mpr ⟨⟨by decide, "java/util/NoSuchElementException", (fw_t 224 (by decide +kernel)), by decide⟩, fun z hz => by cases hz⟩), by decide, by decide, rfl, by decide, (fw_t 292 (by decide +kernel)), (fw_t 307 (by decide +kernel))⟩ (fun q => ?_)
  refine fr_astore (pc := 19) (L2 := [(0, .ref o), (1, .int x1), (2, .int x2), (3, .int x3), (4, .ref out), (5, .ref q)]) d_LW_node_19 (by decide) rfl ?_
  refine fr_iconst (pc := 21) (v := 2) d_LW_node_21 (by decide) ?_
  exact fr_iret rfl d_LW_node_22 ⟨rfl, hX2, fun b e hb hm => lx_Fr_mk hX hF b e hb hm, f, ho2, fun z => absurd z (by decide)⟩
theorem w_node_ISE {g : fw_G} {w : fw_W} {o gr a1 a2 a3 a4 na out : Nat} {S S2 : fs_S} (hX : fs_X g (o, gr, a1, a2, a3, a4, na) S w) {f : Nat → Int64} (hout : w out = some (lx_lo g f)) {x1 x2 x3 : Int32} {y : Int64}  (h : fw_R g m_FR_node (fs_P g (o, gr, a1, a2, a3, a4, na) w (.inr "java/lang/IllegalStateException") S2) 7 40 w 0 [(0, .ref o), (1, .int x1), (2, .int x2), (3, .int x3)] []) : fw_R g m_LW_node (lx_Wp g (o, gr, a1, a2, a3, a4, na) w out S2 3 y) 7 40 w 0 [(0, .ref o), (1, .int x1), (2, .int x2), (3, .int x3), (4, .ref out)] [] := by
  obtain ⟨fs0, h0⟩ := lx_o hX
  refine fr_aload (pc := 0) d_LW_node_0 rfl ?_
  refine fr_iconst (pc := 2) (v := 0) d_LW_node_2 (by decide) ?_
  refine fr_aload_n (pc := 3) d_LW_node_3 rfl rfl ?_
  refine fr_iload_n (pc := 4) d_LW_node_4 rfl rfl ?_
  refine fr_iload_n (pc := 5) d_LW_node_5 rfl rfl ?_
  refine fr_iload_n (pc := 6) d_LW_node_6 rfl rfl ?_
  refine fr_callV (pc := 7) (nc := 0) (ns := 0) (N := m_FR_node) (rest := [.int 0, .ref out]) (as := [.int x1, .int x2, .int x3]) d_LW_node_7 vc_LW_27 ⟨by decide, by decide, Nat.le_of_ble_eq_true rfl⟩ (Nat.le_of_ble_eq_true rfl) h0 h rfl (fun v1 u h9 => by obtain ⟨h1, -⟩ := h9; cases h1) (fun C u h9 => ?_)
  obtain ⟨h1, hX2, hF⟩ := h9
  cases h1
  have ho2 := lx_Fr_lo hX hF hout
  refine fx_catch (pc := 7) (hpc := 23) ⟨[(0, 12, 15, 22), (0, 12, 19, 31)], [], (0, 12, 23, 13), rfl, (List.forall_mem_cons.mpr ⟨⟨by decide, "java/util/NoSuchElementException", (fw_t 224 (by decide +kernel)), by decide⟩, List.forall_mem_cons.mpr ⟨⟨by decide, "java/lang/IllegalArgumentException", (fw_t 292 (by decide +kernel)), by decide⟩, fun z hz => by cases hz⟩⟩), by decide, by decide, rfl, by decide, (fw_t 140 (by decide +kernel)), (fw_t 147 (by decide +kernel))⟩ (fun q => ?_)
  refine fr_astore (pc := 23) (L2 := [(0, .ref o), (1, .int x1), (2, .int x2), (3, .int x3), (4, .ref out), (5, .ref q)]) d_LW_node_23 (by decide) rfl ?_
  refine fr_iconst (pc := 25) (v := 3) d_LW_node_25 (by decide) ?_
  exact fr_iret rfl d_LW_node_26 ⟨rfl, hX2, fun b e hb hm => lx_Fr_mk hX hF b e hb hm, f, ho2, fun z => absurd z (by decide)⟩
theorem w_move_ok {g : fw_G} {w : fw_W} {o gr a1 a2 a3 a4 na out : Nat} {S S2 : fs_S} (hX : fs_X g (o, gr, a1, a2, a3, a4, na) S w) {f : Nat → Int64} (hout : w out = some (lx_lo g f)) {x1 x2 : Int32} {v : Int32} (h : fw_R g m_FR_move (fs_P g (o, gr, a1, a2, a3, a4, na) w (.inl (some (.int v))) S2) 6 36 w 0 [(0, .ref o), (1, .int x1), (2, .int x2)] []) : fw_R g m_LW_move (lx_Wp g (o, gr, a1, a2, a3, a4, na) w out S2 0 v.toInt64) 6 36 w 0 [(0, .ref o), (1, .int x1), (2, .int x2), (3, .ref out)] [] := by
  obtain ⟨fs0, h0⟩ := lx_o hX
  refine fr_aload_n (pc := 0) d_LW_move_0 rfl rfl ?_
  refine fr_iconst (pc := 1) (v := 0) d_LW_move_1 (by decide) ?_
  refine fr_aload_n (pc := 2) d_LW_move_2 rfl rfl ?_
  refine fr_iload_n (pc := 3) d_LW_move_3 rfl rfl ?_
  refine fr_iload_n (pc := 4) d_LW_move_4 rfl rfl ?_
  refine fr_callV (pc := 5) (nc := 0) (ns := 0) (N := m_FR_move) (rest := [.int 0, .ref out]) (as := [.int x1, .int x2]) d_LW_move_5 vc_LW_33 ⟨by decide, by decide, Nat.le_of_ble_eq_true rfl⟩ (Nat.le_of_ble_eq_true rfl) h0 h rfl (fun v1 u h9 => ?_) (fun C u h9 => by obtain ⟨h1, -⟩ := h9; cases h1)
  obtain ⟨h1, hX2, hF⟩ := h9
  cases h1
  have ho2 := lx_Fr_lo hX hF hout
  refine fr_i2l (pc := 8) d_LW_move_8 rfl ?_
  refine fr_lastN (pc := 9) (n := 1) (k := 0) d_LW_move_9 ho2 (by omega) (by omega) ?_
  refine fr_goto (pc := 10) (tgt := 25) d_LW_move_10 (by decide) ?_
  refine fr_iconst (pc := 25) (v := 0) d_LW_move_25 (by decide) ?_
  exact fr_iret rfl d_LW_move_26 ⟨rfl, fs_X_nk (lx_up_nk ho2) hX2, fun b e hb hm => lx_up_mk ho2 b e (lx_Fr_mk hX hF b e hb hm) hm, _, fw_up_self, fun _ => upL_self⟩
theorem w_move_NSE {g : fw_G} {w : fw_W} {o gr a1 a2 a3 a4 na out : Nat} {S S2 : fs_S} (hX : fs_X g (o, gr, a1, a2, a3, a4, na) S w) {f : Nat → Int64} (hout : w out = some (lx_lo g f)) {x1 x2 : Int32} {y : Int64}  (h : fw_R g m_FR_move (fs_P g (o, gr, a1, a2, a3, a4, na) w (.inr "java/util/NoSuchElementException") S2) 6 36 w 0 [(0, .ref o), (1, .int x1), (2, .int x2)] []) : fw_R g m_LW_move (lx_Wp g (o, gr, a1, a2, a3, a4, na) w out S2 1 y) 6 36 w 0 [(0, .ref o), (1, .int x1), (2, .int x2), (3, .ref out)] [] := by
  obtain ⟨fs0, h0⟩ := lx_o hX
  refine fr_aload_n (pc := 0) d_LW_move_0 rfl rfl ?_
  refine fr_iconst (pc := 1) (v := 0) d_LW_move_1 (by decide) ?_
  refine fr_aload_n (pc := 2) d_LW_move_2 rfl rfl ?_
  refine fr_iload_n (pc := 3) d_LW_move_3 rfl rfl ?_
  refine fr_iload_n (pc := 4) d_LW_move_4 rfl rfl ?_
  refine fr_callV (pc := 5) (nc := 0) (ns := 0) (N := m_FR_move) (rest := [.int 0, .ref out]) (as := [.int x1, .int x2]) d_LW_move_5 vc_LW_33 ⟨by decide, by decide, Nat.le_of_ble_eq_true rfl⟩ (Nat.le_of_ble_eq_true rfl) h0 h rfl (fun v1 u h9 => by obtain ⟨h1, -⟩ := h9; cases h1) (fun C u h9 => ?_)
  obtain ⟨h1, hX2, hF⟩ := h9
  cases h1
  have ho2 := lx_Fr_lo hX hF hout
  refine fx_catch (pc := 5) (hpc := 13) ⟨[], [(0, 10, 17, 31), (0, 10, 21, 13)], (0, 10, 13, 22), rfl, (fun z hz => by cases hz), by decide, by decide, rfl, by decide, (fw_t 224 (by decide +kernel)), (fw_t 235 (by decide +kernel))⟩ (fun q => ?_)
  refine fr_astore (pc := 13) (L2 := [(0, .ref o), (1, .int x1), (2, .int x2), (3, .ref out), (4, .ref q)]) d_LW_move_13 (by decide) rfl ?_
  refine fr_iconst (pc := 15) (v := 1) d_LW_move_15 (by decide) ?_
  exact fr_iret rfl d_LW_move_16 ⟨rfl, hX2, fun b e hb hm => lx_Fr_mk hX hF b e hb hm, f, ho2, fun z => absurd z (by decide)⟩
theorem w_move_IAE {g : fw_G} {w : fw_W} {o gr a1 a2 a3 a4 na out : Nat} {S S2 : fs_S} (hX : fs_X g (o, gr, a1, a2, a3, a4, na) S w) {f : Nat → Int64} (hout : w out = some (lx_lo g f)) {x1 x2 : Int32} {y : Int64}  (h : fw_R g m_FR_move (fs_P g (o, gr, a1, a2, a3, a4, na) w (.inr "java/lang/IllegalArgumentException") S2) 6 36 w 0 [(0, .ref o), (1, .int x1), (2, .int x2)] []) : fw_R g m_LW_move (lx_Wp g (o, gr, a1, a2, a3, a4, na) w out S2 2 y) 6 36 w 0 [(0, .ref o), (1, .int x1), (2, .int x2), (3, .ref out)] [] := by
  obtain ⟨fs0, h0⟩ := lx_o hX
  refine fr_aload_n (pc := 0) d_LW_move_0 rfl rfl ?_
  refine fr_iconst (pc := 1) (v := 0) d_LW_move_1 (by decide) ?_
  refine fr_aload_n (pc := 2) d_LW_move_2 rfl rfl ?_
  refine fr_iload_n (pc := 3) d_LW_move_3 rfl rfl ?_
  refine fr_iload_n (pc := 4) d_LW_move_4 rfl rfl ?_
  refine fr_callV (pc := 5) (nc := 0) (ns := 0) (N := m_FR_move) (rest := [.int 0, .ref out]) (as := [.int x1, .int x2]) d_LW_move_5 vc_LW_33 ⟨by decide, by decide, Nat.le_of_ble_eq_true rfl⟩ (Nat.le_of_ble_eq_true rfl) h0 h rfl (fun v1 u h9 => by obtain ⟨h1, -⟩ := h9; cases h1) (fun C u h9 => ?_)
  obtain ⟨h1, hX2, hF⟩ := h9
  cases h1
  have ho2 := lx_Fr_lo hX hF hout
  refine fx_catch (pc := 5) (hpc := 17) ⟨[(0, 10, 13, 22)], [(0, 10, 21, 13)], (0, 10, 17, 31), rfl, (List.forall_mem_cons.mpr ⟨⟨by decide, "java/util/NoSuchElementException", (fw_t 224 (by decide +kernel)), by decide⟩, fun z hz => by cases hz⟩), by decide, by decide, rfl, by decide, (fw_t 292 (by decide +kernel)), (fw_t 307 (by decide +kernel))⟩ (fun q => ?_)
  refine fr_astore (pc := 17) (L2 := [(0, .ref o), (1, .int x1), (2, .int x2), (3, .ref out), (4, .ref q)]) d_LW_move_17 (by decide) rfl ?_
  refine fr_iconst (pc := 19) (v := 2) d_LW_move_19 (by decide) ?_
  exact fr_iret rfl d_LW_move_20 ⟨rfl, hX2, fun b e hb hm => lx_Fr_mk hX hF b e hb hm, f, ho2, fun z => absurd z (by decide)⟩
theorem w_move_ISE {g : fw_G} {w : fw_W} {o gr a1 a2 a3 a4 na out : Nat} {S S2 : fs_S} (hX : fs_X g (o, gr, a1, a2, a3, a4, na) S w) {f : Nat → Int64} (hout : w out = some (lx_lo g f)) {x1 x2 : Int32} {y : Int64}  (h : fw_R g m_FR_move (fs_P g (o, gr, a1, a2, a3, a4, na) w (.inr "java/lang/IllegalStateException") S2) 6 36 w 0 [(0, .ref o), (1, .int x1), (2, .int x2)] []) : fw_R g m_LW_move (lx_Wp g (o, gr, a1, a2, a3, a4, na) w out S2 3 y) 6 36 w 0 [(0, .ref o), (1, .int x1), (2, .int x2), (3, .ref out)] [] := by
  obtain ⟨fs0, h0⟩ := lx_o hX
  refine fr_aload_n (pc := 0) d_LW_move_0 rfl rfl ?_
  refine fr_iconst (pc := 1) (v := 0) d_LW_move_1 (by decide) ?_
  refine fr_aload_n (pc := 2) d_LW_move_2 rfl rfl ?_
  refine fr_iload_n (pc := 3) d_LW_move_3 rfl rfl ?_
  refine fr_iload_n (pc := 4) d_LW_move_4 rfl rfl ?_
  refine fr_callV (pc := 5) (nc := 0) (ns := 0) (N := m_FR_move) (rest := [.int 0, .ref out]) (as := [.int x1, .int x2]) d_LW_move_5 vc_LW_33 ⟨by decide, by decide, Nat.le_of_ble_eq_true rfl⟩ (Nat.le_of_ble_eq_true rfl) h0 h rfl (fun v1 u h9 => by obtain ⟨h1, -⟩ := h9; cases h1) (fun C u h9 => ?_)
  obtain ⟨h1, hX2, hF⟩ := h9
  cases h1
  have ho2 := lx_Fr_lo hX hF hout
  refine fx_catch (pc := 5) (hpc := 21) ⟨[(0, 10, 13, 22), (0, 10, 17, 31)], [], (0, 10, 21, 13), rfl, (List.forall_mem_cons.mpr ⟨⟨by decide, "java/util/NoSuchElementException", (fw_t 224 (by decide +kernel)), by decide⟩, List.forall_mem_cons.mpr ⟨⟨by decide, "java/lang/IllegalArgumentException", (fw_t 292 (by decide +kernel)), by decide⟩, fun z hz => by cases hz⟩⟩), by decide, by decide, rfl, by decide, (fw_t 140 (by decide +kernel)), (fw_t 147 (by decide +kernel))⟩ (fun q => ?_)
  refine fr_astore (pc := 21) (L2 := [(0, .ref o), (1, .int x1), (2, .int x2), (3, .ref out), (4, .ref q)]) d_LW_move_21 (by decide) rfl ?_
  refine fr_iconst (pc := 23) (v := 3) d_LW_move_23 (by decide) ?_
  exact fr_iret rfl d_LW_move_24 ⟨rfl, hX2, fun b e hb hm => lx_Fr_mk hX hF b e hb hm, f, ho2, fun z => absurd z (by decide)⟩
theorem w_remove_ok {g : fw_G} {w : fw_W} {o gr a1 a2 a3 a4 na out : Nat} {S S2 : fs_S} (hX : fs_X g (o, gr, a1, a2, a3, a4, na) S w) {f : Nat → Int64} (hout : w out = some (lx_lo g f)) {x1 : Int32} {v : Int32} (h : fw_R g m_FR_remove (fs_P g (o, gr, a1, a2, a3, a4, na) w (.inl (some (.int v))) S2) 3 18 w 0 [(0, .ref o), (1, .int x1)] []) : fw_R g m_LW_remove (lx_Wp g (o, gr, a1, a2, a3, a4, na) w out S2 0 v.toInt64) 3 18 w 0 [(0, .ref o), (1, .int x1), (2, .ref out)] [] := by
  obtain ⟨fs0, h0⟩ := lx_o hX
  refine fr_aload_n (pc := 0) d_LW_remove_0 rfl rfl ?_
  refine fr_iconst (pc := 1) (v := 0) d_LW_remove_1 (by decide) ?_
  refine fr_aload_n (pc := 2) d_LW_remove_2 rfl rfl ?_
  refine fr_iload_n (pc := 3) d_LW_remove_3 rfl rfl ?_
  refine fr_callV (pc := 4) (nc := 0) (ns := 0) (N := m_FR_remove) (rest := [.int 0, .ref out]) (as := [.int x1]) d_LW_remove_4 vc_LW_37 ⟨by decide, by decide, Nat.le_of_ble_eq_true rfl⟩ (Nat.le_of_ble_eq_true rfl) h0 h rfl (fun v1 u h9 => ?_) (fun C u h9 => by obtain ⟨h1, -⟩ := h9; cases h1)
  obtain ⟨h1, hX2, hF⟩ := h9
  cases h1
  have ho2 := lx_Fr_lo hX hF hout
  refine fr_i2l (pc := 7) d_LW_remove_7 rfl ?_
  refine fr_lastN (pc := 8) (n := 1) (k := 0) d_LW_remove_8 ho2 (by omega) (by omega) ?_
  refine fr_goto (pc := 9) (tgt := 21) d_LW_remove_9 (by decide) ?_
  refine fr_iconst (pc := 21) (v := 0) d_LW_remove_21 (by decide) ?_
  exact fr_iret rfl d_LW_remove_22 ⟨rfl, fs_X_nk (lx_up_nk ho2) hX2, fun b e hb hm => lx_up_mk ho2 b e (lx_Fr_mk hX hF b e hb hm) hm, _, fw_up_self, fun _ => upL_self⟩
theorem w_remove_NSE {g : fw_G} {w : fw_W} {o gr a1 a2 a3 a4 na out : Nat} {S S2 : fs_S} (hX : fs_X g (o, gr, a1, a2, a3, a4, na) S w) {f : Nat → Int64} (hout : w out = some (lx_lo g f)) {x1 : Int32} {y : Int64}  (h : fw_R g m_FR_remove (fs_P g (o, gr, a1, a2, a3, a4, na) w (.inr "java/util/NoSuchElementException") S2) 3 18 w 0 [(0, .ref o), (1, .int x1)] []) : fw_R g m_LW_remove (lx_Wp g (o, gr, a1, a2, a3, a4, na) w out S2 1 y) 3 18 w 0 [(0, .ref o), (1, .int x1), (2, .ref out)] [] := by
  obtain ⟨fs0, h0⟩ := lx_o hX
  refine fr_aload_n (pc := 0) d_LW_remove_0 rfl rfl ?_
  refine fr_iconst (pc := 1) (v := 0) d_LW_remove_1 (by decide) ?_
  refine fr_aload_n (pc := 2) d_LW_remove_2 rfl rfl ?_
  refine fr_iload_n (pc := 3) d_LW_remove_3 rfl rfl ?_
  refine fr_callV (pc := 4) (nc := 0) (ns := 0) (N := m_FR_remove) (rest := [.int 0, .ref out]) (as := [.int x1]) d_LW_remove_4 vc_LW_37 ⟨by decide, by decide, Nat.le_of_ble_eq_true rfl⟩ (Nat.le_of_ble_eq_true rfl) h0 h rfl (fun v1 u h9 => by obtain ⟨h1, -⟩ := h9; cases h1) (fun C u h9 => ?_)
  obtain ⟨h1, hX2, hF⟩ := h9
  cases h1
  have ho2 := lx_Fr_lo hX hF hout
  refine fx_catch (pc := 4) (hpc := 12) ⟨[], [(0, 9, 15, 31), (0, 9, 18, 13)], (0, 9, 12, 22), rfl, (fun z hz => by cases hz), by decide, by decide, rfl, by decide, (fw_t 224 (by decide +kernel)), (fw_t 235 (by decide +kernel))⟩ (fun q => ?_)
  refine fr_astore_n (pc := 12) (L2 := [(0, .ref o), (1, .int x1), (2, .ref out), (3, .ref q)]) d_LW_remove_12 rfl (by decide) rfl ?_
  refine fr_iconst (pc := 13) (v := 1) d_LW_remove_13 (by decide) ?_
  exact fr_iret rfl d_LW_remove_14 ⟨rfl, hX2, fun b e hb hm => lx_Fr_mk hX hF b e hb hm, f, ho2, fun z => absurd z (by decide)⟩
theorem w_remove_IAE {g : fw_G} {w : fw_W} {o gr a1 a2 a3 a4 na out : Nat} {S S2 : fs_S} (hX : fs_X g (o, gr, a1, a2, a3, a4, na) S w) {f : Nat → Int64} (hout : w out = some (lx_lo g f)) {x1 : Int32} {y : Int64}  (h : fw_R g m_FR_remove (fs_P g (o, gr, a1, a2, a3, a4, na) w (.inr "java/lang/IllegalArgumentException") S2) 3 18 w 0 [(0, .ref o), (1, .int x1)] []) : fw_R g m_LW_remove (lx_Wp g (o, gr, a1, a2, a3, a4, na) w out S2 2 y) 3 18 w 0 [(0, .ref o), (1, .int x1), (2, .ref out)] [] := by
  obtain ⟨fs0, h0⟩ := lx_o hX
  refine fr_aload_n (pc := 0) d_LW_remove_0 rfl rfl ?_
  refine fr_iconst (pc := 1) (v := 0) d_LW_remove_1 (by decide) ?_
  refine fr_aload_n (pc := 2) d_LW_remove_2 rfl rfl ?_
  refine fr_iload_n (pc := 3) d_LW_remove_3 rfl rfl ?_
  refine fr_callV (pc := 4) (nc := 0) (ns := 0) (N := m_FR_remove) (rest := [.int 0, .ref out]) (as := [.int x1]) d_LW_remove_4 vc_LW_37 ⟨by decide, by decide, Nat.le_of_ble_eq_true rfl⟩ (Nat.le_of_ble_eq_true rfl) h0 h rfl (fun v1 u h9 => by obtain ⟨h1, -⟩ := h9; cases h1) (fun C u h9 => ?_)
  obtain ⟨h1, hX2, hF⟩ := h9
  cases h1
  have ho2 := lx_Fr_lo hX hF hout
  refine fx_catch (pc := 4) (hpc := 15) ⟨[(0, 9, 12, 22)], [(0, 9, 18, 13)], (0, 9, 15, 31), rfl, (List.forall_mem_cons.mpr ⟨⟨by decide, "java/util/NoSuchElementException", (fw_t 224 (by decide +kernel)), by decide⟩, fun z hz => by cases hz⟩), by decide, by decide, rfl, by decide, (fw_t 292 (by decide +kernel)), (fw_t 307 (by decide +kernel))⟩ (fun q => ?_)
  refine fr_astore_n (pc := 15) (L2 := [(0, .ref o), (1, .int x1), (2, .ref out), (3, .ref q)]) d_LW_remove_15 rfl (by decide) rfl ?_
  refine fr_iconst (pc := 16) (v := 2) d_LW_remove_16 (by decide) ?_
  exact fr_iret rfl d_LW_remove_17 ⟨rfl, hX2, fun b e hb hm => lx_Fr_mk hX hF b e hb hm, f, ho2, fun z => absurd z (by decide)⟩
theorem w_remove_ISE {g : fw_G} {w : fw_W} {o gr a1 a2 a3 a4 na out : Nat} {S S2 : fs_S} (hX : fs_X g (o, gr, a1, a2, a3, a4, na) S w) {f : Nat → Int64} (hout : w out = some (lx_lo g f)) {x1 : Int32} {y : Int64}  (h : fw_R g m_FR_remove (fs_P g (o, gr, a1, a2, a3, a4, na) w (.inr "java/lang/IllegalStateException") S2) 3 18 w 0 [(0, .ref o), (1, .int x1)] []) : fw_R g m_LW_remove (lx_Wp g (o, gr, a1, a2, a3, a4, na) w out S2 3 y) 3 18 w 0 [(0, .ref o), (1, .int x1), (2, .ref out)] [] := by
  obtain ⟨fs0, h0⟩ := lx_o hX
  refine fr_aload_n (pc := 0) d_LW_remove_0 rfl rfl ?_
  refine fr_iconst (pc := 1) (v := 0) d_LW_remove_1 (by decide) ?_
  refine fr_aload_n (pc := 2) d_LW_remove_2 rfl rfl ?_
  refine fr_iload_n (pc := 3) d_LW_remove_3 rfl rfl ?_
  refine fr_callV (pc := 4) (nc := 0) (ns := 0) (N := m_FR_remove) (rest := [.int 0, .ref out]) (as := [.int x1]) d_LW_remove_4 vc_LW_37 ⟨by decide, by decide, Nat.le_of_ble_eq_true rfl⟩ (Nat.le_of_ble_eq_true rfl) h0 h rfl (fun v1 u h9 => by obtain ⟨h1, -⟩ := h9; cases h1) (fun C u h9 => ?_)
  obtain ⟨h1, hX2, hF⟩ := h9
  cases h1
  have ho2 := lx_Fr_lo hX hF hout
  refine fx_catch (pc := 4) (hpc := 18) ⟨[(0, 9, 12, 22), (0, 9, 15, 31)], [], (0, 9, 18, 13), rfl, (List.forall_mem_cons.mpr ⟨⟨by decide, "java/util/NoSuchElementException", (fw_t 224 (by decide +kernel)), by decide⟩, List.forall_mem_cons.mpr ⟨⟨by decide, "java/lang/IllegalArgumentException", (fw_t 292 (by decide +kernel)), by decide⟩, fun z hz => by cases hz⟩⟩), by decide, by decide, rfl, by decide, (fw_t 140 (by decide +kernel)), (fw_t 147 (by decide +kernel))⟩ (fun q => ?_)
  refine fr_astore_n (pc := 18) (L2 := [(0, .ref o), (1, .int x1), (2, .ref out), (3, .ref q)]) d_LW_remove_18 rfl (by decide) rfl ?_
  refine fr_iconst (pc := 19) (v := 3) d_LW_remove_19 (by decide) ?_
  exact fr_iret rfl d_LW_remove_20 ⟨rfl, hX2, fun b e hb hm => lx_Fr_mk hX hF b e hb hm, f, ho2, fun z => absurd z (by decide)⟩
theorem w_entry_ok {g : fw_G} {w : fw_W} {o gr a1 a2 a3 a4 na out : Nat} {S S2 : fs_S} (hX : fs_X g (o, gr, a1, a2, a3, a4, na) S w) {f : Nat → Int64} (hout : w out = some (lx_lo g f)) {x1 x2 x3 x4 x5 x6 x7 : Int32} {v : Int32} (h : fw_R g m_FR_entry (fs_P g (o, gr, a1, a2, a3, a4, na) w (.inl (some (.int v))) S2) 10 72 w 0 [(0, .ref o), (1, .int x1), (2, .int x2), (3, .int x3), (4, .int x4), (5, .int x5), (6, .int x6), (7, .int x7)] []) : fw_R g m_LW_entry (lx_Wp g (o, gr, a1, a2, a3, a4, na) w out S2 0 v.toInt64) 10 72 w 0 [(0, .ref o), (1, .int x1), (2, .int x2), (3, .int x3), (4, .int x4), (5, .int x5), (6, .int x6), (7, .int x7), (8, .ref out)] [] := by
  obtain ⟨fs0, h0⟩ := lx_o hX
  refine fr_aload (pc := 0) d_LW_entry_0 rfl ?_
  refine fr_iconst (pc := 2) (v := 0) d_LW_entry_2 (by decide) ?_
  refine fr_aload_n (pc := 3) d_LW_entry_3 rfl rfl ?_
  refine fr_iload_n (pc := 4) d_LW_entry_4 rfl rfl ?_
  refine fr_iload_n (pc := 5) d_LW_entry_5 rfl rfl ?_
  refine fr_iload_n (pc := 6) d_LW_entry_6 rfl rfl ?_
  refine fr_iload (pc := 7) d_LW_entry_7 rfl ?_
  refine fr_iload (pc := 9) d_LW_entry_9 rfl ?_
  refine fr_iload (pc := 11) d_LW_entry_11 rfl ?_
  refine fr_iload (pc := 13) d_LW_entry_13 rfl ?_
  refine fr_callV (pc := 15) (nc := 0) (ns := 0) (N := m_FR_entry) (rest := [.int 0, .ref out]) (as := [.int x1, .int x2, .int x3, .int x4, .int x5, .int x6, .int x7]) d_LW_entry_15 vc_LW_41 ⟨by decide, by decide, Nat.le_of_ble_eq_true rfl⟩ (Nat.le_of_ble_eq_true rfl) h0 h rfl (fun v1 u h9 => ?_) (fun C u h9 => by obtain ⟨h1, -⟩ := h9; cases h1)
  obtain ⟨h1, hX2, hF⟩ := h9
  cases h1
  have ho2 := lx_Fr_lo hX hF hout
  refine fr_i2l (pc := 18) d_LW_entry_18 rfl ?_
  refine fr_lastN (pc := 19) (n := 1) (k := 0) d_LW_entry_19 ho2 (by omega) (by omega) ?_
  refine fr_goto (pc := 20) (tgt := 35) d_LW_entry_20 (by decide) ?_
  refine fr_iconst (pc := 35) (v := 0) d_LW_entry_35 (by decide) ?_
  exact fr_iret rfl d_LW_entry_36 ⟨rfl, fs_X_nk (lx_up_nk ho2) hX2, fun b e hb hm => lx_up_mk ho2 b e (lx_Fr_mk hX hF b e hb hm) hm, _, fw_up_self, fun _ => upL_self⟩
theorem w_entry_NSE {g : fw_G} {w : fw_W} {o gr a1 a2 a3 a4 na out : Nat} {S S2 : fs_S} (hX : fs_X g (o, gr, a1, a2, a3, a4, na) S w) {f : Nat → Int64} (hout : w out = some (lx_lo g f)) {x1 x2 x3 x4 x5 x6 x7 : Int32} {y : Int64}  (h : fw_R g m_FR_entry (fs_P g (o, gr, a1, a2, a3, a4, na) w (.inr "java/util/NoSuchElementException") S2) 10 72 w 0 [(0, .ref o), (1, .int x1), (2, .int x2), (3, .int x3), (4, .int x4), (5, .int x5), (6, .int x6), (7, .int x7)] []) : fw_R g m_LW_entry (lx_Wp g (o, gr, a1, a2, a3, a4, na) w out S2 1 y) 10 72 w 0 [(0, .ref o), (1, .int x1), (2, .int x2), (3, .int x3), (4, .int x4), (5, .int x5), (6, .int x6), (7, .int x7), (8, .ref out)] [] := by
  obtain ⟨fs0, h0⟩ := lx_o hX
  refine fr_aload (pc := 0) d_LW_entry_0 rfl ?_
  refine fr_iconst (pc := 2) (v := 0) d_LW_entry_2 (by decide) ?_
  refine fr_aload_n (pc := 3) d_LW_entry_3 rfl rfl ?_
  refine fr_iload_n (pc := 4) d_LW_entry_4 rfl rfl ?_
  refine fr_iload_n (pc := 5) d_LW_entry_5 rfl rfl ?_
  refine fr_iload_n (pc := 6) d_LW_entry_6 rfl rfl ?_
  refine fr_iload (pc := 7) d_LW_entry_7 rfl ?_
  refine fr_iload (pc := 9) d_LW_entry_9 rfl ?_
  refine fr_iload (pc := 11) d_LW_entry_11 rfl ?_
  refine fr_iload (pc := 13) d_LW_entry_13 rfl ?_
  refine fr_callV (pc := 15) (nc := 0) (ns := 0) (N := m_FR_entry) (rest := [.int 0, .ref out]) (as := [.int x1, .int x2, .int x3, .int x4, .int x5, .int x6, .int x7]) d_LW_entry_15 vc_LW_41 ⟨by decide, by decide, Nat.le_of_ble_eq_true rfl⟩ (Nat.le_of_ble_eq_true rfl) h0 h rfl (fun v1 u h9 => by obtain ⟨h1, -⟩ := h9; cases h1) (fun C u h9 => ?_)
  obtain ⟨h1, hX2, hF⟩ := h9
  cases h1
  have ho2 := lx_Fr_lo hX hF hout
  refine fx_catch (pc := 15) (hpc := 23) ⟨[], [(0, 20, 27, 31), (0, 20, 31, 13)], (0, 20, 23, 22), rfl, (fun z hz => by cases hz), by decide, by decide, rfl, by decide, (fw_t 224 (by decide +kernel)), (fw_t 235 (by decide +kernel))⟩ (fun q => ?_)
  refine fr_astore (pc := 23) (L2 := [(0, .ref o), (1, .int x1), (2, .int x2), (3, .int x3), (4, .int x4), (5, .int x5), (6, .int x6), (7, .int x7), (8, .ref out), (9, .ref q)]) d_LW_entry_23 (by decide) rfl ?_
  refine fr_iconst (pc := 25) (v := 1) d_LW_entry_25 (by decide) ?_
  exact fr_iret rfl d_LW_entry_26 ⟨rfl, hX2, fun b e hb hm => lx_Fr_mk hX hF b e hb hm, f, ho2, fun z => absurd z (by decide)⟩
theorem w_entry_IAE {g : fw_G} {w : fw_W} {o gr a1 a2 a3 a4 na out : Nat} {S S2 : fs_S} (hX : fs_X g (o, gr, a1, a2, a3, a4, na) S w) {f : Nat → Int64} (hout : w out = some (lx_lo g f)) {x1 x2 x3 x4 x5 x6 x7 : Int32} {y : Int64}  (h : fw_R g m_FR_entry (fs_P g (o, gr, a1, a2, a3, a4, na) w (.inr "java/lang/IllegalArgumentException") S2) 10 72 w 0 [(0, .ref o), (1, .int x1), (2, .int x2), (3, .int x3), (4, .int x4), (5, .int x5), (6, .int x6), (7, .int x7)] []) : fw_R g m_LW_entry (lx_Wp g (o, gr, a1, a2, a3, a4, na) w out S2 2 y) 10 72 w 0 [(0, .ref o), (1, .int x1), (2, .int x2), (3, .int x3), (4, .int x4), (5, .int x5), (6, .int x6), (7, .int x7), (8, .ref out)] [] := by
  obtain ⟨fs0, h0⟩ := lx_o hX
  refine fr_aload (pc := 0) d_LW_entry_0 rfl ?_
  refine fr_iconst (pc := 2) (v := 0) d_LW_entry_2 (by decide) ?_
  refine fr_aload_n (pc := 3) d_LW_entry_3 rfl rfl ?_
  refine fr_iload_n (pc := 4) d_LW_entry_4 rfl rfl ?_
  refine fr_iload_n (pc := 5) d_LW_entry_5 rfl rfl ?_
  refine fr_iload_n (pc := 6) d_LW_entry_6 rfl rfl ?_
  refine fr_iload (pc := 7) d_LW_entry_7 rfl ?_
  refine fr_iload (pc := 9) d_LW_entry_9 rfl ?_
  refine fr_iload (pc := 11) d_LW_entry_11 rfl ?_
  refine fr_iload (pc := 13) d_LW_entry_13 rfl ?_
  refine fr_callV (pc := 15) (nc := 0) (ns := 0) (N := m_FR_entry) (rest := [.int 0, .ref out]) (as := [.int x1, .int x2, .int x3, .int x4, .int x5, .int x6, .int x7]) d_LW_entry_15 vc_LW_41 ⟨by decide, by decide, Nat.le_of_ble_eq_true rfl⟩ (Nat.le_of_ble_eq_true rfl) h0 h rfl (fun v1 u h9 => by obtain ⟨h1, -⟩ := h9; cases h1) (fun C u h9 => ?_)
  obtain ⟨h1, hX2, hF⟩ := h9
  cases h1
  have ho2 := lx_Fr_lo hX hF hout
  refine fx_catch (pc := 15) (hpc := 27) ⟨[(0, 20, 23, 22)], [(0, 20, 31, 13)], (0, 20, 27, 31), rfl, (List.forall_mem_cons.mpr ⟨⟨by decide, "java/util/NoSuchElementException", (fw_t 224 (by decide +kernel)), by decide⟩, fun z hz => by cases hz⟩), by decide, by decide, rfl, by decide, (fw_t 292 (by decide +kernel)), (fw_t 307 (by decide +kernel))⟩ (fun q => ?_)
  refine fr_astore (pc := 27) (L2 := [(0, .ref o), (1, .int x1), (2, .int x2), (3, .int x3), (4, .int x4), (5, .int x5), (6, .int x6), (7, .int x7), (8, .ref out), (9, .ref q)]) d_LW_entry_27 (by decide) rfl ?_
  refine fr_iconst (pc := 29) (v := 2) d_LW_entry_29 (by decide) ?_
  exact fr_iret rfl d_LW_entry_30 ⟨rfl, hX2, fun b e hb hm => lx_Fr_mk hX hF b e hb hm, f, ho2, fun z => absurd z (by decide)⟩
theorem w_entry_ISE {g : fw_G} {w : fw_W} {o gr a1 a2 a3 a4 na out : Nat} {S S2 : fs_S} (hX : fs_X g (o, gr, a1, a2, a3, a4, na) S w) {f : Nat → Int64} (hout : w out = some (lx_lo g f)) {x1 x2 x3 x4 x5 x6 x7 : Int32} {y : Int64}  (h : fw_R g m_FR_entry (fs_P g (o, gr, a1, a2, a3, a4, na) w (.inr "java/lang/IllegalStateException") S2) 10 72 w 0 [(0, .ref o), (1, .int x1), (2, .int x2), (3, .int x3), (4, .int x4), (5, .int x5), (6, .int x6), (7, .int x7)] []) : fw_R g m_LW_entry (lx_Wp g (o, gr, a1, a2, a3, a4, na) w out S2 3 y) 10 72 w 0 [(0, .ref o), (1, .int x1), (2, .int x2), (3, .int x3), (4, .int x4), (5, .int x5), (6, .int x6), (7, .int x7), (8, .ref out)] [] := by
  obtain ⟨fs0, h0⟩ := lx_o hX
  refine fr_aload (pc := 0) d_LW_entry_0 rfl ?_
  refine fr_iconst (pc := 2) (v := 0) d_LW_entry_2 (by decide) ?_
  refine fr_aload_n (pc := 3) d_LW_entry_3 rfl rfl ?_
  refine fr_iload_n (pc := 4) d_LW_entry_4 rfl rfl ?_
  refine fr_iload_n (pc := 5) d_LW_entry_5 rfl rfl ?_
  refine fr_iload_n (pc := 6) d_LW_entry_6 rfl rfl ?_
  refine fr_iload (pc := 7) d_LW_entry_7 rfl ?_
  refine fr_iload (pc := 9) d_LW_entry_9 rfl ?_
  refine fr_iload (pc := 11) d_LW_entry_11 rfl ?_
  refine fr_iload (pc := 13) d_LW_entry_13 rfl ?_
  refine fr_callV (pc := 15) (nc := 0) (ns := 0) (N := m_FR_entry) (rest := [.int 0, .ref out]) (as := [.int x1, .int x2, .int x3, .int x4, .int x5, .int x6, .int x7]) d_LW_entry_15 vc_LW_41 ⟨by decide, by decide, Nat.le_of_ble_eq_true rfl⟩ (Nat.le_of_ble_eq_true rfl) h0 h rfl (fun v1 u h9 => by obtain ⟨h1, -⟩ := h9; cases h1) (fun C u h9 => ?_)
  obtain ⟨h1, hX2, hF⟩ := h9
  cases h1
  have ho2 := lx_Fr_lo hX hF hout
  refine fx_catch (pc := 15) (hpc := 31) ⟨[(0, 20, 23, 22), (0, 20, 27, 31)], [], (0, 20, 31, 13), rfl, (List.forall_mem_cons.mpr ⟨⟨by decide, "java/util/NoSuchElementException", (fw_t 224 (by decide +kernel)), by decide⟩, List.forall_mem_cons.mpr ⟨⟨by decide, "java/lang/IllegalArgumentException", (fw_t 292 (by decide +kernel)), by decide⟩, fun z hz => by cases hz⟩⟩), by decide, by decide, rfl, by decide, (fw_t 140 (by decide +kernel)), (fw_t 147 (by decide +kernel))⟩ (fun q => ?_)
  refine fr_astore (pc := 31) (L2 := [(0, .ref o), (1, .int x1), (2, .int x2), (3, .int x3), (4, .int x4), (5, .int x5), (6, .int x6), (7, .int x7), (8, .ref out), (9, .ref q)]) d_LW_entry_31 (by decide) rfl ?_
  refine fr_iconst (pc := 33) (v := 3) d_LW_entry_33 (by decide) ?_
  exact fr_iret rfl d_LW_entry_34 ⟨rfl, hX2, fun b e hb hm => lx_Fr_mk hX hF b e hb hm, f, ho2, fun z => absurd z (by decide)⟩
theorem w_dropEntry_ok {g : fw_G} {w : fw_W} {o gr a1 a2 a3 a4 na out : Nat} {S S2 : fs_S} (hX : fs_X g (o, gr, a1, a2, a3, a4, na) S w) {f : Nat → Int64} (hout : w out = some (lx_lo g f)) {x1 x2 : Int32} {v : Int32} (h : fw_R g m_FR_dropEntry (fs_P g (o, gr, a1, a2, a3, a4, na) w (.inl (some (.int v))) S2) 2 12 w 0 [(0, .ref o), (1, .int x1), (2, .int x2)] []) : fw_R g m_LW_dropEntry (lx_Wp g (o, gr, a1, a2, a3, a4, na) w out S2 0 v.toInt64) 2 12 w 0 [(0, .ref o), (1, .int x1), (2, .int x2), (3, .ref out)] [] := by
  obtain ⟨fs0, h0⟩ := lx_o hX
  refine fr_aload_n (pc := 0) d_LW_dropEntry_0 rfl rfl ?_
  refine fr_iconst (pc := 1) (v := 0) d_LW_dropEntry_1 (by decide) ?_
  refine fr_aload_n (pc := 2) d_LW_dropEntry_2 rfl rfl ?_
  refine fr_iload_n (pc := 3) d_LW_dropEntry_3 rfl rfl ?_
  refine fr_iload_n (pc := 4) d_LW_dropEntry_4 rfl rfl ?_
  refine fr_callV (pc := 5) (nc := 0) (ns := 0) (N := m_FR_dropEntry) (rest := [.int 0, .ref out]) (as := [.int x1, .int x2]) d_LW_dropEntry_5 vc_LW_45 ⟨by decide, by decide, Nat.le_of_ble_eq_true rfl⟩ (Nat.le_of_ble_eq_true rfl) h0 h rfl (fun v1 u h9 => ?_) (fun C u h9 => by obtain ⟨h1, -⟩ := h9; cases h1)
  obtain ⟨h1, hX2, hF⟩ := h9
  cases h1
  have ho2 := lx_Fr_lo hX hF hout
  refine fr_i2l (pc := 8) d_LW_dropEntry_8 rfl ?_
  refine fr_lastN (pc := 9) (n := 1) (k := 0) d_LW_dropEntry_9 ho2 (by omega) (by omega) ?_
  refine fr_goto (pc := 10) (tgt := 17) d_LW_dropEntry_10 (by decide) ?_
  refine fr_iconst (pc := 17) (v := 0) d_LW_dropEntry_17 (by decide) ?_
  exact fr_iret rfl d_LW_dropEntry_18 ⟨rfl, fs_X_nk (lx_up_nk ho2) hX2, fun b e hb hm => lx_up_mk ho2 b e (lx_Fr_mk hX hF b e hb hm) hm, _, fw_up_self, fun _ => upL_self⟩
theorem w_dropEntry_NSE {g : fw_G} {w : fw_W} {o gr a1 a2 a3 a4 na out : Nat} {S S2 : fs_S} (hX : fs_X g (o, gr, a1, a2, a3, a4, na) S w) {f : Nat → Int64} (hout : w out = some (lx_lo g f)) {x1 x2 : Int32} {y : Int64}  (h : fw_R g m_FR_dropEntry (fs_P g (o, gr, a1, a2, a3, a4, na) w (.inr "java/util/NoSuchElementException") S2) 2 12 w 0 [(0, .ref o), (1, .int x1), (2, .int x2)] []) : fw_R g m_LW_dropEntry (lx_Wp g (o, gr, a1, a2, a3, a4, na) w out S2 1 y) 2 12 w 0 [(0, .ref o), (1, .int x1), (2, .int x2), (3, .ref out)] [] := by
  obtain ⟨fs0, h0⟩ := lx_o hX
  refine fr_aload_n (pc := 0) d_LW_dropEntry_0 rfl rfl ?_
  refine fr_iconst (pc := 1) (v := 0) d_LW_dropEntry_1 (by decide) ?_
  refine fr_aload_n (pc := 2) d_LW_dropEntry_2 rfl rfl ?_
  refine fr_iload_n (pc := 3) d_LW_dropEntry_3 rfl rfl ?_
  refine fr_iload_n (pc := 4) d_LW_dropEntry_4 rfl rfl ?_
  refine fr_callV (pc := 5) (nc := 0) (ns := 0) (N := m_FR_dropEntry) (rest := [.int 0, .ref out]) (as := [.int x1, .int x2]) d_LW_dropEntry_5 vc_LW_45 ⟨by decide, by decide, Nat.le_of_ble_eq_true rfl⟩ (Nat.le_of_ble_eq_true rfl) h0 h rfl (fun v1 u h9 => by obtain ⟨h1, -⟩ := h9; cases h1) (fun C u h9 => ?_)
  obtain ⟨h1, hX2, hF⟩ := h9
  cases h1
  have ho2 := lx_Fr_lo hX hF hout
  refine fx_catch (pc := 5) (hpc := 13) ⟨[], [], (0, 10, 13, 22), rfl, (fun z hz => by cases hz), by decide, by decide, rfl, by decide, (fw_t 224 (by decide +kernel)), (fw_t 235 (by decide +kernel))⟩ (fun q => ?_)
  refine fr_astore (pc := 13) (L2 := [(0, .ref o), (1, .int x1), (2, .int x2), (3, .ref out), (4, .ref q)]) d_LW_dropEntry_13 (by decide) rfl ?_
  refine fr_iconst (pc := 15) (v := 1) d_LW_dropEntry_15 (by decide) ?_
  exact fr_iret rfl d_LW_dropEntry_16 ⟨rfl, hX2, fun b e hb hm => lx_Fr_mk hX hF b e hb hm, f, ho2, fun z => absurd z (by decide)⟩
theorem w_block_ok {g : fw_G} {w : fw_W} {o gr a1 a2 a3 a4 na out : Nat} {S S2 : fs_S} (hX : fs_X g (o, gr, a1, a2, a3, a4, na) S w) {f : Nat → Int64} (hout : w out = some (lx_lo g f)) {x1 x2 : Int32} {b : Bool} (h : fw_R g m_FR_block (fs_P g (o, gr, a1, a2, a3, a4, na) w (.inl (some (.int (bI b)))) S2) 1 6 w 0 [(0, .ref o), (1, .int x1), (2, .int x2)] []) : fw_R g m_LW_block (lx_Wp g (o, gr, a1, a2, a3, a4, na) w out S2 0 (bI b).toInt64) 1 6 w 0 [(0, .ref o), (1, .int x1), (2, .int x2), (3, .ref out)] [] := by
  obtain ⟨fs0, h0⟩ := lx_o hX
  refine fr_aload_n (pc := 0) d_LW_block_0 rfl rfl ?_
  refine fr_iconst (pc := 1) (v := 0) d_LW_block_1 (by decide) ?_
  refine fr_aload_n (pc := 2) d_LW_block_2 rfl rfl ?_
  refine fr_iload_n (pc := 3) d_LW_block_3 rfl rfl ?_
  refine fr_iload_n (pc := 4) d_LW_block_4 rfl rfl ?_
  refine fr_callV (pc := 5) (nc := 0) (ns := 0) (N := m_FR_block) (rest := [.int 0, .ref out]) (as := [.int x1, .int x2]) d_LW_block_5 vc_LW_48 ⟨by decide, by decide, Nat.le_of_ble_eq_true rfl⟩ (Nat.le_of_ble_eq_true rfl) h0 h rfl (fun v1 u h9 => ?_) (fun C u h9 => by obtain ⟨h1, -⟩ := h9; cases h1)
  obtain ⟨h1, hX2, hF⟩ := h9
  cases h1
  have ho2 := lx_Fr_lo hX hF hout
  refine fr_nzl (pc := 8) 11 12 15 rfl rfl rfl d_LW_block_8 d_LW_block_11 d_LW_block_12 d_LW_block_15 ?_
  refine fr_lastN (pc := 16) (n := 1) (k := 0) d_LW_block_16 ho2 (by omega) (by omega) ?_
  refine fr_goto (pc := 17) (tgt := 24) d_LW_block_17 (by decide) ?_
  refine fr_iconst (pc := 24) (v := 0) d_LW_block_24 (by decide) ?_
  exact fr_iret rfl d_LW_block_25 ⟨rfl, fs_X_nk (lx_up_nk ho2) hX2, fun b e hb hm => lx_up_mk ho2 b e (lx_Fr_mk hX hF b e hb hm) hm, _, fw_up_self, fun _ => upL_self⟩
theorem w_block_NSE {g : fw_G} {w : fw_W} {o gr a1 a2 a3 a4 na out : Nat} {S S2 : fs_S} (hX : fs_X g (o, gr, a1, a2, a3, a4, na) S w) {f : Nat → Int64} (hout : w out = some (lx_lo g f)) {x1 x2 : Int32} {y : Int64}  (h : fw_R g m_FR_block (fs_P g (o, gr, a1, a2, a3, a4, na) w (.inr "java/util/NoSuchElementException") S2) 1 6 w 0 [(0, .ref o), (1, .int x1), (2, .int x2)] []) : fw_R g m_LW_block (lx_Wp g (o, gr, a1, a2, a3, a4, na) w out S2 1 y) 1 6 w 0 [(0, .ref o), (1, .int x1), (2, .int x2), (3, .ref out)] [] := by
  obtain ⟨fs0, h0⟩ := lx_o hX
  refine fr_aload_n (pc := 0) d_LW_block_0 rfl rfl ?_
  refine fr_iconst (pc := 1) (v := 0) d_LW_block_1 (by decide) ?_
  refine fr_aload_n (pc := 2) d_LW_block_2 rfl rfl ?_
  refine fr_iload_n (pc := 3) d_LW_block_3 rfl rfl ?_
  refine fr_iload_n (pc := 4) d_LW_block_4 rfl rfl ?_
  refine fr_callV (pc := 5) (nc := 0) (ns := 0) (N := m_FR_block) (rest := [.int 0, .ref out]) (as := [.int x1, .int x2]) d_LW_block_5 vc_LW_48 ⟨by decide, by decide, Nat.le_of_ble_eq_true rfl⟩ (Nat.le_of_ble_eq_true rfl) h0 h rfl (fun v1 u h9 => by obtain ⟨h1, -⟩ := h9; cases h1) (fun C u h9 => ?_)
  obtain ⟨h1, hX2, hF⟩ := h9
  cases h1
  have ho2 := lx_Fr_lo hX hF hout
  refine fx_catch (pc := 5) (hpc := 20) ⟨[], [], (0, 17, 20, 22), rfl, (fun z hz => by cases hz), by decide, by decide, rfl, by decide, (fw_t 224 (by decide +kernel)), (fw_t 235 (by decide +kernel))⟩ (fun q => ?_)
  refine fr_astore (pc := 20) (L2 := [(0, .ref o), (1, .int x1), (2, .int x2), (3, .ref out), (4, .ref q)]) d_LW_block_20 (by decide) rfl ?_
  refine fr_iconst (pc := 22) (v := 1) d_LW_block_22 (by decide) ?_
  exact fr_iret rfl d_LW_block_23 ⟨rfl, hX2, fun b e hb hm => lx_Fr_mk hX hF b e hb hm, f, ho2, fun z => absurd z (by decide)⟩
theorem w_owner_ok {g : fw_G} {w : fw_W} {o gr a1 a2 a3 a4 na out : Nat} {S S2 : fs_S} (hX : fs_X g (o, gr, a1, a2, a3, a4, na) S w) {f : Nat → Int64} (hout : w out = some (lx_lo g f)) {x1 x2 : Int32} {v : Int32} (h : fw_R g m_FR_owner (fs_P g (o, gr, a1, a2, a3, a4, na) w (.inl (some (.int v))) S2) 2 12 w 0 [(0, .ref o), (1, .int x1), (2, .int x2)] []) : fw_R g m_LW_owner (lx_Wp g (o, gr, a1, a2, a3, a4, na) w out S2 0 v.toInt64) 2 12 w 0 [(0, .ref o), (1, .int x1), (2, .int x2), (3, .ref out)] [] := by
  obtain ⟨fs0, h0⟩ := lx_o hX
  refine fr_aload_n (pc := 0) d_LW_owner_0 rfl rfl ?_
  refine fr_iconst (pc := 1) (v := 0) d_LW_owner_1 (by decide) ?_
  refine fr_aload_n (pc := 2) d_LW_owner_2 rfl rfl ?_
  refine fr_iload_n (pc := 3) d_LW_owner_3 rfl rfl ?_
  refine fr_iload_n (pc := 4) d_LW_owner_4 rfl rfl ?_
  refine fr_callV (pc := 5) (nc := 0) (ns := 0) (N := m_FR_owner) (rest := [.int 0, .ref out]) (as := [.int x1, .int x2]) d_LW_owner_5 vc_LW_52 ⟨by decide, by decide, Nat.le_of_ble_eq_true rfl⟩ (Nat.le_of_ble_eq_true rfl) h0 h rfl (fun v1 u h9 => ?_) (fun C u h9 => by obtain ⟨h1, -⟩ := h9; cases h1)
  obtain ⟨h1, hX2, hF⟩ := h9
  cases h1
  have ho2 := lx_Fr_lo hX hF hout
  refine fr_i2l (pc := 8) d_LW_owner_8 rfl ?_
  refine fr_lastN (pc := 9) (n := 1) (k := 0) d_LW_owner_9 ho2 (by omega) (by omega) ?_
  refine fr_goto (pc := 10) (tgt := 17) d_LW_owner_10 (by decide) ?_
  refine fr_iconst (pc := 17) (v := 0) d_LW_owner_17 (by decide) ?_
  exact fr_iret rfl d_LW_owner_18 ⟨rfl, fs_X_nk (lx_up_nk ho2) hX2, fun b e hb hm => lx_up_mk ho2 b e (lx_Fr_mk hX hF b e hb hm) hm, _, fw_up_self, fun _ => upL_self⟩
theorem w_owner_NSE {g : fw_G} {w : fw_W} {o gr a1 a2 a3 a4 na out : Nat} {S S2 : fs_S} (hX : fs_X g (o, gr, a1, a2, a3, a4, na) S w) {f : Nat → Int64} (hout : w out = some (lx_lo g f)) {x1 x2 : Int32} {y : Int64}  (h : fw_R g m_FR_owner (fs_P g (o, gr, a1, a2, a3, a4, na) w (.inr "java/util/NoSuchElementException") S2) 2 12 w 0 [(0, .ref o), (1, .int x1), (2, .int x2)] []) : fw_R g m_LW_owner (lx_Wp g (o, gr, a1, a2, a3, a4, na) w out S2 1 y) 2 12 w 0 [(0, .ref o), (1, .int x1), (2, .int x2), (3, .ref out)] [] := by
  obtain ⟨fs0, h0⟩ := lx_o hX
  refine fr_aload_n (pc := 0) d_LW_owner_0 rfl rfl ?_
  refine fr_iconst (pc := 1) (v := 0) d_LW_owner_1 (by decide) ?_
  refine fr_aload_n (pc := 2) d_LW_owner_2 rfl rfl ?_
  refine fr_iload_n (pc := 3) d_LW_owner_3 rfl rfl ?_
  refine fr_iload_n (pc := 4) d_LW_owner_4 rfl rfl ?_
  refine fr_callV (pc := 5) (nc := 0) (ns := 0) (N := m_FR_owner) (rest := [.int 0, .ref out]) (as := [.int x1, .int x2]) d_LW_owner_5 vc_LW_52 ⟨by decide, by decide, Nat.le_of_ble_eq_true rfl⟩ (Nat.le_of_ble_eq_true rfl) h0 h rfl (fun v1 u h9 => by obtain ⟨h1, -⟩ := h9; cases h1) (fun C u h9 => ?_)
  obtain ⟨h1, hX2, hF⟩ := h9
  cases h1
  have ho2 := lx_Fr_lo hX hF hout
  refine fx_catch (pc := 5) (hpc := 13) ⟨[], [], (0, 10, 13, 22), rfl, (fun z hz => by cases hz), by decide, by decide, rfl, by decide, (fw_t 224 (by decide +kernel)), (fw_t 235 (by decide +kernel))⟩ (fun q => ?_)
  refine fr_astore (pc := 13) (L2 := [(0, .ref o), (1, .int x1), (2, .int x2), (3, .ref out), (4, .ref q)]) d_LW_owner_13 (by decide) rfl ?_
  refine fr_iconst (pc := 15) (v := 1) d_LW_owner_15 (by decide) ?_
  exact fr_iret rfl d_LW_owner_16 ⟨rfl, hX2, fun b e hb hm => lx_Fr_mk hX hF b e hb hm, f, ho2, fun z => absurd z (by decide)⟩
theorem w_rights_ok {g : fw_G} {w : fw_W} {o gr a1 a2 a3 a4 na out : Nat} {S S2 : fs_S} (hX : fs_X g (o, gr, a1, a2, a3, a4, na) S w) {f : Nat → Int64} (hout : w out = some (lx_lo g f)) {x1 x2 : Int32} {v : Int32} (h : fw_R g m_FR_rights (fs_P g (o, gr, a1, a2, a3, a4, na) w (.inl (some (.int v))) S2) 2 12 w 0 [(0, .ref o), (1, .int x1), (2, .int x2)] []) : fw_R g m_LW_rights (lx_Wp g (o, gr, a1, a2, a3, a4, na) w out S2 0 v.toInt64) 2 12 w 0 [(0, .ref o), (1, .int x1), (2, .int x2), (3, .ref out)] [] := by
  obtain ⟨fs0, h0⟩ := lx_o hX
  refine fr_aload_n (pc := 0) d_LW_rights_0 rfl rfl ?_
  refine fr_iconst (pc := 1) (v := 0) d_LW_rights_1 (by decide) ?_
  refine fr_aload_n (pc := 2) d_LW_rights_2 rfl rfl ?_
  refine fr_iload_n (pc := 3) d_LW_rights_3 rfl rfl ?_
  refine fr_iload_n (pc := 4) d_LW_rights_4 rfl rfl ?_
  refine fr_callV (pc := 5) (nc := 0) (ns := 0) (N := m_FR_rights) (rest := [.int 0, .ref out]) (as := [.int x1, .int x2]) d_LW_rights_5 vc_LW_55 ⟨by decide, by decide, Nat.le_of_ble_eq_true rfl⟩ (Nat.le_of_ble_eq_true rfl) h0 h rfl (fun v1 u h9 => ?_) (fun C u h9 => by obtain ⟨h1, -⟩ := h9; cases h1)
  obtain ⟨h1, hX2, hF⟩ := h9
  cases h1
  have ho2 := lx_Fr_lo hX hF hout
  refine fr_i2l (pc := 8) d_LW_rights_8 rfl ?_
  refine fr_lastN (pc := 9) (n := 1) (k := 0) d_LW_rights_9 ho2 (by omega) (by omega) ?_
  refine fr_goto (pc := 10) (tgt := 17) d_LW_rights_10 (by decide) ?_
  refine fr_iconst (pc := 17) (v := 0) d_LW_rights_17 (by decide) ?_
  exact fr_iret rfl d_LW_rights_18 ⟨rfl, fs_X_nk (lx_up_nk ho2) hX2, fun b e hb hm => lx_up_mk ho2 b e (lx_Fr_mk hX hF b e hb hm) hm, _, fw_up_self, fun _ => upL_self⟩
theorem w_rights_NSE {g : fw_G} {w : fw_W} {o gr a1 a2 a3 a4 na out : Nat} {S S2 : fs_S} (hX : fs_X g (o, gr, a1, a2, a3, a4, na) S w) {f : Nat → Int64} (hout : w out = some (lx_lo g f)) {x1 x2 : Int32} {y : Int64}  (h : fw_R g m_FR_rights (fs_P g (o, gr, a1, a2, a3, a4, na) w (.inr "java/util/NoSuchElementException") S2) 2 12 w 0 [(0, .ref o), (1, .int x1), (2, .int x2)] []) : fw_R g m_LW_rights (lx_Wp g (o, gr, a1, a2, a3, a4, na) w out S2 1 y) 2 12 w 0 [(0, .ref o), (1, .int x1), (2, .int x2), (3, .ref out)] [] := by
  obtain ⟨fs0, h0⟩ := lx_o hX
  refine fr_aload_n (pc := 0) d_LW_rights_0 rfl rfl ?_
  refine fr_iconst (pc := 1) (v := 0) d_LW_rights_1 (by decide) ?_
  refine fr_aload_n (pc := 2) d_LW_rights_2 rfl rfl ?_
  refine fr_iload_n (pc := 3) d_LW_rights_3 rfl rfl ?_
  refine fr_iload_n (pc := 4) d_LW_rights_4 rfl rfl ?_
  refine fr_callV (pc := 5) (nc := 0) (ns := 0) (N := m_FR_rights) (rest := [.int 0, .ref out]) (as := [.int x1, .int x2]) d_LW_rights_5 vc_LW_55 ⟨by decide, by decide, Nat.le_of_ble_eq_true rfl⟩ (Nat.le_of_ble_eq_true rfl) h0 h rfl (fun v1 u h9 => by obtain ⟨h1, -⟩ := h9; cases h1) (fun C u h9 => ?_)
  obtain ⟨h1, hX2, hF⟩ := h9
  cases h1
  have ho2 := lx_Fr_lo hX hF hout
  refine fx_catch (pc := 5) (hpc := 13) ⟨[], [], (0, 10, 13, 22), rfl, (fun z hz => by cases hz), by decide, by decide, rfl, by decide, (fw_t 224 (by decide +kernel)), (fw_t 235 (by decide +kernel))⟩ (fun q => ?_)
  refine fr_astore (pc := 13) (L2 := [(0, .ref o), (1, .int x1), (2, .int x2), (3, .ref out), (4, .ref q)]) d_LW_rights_13 (by decide) rfl ?_
  refine fr_iconst (pc := 15) (v := 1) d_LW_rights_15 (by decide) ?_
  exact fr_iret rfl d_LW_rights_16 ⟨rfl, hX2, fun b e hb hm => lx_Fr_mk hX hF b e hb hm, f, ho2, fun z => absurd z (by decide)⟩
theorem w_explain_ok {g : fw_G} {w : fw_W} {o gr a1 a2 a3 a4 na out : Nat} {S S2 : fs_S} (hX : fs_X g (o, gr, a1, a2, a3, a4, na) S w) {f : Nat → Int64} (hout : w out = some (lx_lo g f)) {x1 x2 x3 x4 : Int32} {v : Int32} (h : fw_R g m_FR_explain (fs_P g (o, gr, a1, a2, a3, a4, na) w (.inl (some (.int v))) S2) 4 24 w 0 [(0, .ref o), (1, .int x1), (2, .int x2), (3, .int x3), (4, .int x4)] []) : fw_R g m_LW_explain (lx_Wp g (o, gr, a1, a2, a3, a4, na) w out S2 0 v.toInt64) 4 24 w 0 [(0, .ref o), (1, .int x1), (2, .int x2), (3, .int x3), (4, .int x4), (5, .ref out)] [] := by
  obtain ⟨fs0, h0⟩ := lx_o hX
  refine fr_aload (pc := 0) d_LW_explain_0 rfl ?_
  refine fr_iconst (pc := 2) (v := 0) d_LW_explain_2 (by decide) ?_
  refine fr_aload_n (pc := 3) d_LW_explain_3 rfl rfl ?_
  refine fr_iload_n (pc := 4) d_LW_explain_4 rfl rfl ?_
  refine fr_iload_n (pc := 5) d_LW_explain_5 rfl rfl ?_
  refine fr_iload_n (pc := 6) d_LW_explain_6 rfl rfl ?_
  refine fr_iload (pc := 7) d_LW_explain_7 rfl ?_
  refine fr_callV (pc := 9) (nc := 0) (ns := 0) (N := m_FR_explain) (rest := [.int 0, .ref out]) (as := [.int x1, .int x2, .int x3, .int x4]) d_LW_explain_9 vc_LW_58 ⟨by decide, by decide, Nat.le_of_ble_eq_true rfl⟩ (Nat.le_of_ble_eq_true rfl) h0 h rfl (fun v1 u h9 => ?_) (fun C u h9 => by obtain ⟨h1, -⟩ := h9; cases h1)
  obtain ⟨h1, hX2, hF⟩ := h9
  cases h1
  have ho2 := lx_Fr_lo hX hF hout
  refine fr_i2l (pc := 12) d_LW_explain_12 rfl ?_
  refine fr_lastN (pc := 13) (n := 1) (k := 0) d_LW_explain_13 ho2 (by omega) (by omega) ?_
  refine fr_goto (pc := 14) (tgt := 25) d_LW_explain_14 (by decide) ?_
  refine fr_iconst (pc := 25) (v := 0) d_LW_explain_25 (by decide) ?_
  exact fr_iret rfl d_LW_explain_26 ⟨rfl, fs_X_nk (lx_up_nk ho2) hX2, fun b e hb hm => lx_up_mk ho2 b e (lx_Fr_mk hX hF b e hb hm) hm, _, fw_up_self, fun _ => upL_self⟩
theorem w_explain_NSE {g : fw_G} {w : fw_W} {o gr a1 a2 a3 a4 na out : Nat} {S S2 : fs_S} (hX : fs_X g (o, gr, a1, a2, a3, a4, na) S w) {f : Nat → Int64} (hout : w out = some (lx_lo g f)) {x1 x2 x3 x4 : Int32} {y : Int64}  (h : fw_R g m_FR_explain (fs_P g (o, gr, a1, a2, a3, a4, na) w (.inr "java/util/NoSuchElementException") S2) 4 24 w 0 [(0, .ref o), (1, .int x1), (2, .int x2), (3, .int x3), (4, .int x4)] []) : fw_R g m_LW_explain (lx_Wp g (o, gr, a1, a2, a3, a4, na) w out S2 1 y) 4 24 w 0 [(0, .ref o), (1, .int x1), (2, .int x2), (3, .int x3), (4, .int x4), (5, .ref out)] [] := by
  obtain ⟨fs0, h0⟩ := lx_o hX
  refine fr_aload (pc := 0) d_LW_explain_0 rfl ?_
  refine fr_iconst (pc := 2) (v := 0) d_LW_explain_2 (by decide) ?_
  refine fr_aload_n (pc := 3) d_LW_explain_3 rfl rfl ?_
  refine fr_iload_n (pc := 4) d_LW_explain_4 rfl rfl ?_
  refine fr_iload_n (pc := 5) d_LW_explain_5 rfl rfl ?_
  refine fr_iload_n (pc := 6) d_LW_explain_6 rfl rfl ?_
  refine fr_iload (pc := 7) d_LW_explain_7 rfl ?_
  refine fr_callV (pc := 9) (nc := 0) (ns := 0) (N := m_FR_explain) (rest := [.int 0, .ref out]) (as := [.int x1, .int x2, .int x3, .int x4]) d_LW_explain_9 vc_LW_58 ⟨by decide, by decide, Nat.le_of_ble_eq_true rfl⟩ (Nat.le_of_ble_eq_true rfl) h0 h rfl (fun v1 u h9 => by obtain ⟨h1, -⟩ := h9; cases h1) (fun C u h9 => ?_)
  obtain ⟨h1, hX2, hF⟩ := h9
  cases h1
  have ho2 := lx_Fr_lo hX hF hout
  refine fx_catch (pc := 9) (hpc := 17) ⟨[], [(0, 14, 21, 31)], (0, 14, 17, 22), rfl, (fun z hz => by cases hz), by decide, by decide, rfl, by decide, (fw_t 224 (by decide +kernel)), (fw_t 235 (by decide +kernel))⟩ (fun q => ?_)
  refine fr_astore (pc := 17) (L2 := [(0, .ref o), (1, .int x1), (2, .int x2), (3, .int x3), (4, .int x4), (5, .ref out), (6, .ref q)]) d_LW_explain_17 (by decide) rfl ?_
  refine fr_iconst (pc := 19) (v := 1) d_LW_explain_19 (by decide) ?_
  exact fr_iret rfl d_LW_explain_20 ⟨rfl, hX2, fun b e hb hm => lx_Fr_mk hX hF b e hb hm, f, ho2, fun z => absurd z (by decide)⟩
theorem w_explain_IAE {g : fw_G} {w : fw_W} {o gr a1 a2 a3 a4 na out : Nat} {S S2 : fs_S} (hX : fs_X g (o, gr, a1, a2, a3, a4, na) S w) {f : Nat → Int64} (hout : w out = some (lx_lo g f)) {x1 x2 x3 x4 : Int32} {y : Int64}  (h : fw_R g m_FR_explain (fs_P g (o, gr, a1, a2, a3, a4, na) w (.inr "java/lang/IllegalArgumentException") S2) 4 24 w 0 [(0, .ref o), (1, .int x1), (2, .int x2), (3, .int x3), (4, .int x4)] []) : fw_R g m_LW_explain (lx_Wp g (o, gr, a1, a2, a3, a4, na) w out S2 2 y) 4 24 w 0 [(0, .ref o), (1, .int x1), (2, .int x2), (3, .int x3), (4, .int x4), (5, .ref out)] [] := by
  obtain ⟨fs0, h0⟩ := lx_o hX
  refine fr_aload (pc := 0) d_LW_explain_0 rfl ?_
  refine fr_iconst (pc := 2) (v := 0) d_LW_explain_2 (by decide) ?_
  refine fr_aload_n (pc := 3) d_LW_explain_3 rfl rfl ?_
  refine fr_iload_n (pc := 4) d_LW_explain_4 rfl rfl ?_
  refine fr_iload_n (pc := 5) d_LW_explain_5 rfl rfl ?_
  refine fr_iload_n (pc := 6) d_LW_explain_6 rfl rfl ?_
  refine fr_iload (pc := 7) d_LW_explain_7 rfl ?_
  refine fr_callV (pc := 9) (nc := 0) (ns := 0) (N := m_FR_explain) (rest := [.int 0, .ref out]) (as := [.int x1, .int x2, .int x3, .int x4]) d_LW_explain_9 vc_LW_58 ⟨by decide, by decide, Nat.le_of_ble_eq_true rfl⟩ (Nat.le_of_ble_eq_true rfl) h0 h rfl (fun v1 u h9 => by obtain ⟨h1, -⟩ := h9; cases h1) (fun C u h9 => ?_)
  obtain ⟨h1, hX2, hF⟩ := h9
  cases h1
  have ho2 := lx_Fr_lo hX hF hout
  refine fx_catch (pc := 9) (hpc := 21) ⟨[(0, 14, 17, 22)], [], (0, 14, 21, 31), rfl, (List.forall_mem_cons.mpr ⟨⟨by decide, "java/util/NoSuchElementException", (fw_t 224 (by decide +kernel)), by decide⟩, fun z hz => by cases hz⟩), by decide, by decide, rfl, by decide, (fw_t 292 (by decide +kernel)), (fw_t 307 (by decide +kernel))⟩ (fun q => ?_)
  refine fr_astore (pc := 21) (L2 := [(0, .ref o), (1, .int x1), (2, .int x2), (3, .int x3), (4, .int x4), (5, .ref out), (6, .ref q)]) d_LW_explain_21 (by decide) rfl ?_
  refine fr_iconst (pc := 23) (v := 2) d_LW_explain_23 (by decide) ?_
  exact fr_iret rfl d_LW_explain_24 ⟨rfl, hX2, fun b e hb hm => lx_Fr_mk hX hF b e hb hm, f, ho2, fun z => absurd z (by decide)⟩
theorem w_who_ok {g : fw_G} {w : fw_W} {o gr a1 a2 a3 a4 na out : Nat} {S S2 : fs_S} (hX : fs_X g (o, gr, a1, a2, a3, a4, na) S w) {f : Nat → Int64} (hout : w out = some (lx_lo g f)) {x1 x2 x3 : Int32} {v : Int32} (h : fw_R g m_FR_who (fs_P g (o, gr, a1, a2, a3, a4, na) w (.inl (some (.int v))) S2) 3 18 w 0 [(0, .ref o), (1, .int x1), (2, .int x2), (3, .int x3)] []) : fw_R g m_LW_who (lx_Wp g (o, gr, a1, a2, a3, a4, na) w out S2 0 v.toInt64) 3 18 w 0 [(0, .ref o), (1, .int x1), (2, .int x2), (3, .int x3), (4, .ref out)] [] := by
  obtain ⟨fs0, h0⟩ := lx_o hX
  refine fr_aload (pc := 0) d_LW_who_0 rfl ?_
  refine fr_iconst (pc := 2) (v := 0) d_LW_who_2 (by decide) ?_
  refine fr_aload_n (pc := 3) d_LW_who_3 rfl rfl ?_
  refine fr_iload_n (pc := 4) d_LW_who_4 rfl rfl ?_
  refine fr_iload_n (pc := 5) d_LW_who_5 rfl rfl ?_
  refine fr_iload_n (pc := 6) d_LW_who_6 rfl rfl ?_
  refine fr_callV (pc := 7) (nc := 0) (ns := 0) (N := m_FR_who) (rest := [.int 0, .ref out]) (as := [.int x1, .int x2, .int x3]) d_LW_who_7 vc_LW_62 ⟨by decide, by decide, Nat.le_of_ble_eq_true rfl⟩ (Nat.le_of_ble_eq_true rfl) h0 h rfl (fun v1 u h9 => ?_) (fun C u h9 => by obtain ⟨h1, -⟩ := h9; cases h1)
  obtain ⟨h1, hX2, hF⟩ := h9
  cases h1
  have ho2 := lx_Fr_lo hX hF hout
  refine fr_i2l (pc := 10) d_LW_who_10 rfl ?_
  refine fr_lastN (pc := 11) (n := 1) (k := 0) d_LW_who_11 ho2 (by omega) (by omega) ?_
  refine fr_goto (pc := 12) (tgt := 23) d_LW_who_12 (by decide) ?_
  refine fr_iconst (pc := 23) (v := 0) d_LW_who_23 (by decide) ?_
  exact fr_iret rfl d_LW_who_24 ⟨rfl, fs_X_nk (lx_up_nk ho2) hX2, fun b e hb hm => lx_up_mk ho2 b e (lx_Fr_mk hX hF b e hb hm) hm, _, fw_up_self, fun _ => upL_self⟩
theorem w_who_NSE {g : fw_G} {w : fw_W} {o gr a1 a2 a3 a4 na out : Nat} {S S2 : fs_S} (hX : fs_X g (o, gr, a1, a2, a3, a4, na) S w) {f : Nat → Int64} (hout : w out = some (lx_lo g f)) {x1 x2 x3 : Int32} {y : Int64}  (h : fw_R g m_FR_who (fs_P g (o, gr, a1, a2, a3, a4, na) w (.inr "java/util/NoSuchElementException") S2) 3 18 w 0 [(0, .ref o), (1, .int x1), (2, .int x2), (3, .int x3)] []) : fw_R g m_LW_who (lx_Wp g (o, gr, a1, a2, a3, a4, na) w out S2 1 y) 3 18 w 0 [(0, .ref o), (1, .int x1), (2, .int x2), (3, .int x3), (4, .ref out)] [] := by
  obtain ⟨fs0, h0⟩ := lx_o hX
  refine fr_aload (pc := 0) d_LW_who_0 rfl ?_
  refine fr_iconst (pc := 2) (v := 0) d_LW_who_2 (by decide) ?_
  refine fr_aload_n (pc := 3) d_LW_who_3 rfl rfl ?_
  refine fr_iload_n (pc := 4) d_LW_who_4 rfl rfl ?_
  refine fr_iload_n (pc := 5) d_LW_who_5 rfl rfl ?_
  refine fr_iload_n (pc := 6) d_LW_who_6 rfl rfl ?_
  refine fr_callV (pc := 7) (nc := 0) (ns := 0) (N := m_FR_who) (rest := [.int 0, .ref out]) (as := [.int x1, .int x2, .int x3]) d_LW_who_7 vc_LW_62 ⟨by decide, by decide, Nat.le_of_ble_eq_true rfl⟩ (Nat.le_of_ble_eq_true rfl) h0 h rfl (fun v1 u h9 => by obtain ⟨h1, -⟩ := h9; cases h1) (fun C u h9 => ?_)
  obtain ⟨h1, hX2, hF⟩ := h9
  cases h1
  have ho2 := lx_Fr_lo hX hF hout
  refine fx_catch (pc := 7) (hpc := 15) ⟨[], [(0, 12, 19, 31)], (0, 12, 15, 22), rfl, (fun z hz => by cases hz), by decide, by decide, rfl, by decide, (fw_t 224 (by decide +kernel)), (fw_t 235 (by decide +kernel))⟩ (fun q => ?_)
  refine fr_astore (pc := 15) (L2 := [(0, .ref o), (1, .int x1), (2, .int x2), (3, .int x3), (4, .ref out), (5, .ref q)]) d_LW_who_15 (by decide) rfl ?_
  refine fr_iconst (pc := 17) (v := 1) d_LW_who_17 (by decide) ?_
  exact fr_iret rfl d_LW_who_18 ⟨rfl, hX2, fun b e hb hm => lx_Fr_mk hX hF b e hb hm, f, ho2, fun z => absurd z (by decide)⟩
theorem w_who_IAE {g : fw_G} {w : fw_W} {o gr a1 a2 a3 a4 na out : Nat} {S S2 : fs_S} (hX : fs_X g (o, gr, a1, a2, a3, a4, na) S w) {f : Nat → Int64} (hout : w out = some (lx_lo g f)) {x1 x2 x3 : Int32} {y : Int64}  (h : fw_R g m_FR_who (fs_P g (o, gr, a1, a2, a3, a4, na) w (.inr "java/lang/IllegalArgumentException") S2) 3 18 w 0 [(0, .ref o), (1, .int x1), (2, .int x2), (3, .int x3)] []) : fw_R g m_LW_who (lx_Wp g (o, gr, a1, a2, a3, a4, na) w out S2 2 y) 3 18 w 0 [(0, .ref o), (1, .int x1), (2, .int x2), (3, .int x3), (4, .ref out)] [] := by
  obtain ⟨fs0, h0⟩ := lx_o hX
  refine fr_aload (pc := 0) d_LW_who_0 rfl ?_
  refine fr_iconst (pc := 2) (v := 0) d_LW_who_2 (by decide) ?_
  refine fr_aload_n (pc := 3) d_LW_who_3 rfl rfl ?_
  refine fr_iload_n (pc := 4) d_LW_who_4 rfl rfl ?_
  refine fr_iload_n (pc := 5) d_LW_who_5 rfl rfl ?_
  refine fr_iload_n (pc := 6) d_LW_who_6 rfl rfl ?_
  refine fr_callV (pc := 7) (nc := 0) (ns := 0) (N := m_FR_who) (rest := [.int 0, .ref out]) (as := [.int x1, .int x2, .int x3]) d_LW_who_7 vc_LW_62 ⟨by decide, by decide, Nat.le_of_ble_eq_true rfl⟩ (Nat.le_of_ble_eq_true rfl) h0 h rfl (fun v1 u h9 => by obtain ⟨h1, -⟩ := h9; cases h1) (fun C u h9 => ?_)
  obtain ⟨h1, hX2, hF⟩ := h9
  cases h1
  have ho2 := lx_Fr_lo hX hF hout
  refine fx_catch (pc := 7) (hpc := 19) ⟨[(0, 12, 15, 22)], [], (0, 12, 19, 31), rfl, (List.forall_mem_cons.mpr ⟨⟨by decide, "java/util/NoSuchElementException", (fw_t 224 (by decide +kernel)), by decide⟩, fun z hz => by cases hz⟩), by decide, by decide, rfl, by decide, (fw_t 292 (by decide +kernel)), (fw_t 307 (by decide +kernel))⟩ (fun q => ?_)
  refine fr_astore (pc := 19) (L2 := [(0, .ref o), (1, .int x1), (2, .int x2), (3, .int x3), (4, .ref out), (5, .ref q)]) d_LW_who_19 (by decide) rfl ?_
  refine fr_iconst (pc := 21) (v := 2) d_LW_who_21 (by decide) ?_
  exact fr_iret rfl d_LW_who_22 ⟨rfl, hX2, fun b e hb hm => lx_Fr_mk hX hF b e hb hm, f, ho2, fun z => absurd z (by decide)⟩
theorem w_where_ok {g : fw_G} {w : fw_W} {o gr a1 a2 a3 a4 na out : Nat} {S S2 : fs_S} (hX : fs_X g (o, gr, a1, a2, a3, a4, na) S w) {f : Nat → Int64} (hout : w out = some (lx_lo g f)) {x1 x2 x3 : Int32} {v : Int32} (h : fw_R g m_FR_where (fs_P g (o, gr, a1, a2, a3, a4, na) w (.inl (some (.int v))) S2) 3 18 w 0 [(0, .ref o), (1, .int x1), (2, .int x2), (3, .int x3)] []) : fw_R g m_LW_where (lx_Wp g (o, gr, a1, a2, a3, a4, na) w out S2 0 v.toInt64) 3 18 w 0 [(0, .ref o), (1, .int x1), (2, .int x2), (3, .int x3), (4, .ref out)] [] := by
  obtain ⟨fs0, h0⟩ := lx_o hX
  refine fr_aload (pc := 0) d_LW_where_0 rfl ?_
  refine fr_iconst (pc := 2) (v := 0) d_LW_where_2 (by decide) ?_
  refine fr_aload_n (pc := 3) d_LW_where_3 rfl rfl ?_
  refine fr_iload_n (pc := 4) d_LW_where_4 rfl rfl ?_
  refine fr_iload_n (pc := 5) d_LW_where_5 rfl rfl ?_
  refine fr_iload_n (pc := 6) d_LW_where_6 rfl rfl ?_
  refine fr_callV (pc := 7) (nc := 0) (ns := 0) (N := m_FR_where) (rest := [.int 0, .ref out]) (as := [.int x1, .int x2, .int x3]) d_LW_where_7 vc_LW_66 ⟨by decide, by decide, Nat.le_of_ble_eq_true rfl⟩ (Nat.le_of_ble_eq_true rfl) h0 h rfl (fun v1 u h9 => ?_) (fun C u h9 => by obtain ⟨h1, -⟩ := h9; cases h1)
  obtain ⟨h1, hX2, hF⟩ := h9
  cases h1
  have ho2 := lx_Fr_lo hX hF hout
  refine fr_i2l (pc := 10) d_LW_where_10 rfl ?_
  refine fr_lastN (pc := 11) (n := 1) (k := 0) d_LW_where_11 ho2 (by omega) (by omega) ?_
  refine fr_goto (pc := 12) (tgt := 23) d_LW_where_12 (by decide) ?_
  refine fr_iconst (pc := 23) (v := 0) d_LW_where_23 (by decide) ?_
  exact fr_iret rfl d_LW_where_24 ⟨rfl, fs_X_nk (lx_up_nk ho2) hX2, fun b e hb hm => lx_up_mk ho2 b e (lx_Fr_mk hX hF b e hb hm) hm, _, fw_up_self, fun _ => upL_self⟩
theorem w_where_NSE {g : fw_G} {w : fw_W} {o gr a1 a2 a3 a4 na out : Nat} {S S2 : fs_S} (hX : fs_X g (o, gr, a1, a2, a3, a4, na) S w) {f : Nat → Int64} (hout : w out = some (lx_lo g f)) {x1 x2 x3 : Int32} {y : Int64}  (h : fw_R g m_FR_where (fs_P g (o, gr, a1, a2, a3, a4, na) w (.inr "java/util/NoSuchElementException") S2) 3 18 w 0 [(0, .ref o), (1, .int x1), (2, .int x2), (3, .int x3)] []) : fw_R g m_LW_where (lx_Wp g (o, gr, a1, a2, a3, a4, na) w out S2 1 y) 3 18 w 0 [(0, .ref o), (1, .int x1), (2, .int x2), (3, .int x3), (4, .ref out)] [] := by
  obtain ⟨fs0, h0⟩ := lx_o hX
  refine fr_aload (pc := 0) d_LW_where_0 rfl ?_
  refine fr_iconst (pc := 2) (v := 0) d_LW_where_2 (by decide) ?_
  refine fr_aload_n (pc := 3) d_LW_where_3 rfl rfl ?_
  refine fr_iload_n (pc := 4) d_LW_where_4 rfl rfl ?_
  refine fr_iload_n (pc := 5) d_LW_where_5 rfl rfl ?_
  refine fr_iload_n (pc := 6) d_LW_where_6 rfl rfl ?_
  refine fr_callV (pc := 7) (nc := 0) (ns := 0) (N := m_FR_where) (rest := [.int 0, .ref out]) (as := [.int x1, .int x2, .int x3]) d_LW_where_7 vc_LW_66 ⟨by decide, by decide, Nat.le_of_ble_eq_true rfl⟩ (Nat.le_of_ble_eq_true rfl) h0 h rfl (fun v1 u h9 => by obtain ⟨h1, -⟩ := h9; cases h1) (fun C u h9 => ?_)
  obtain ⟨h1, hX2, hF⟩ := h9
  cases h1
  have ho2 := lx_Fr_lo hX hF hout
  refine fx_catch (pc := 7) (hpc := 15) ⟨[], [(0, 12, 19, 31)], (0, 12, 15, 22), rfl, (fun z hz => by cases hz), by decide, by decide, rfl, by decide, (fw_t 224 (by decide +kernel)), (fw_t 235 (by decide +kernel))⟩ (fun q => ?_)
  refine fr_astore (pc := 15) (L2 := [(0, .ref o), (1, .int x1), (2, .int x2), (3, .int x3), (4, .ref out), (5, .ref q)]) d_LW_where_15 (by decide) rfl ?_
  refine fr_iconst (pc := 17) (v := 1) d_LW_where_17 (by decide) ?_
  exact fr_iret rfl d_LW_where_18 ⟨rfl, hX2, fun b e hb hm => lx_Fr_mk hX hF b e hb hm, f, ho2, fun z => absurd z (by decide)⟩
theorem w_where_IAE {g : fw_G} {w : fw_W} {o gr a1 a2 a3 a4 na out : Nat} {S S2 : fs_S} (hX : fs_X g (o, gr, a1, a2, a3, a4, na) S w) {f : Nat → Int64} (hout : w out = some (lx_lo g f)) {x1 x2 x3 : Int32} {y : Int64}  (h : fw_R g m_FR_where (fs_P g (o, gr, a1, a2, a3, a4, na) w (.inr "java/lang/IllegalArgumentException") S2) 3 18 w 0 [(0, .ref o), (1, .int x1), (2, .int x2), (3, .int x3)] []) : fw_R g m_LW_where (lx_Wp g (o, gr, a1, a2, a3, a4, na) w out S2 2 y) 3 18 w 0 [(0, .ref o), (1, .int x1), (2, .int x2), (3, .int x3), (4, .ref out)] [] := by
  obtain ⟨fs0, h0⟩ := lx_o hX
  refine fr_aload (pc := 0) d_LW_where_0 rfl ?_
  refine fr_iconst (pc := 2) (v := 0) d_LW_where_2 (by decide) ?_
  refine fr_aload_n (pc := 3) d_LW_where_3 rfl rfl ?_
  refine fr_iload_n (pc := 4) d_LW_where_4 rfl rfl ?_
  refine fr_iload_n (pc := 5) d_LW_where_5 rfl rfl ?_
  refine fr_iload_n (pc := 6) d_LW_where_6 rfl rfl ?_
  refine fr_callV (pc := 7) (nc := 0) (ns := 0) (N := m_FR_where) (rest := [.int 0, .ref out]) (as := [.int x1, .int x2, .int x3]) d_LW_where_7 vc_LW_66 ⟨by decide, by decide, Nat.le_of_ble_eq_true rfl⟩ (Nat.le_of_ble_eq_true rfl) h0 h rfl (fun v1 u h9 => by obtain ⟨h1, -⟩ := h9; cases h1) (fun C u h9 => ?_)
  obtain ⟨h1, hX2, hF⟩ := h9
  cases h1
  have ho2 := lx_Fr_lo hX hF hout
  refine fx_catch (pc := 7) (hpc := 19) ⟨[(0, 12, 15, 22)], [], (0, 12, 19, 31), rfl, (List.forall_mem_cons.mpr ⟨⟨by decide, "java/util/NoSuchElementException", (fw_t 224 (by decide +kernel)), by decide⟩, fun z hz => by cases hz⟩), by decide, by decide, rfl, by decide, (fw_t 292 (by decide +kernel)), (fw_t 307 (by decide +kernel))⟩ (fun q => ?_)
  refine fr_astore (pc := 19) (L2 := [(0, .ref o), (1, .int x1), (2, .int x2), (3, .int x3), (4, .ref out), (5, .ref q)]) d_LW_where_19 (by decide) rfl ?_
  refine fr_iconst (pc := 21) (v := 2) d_LW_where_21 (by decide) ?_
  exact fr_iret rfl d_LW_where_22 ⟨rfl, hX2, fun b e hb hm => lx_Fr_mk hX hF b e hb hm, f, ho2, fun z => absurd z (by decide)⟩
theorem w_same_ok {g : fw_G} {w : fw_W} {o gr a1 a2 a3 a4 na out : Nat} {S S2 : fs_S} (hX : fs_X g (o, gr, a1, a2, a3, a4, na) S w) {f : Nat → Int64} (hout : w out = some (lx_lo g f)) {x1 x2 : Int32} {b : Bool} (h : fw_R g m_FR_same (fs_P g (o, gr, a1, a2, a3, a4, na) w (.inl (some (.int (bI b)))) S2) 2 12 w 0 [(0, .ref o), (1, .int x1), (2, .int x2)] []) : fw_R g m_LW_same (lx_Wp g (o, gr, a1, a2, a3, a4, na) w out S2 0 (bI b).toInt64) 2 12 w 0 [(0, .ref o), (1, .int x1), (2, .int x2), (3, .ref out)] [] := by
  obtain ⟨fs0, h0⟩ := lx_o hX
  refine fr_aload_n (pc := 0) d_LW_same_0 rfl rfl ?_
  refine fr_iconst (pc := 1) (v := 0) d_LW_same_1 (by decide) ?_
  refine fr_aload_n (pc := 2) d_LW_same_2 rfl rfl ?_
  refine fr_iload_n (pc := 3) d_LW_same_3 rfl rfl ?_
  refine fr_iload_n (pc := 4) d_LW_same_4 rfl rfl ?_
  refine fr_callV (pc := 5) (nc := 0) (ns := 0) (N := m_FR_same) (rest := [.int 0, .ref out]) (as := [.int x1, .int x2]) d_LW_same_5 vc_LW_69 ⟨by decide, by decide, Nat.le_of_ble_eq_true rfl⟩ (Nat.le_of_ble_eq_true rfl) h0 h rfl (fun v1 u h9 => ?_) (fun C u h9 => by obtain ⟨h1, -⟩ := h9; cases h1)
  obtain ⟨h1, hX2, hF⟩ := h9
  cases h1
  have ho2 := lx_Fr_lo hX hF hout
  refine fr_nzl (pc := 8) 11 12 15 rfl rfl rfl d_LW_same_8 d_LW_same_11 d_LW_same_12 d_LW_same_15 ?_
  refine fr_lastN (pc := 16) (n := 1) (k := 0) d_LW_same_16 ho2 (by omega) (by omega) ?_
  refine fr_goto (pc := 17) (tgt := 24) d_LW_same_17 (by decide) ?_
  refine fr_iconst (pc := 24) (v := 0) d_LW_same_24 (by decide) ?_
  exact fr_iret rfl d_LW_same_25 ⟨rfl, fs_X_nk (lx_up_nk ho2) hX2, fun b e hb hm => lx_up_mk ho2 b e (lx_Fr_mk hX hF b e hb hm) hm, _, fw_up_self, fun _ => upL_self⟩
theorem w_same_NSE {g : fw_G} {w : fw_W} {o gr a1 a2 a3 a4 na out : Nat} {S S2 : fs_S} (hX : fs_X g (o, gr, a1, a2, a3, a4, na) S w) {f : Nat → Int64} (hout : w out = some (lx_lo g f)) {x1 x2 : Int32} {y : Int64}  (h : fw_R g m_FR_same (fs_P g (o, gr, a1, a2, a3, a4, na) w (.inr "java/util/NoSuchElementException") S2) 2 12 w 0 [(0, .ref o), (1, .int x1), (2, .int x2)] []) : fw_R g m_LW_same (lx_Wp g (o, gr, a1, a2, a3, a4, na) w out S2 1 y) 2 12 w 0 [(0, .ref o), (1, .int x1), (2, .int x2), (3, .ref out)] [] := by
  obtain ⟨fs0, h0⟩ := lx_o hX
  refine fr_aload_n (pc := 0) d_LW_same_0 rfl rfl ?_
  refine fr_iconst (pc := 1) (v := 0) d_LW_same_1 (by decide) ?_
  refine fr_aload_n (pc := 2) d_LW_same_2 rfl rfl ?_
  refine fr_iload_n (pc := 3) d_LW_same_3 rfl rfl ?_
  refine fr_iload_n (pc := 4) d_LW_same_4 rfl rfl ?_
  refine fr_callV (pc := 5) (nc := 0) (ns := 0) (N := m_FR_same) (rest := [.int 0, .ref out]) (as := [.int x1, .int x2]) d_LW_same_5 vc_LW_69 ⟨by decide, by decide, Nat.le_of_ble_eq_true rfl⟩ (Nat.le_of_ble_eq_true rfl) h0 h rfl (fun v1 u h9 => by obtain ⟨h1, -⟩ := h9; cases h1) (fun C u h9 => ?_)
  obtain ⟨h1, hX2, hF⟩ := h9
  cases h1
  have ho2 := lx_Fr_lo hX hF hout
  refine fx_catch (pc := 5) (hpc := 20) ⟨[], [], (0, 17, 20, 22), rfl, (fun z hz => by cases hz), by decide, by decide, rfl, by decide, (fw_t 224 (by decide +kernel)), (fw_t 235 (by decide +kernel))⟩ (fun q => ?_)
  refine fr_astore (pc := 20) (L2 := [(0, .ref o), (1, .int x1), (2, .int x2), (3, .ref out), (4, .ref q)]) d_LW_same_20 (by decide) rfl ?_
  refine fr_iconst (pc := 22) (v := 1) d_LW_same_22 (by decide) ?_
  exact fr_iret rfl d_LW_same_23 ⟨rfl, hX2, fun b e hb hm => lx_Fr_mk hX hF b e hb hm, f, ho2, fun z => absurd z (by decide)⟩
theorem w_in_ok {g : fw_G} {w : fw_W} {o gr a1 a2 a3 a4 na out : Nat} {S S2 : fs_S} (hX : fs_X g (o, gr, a1, a2, a3, a4, na) S w) {f : Nat → Int64} (hout : w out = some (lx_lo g f)) {x1 x2 : Int32} {b : Bool} (h : fw_R g m_FR_in (fs_P g (o, gr, a1, a2, a3, a4, na) w (.inl (some (.int (bI b)))) S2) 2 12 w 0 [(0, .ref o), (1, .int x1), (2, .int x2)] []) : fw_R g m_LW_in (lx_Wp g (o, gr, a1, a2, a3, a4, na) w out S2 0 (bI b).toInt64) 2 12 w 0 [(0, .ref o), (1, .int x1), (2, .int x2), (3, .ref out)] [] := by
  obtain ⟨fs0, h0⟩ := lx_o hX
  refine fr_aload_n (pc := 0) d_LW_in_0 rfl rfl ?_
  refine fr_iconst (pc := 1) (v := 0) d_LW_in_1 (by decide) ?_
  refine fr_aload_n (pc := 2) d_LW_in_2 rfl rfl ?_
  refine fr_iload_n (pc := 3) d_LW_in_3 rfl rfl ?_
  refine fr_iload_n (pc := 4) d_LW_in_4 rfl rfl ?_
  refine fr_callV (pc := 5) (nc := 0) (ns := 0) (N := m_FR_in) (rest := [.int 0, .ref out]) (as := [.int x1, .int x2]) d_LW_in_5 vc_LW_73 ⟨by decide, by decide, Nat.le_of_ble_eq_true rfl⟩ (Nat.le_of_ble_eq_true rfl) h0 h rfl (fun v1 u h9 => ?_) (fun C u h9 => by obtain ⟨h1, -⟩ := h9; cases h1)
  obtain ⟨h1, hX2, hF⟩ := h9
  cases h1
  have ho2 := lx_Fr_lo hX hF hout
  refine fr_nzl (pc := 8) 11 12 15 rfl rfl rfl d_LW_in_8 d_LW_in_11 d_LW_in_12 d_LW_in_15 ?_
  refine fr_lastN (pc := 16) (n := 1) (k := 0) d_LW_in_16 ho2 (by omega) (by omega) ?_
  refine fr_goto (pc := 17) (tgt := 24) d_LW_in_17 (by decide) ?_
  refine fr_iconst (pc := 24) (v := 0) d_LW_in_24 (by decide) ?_
  exact fr_iret rfl d_LW_in_25 ⟨rfl, fs_X_nk (lx_up_nk ho2) hX2, fun b e hb hm => lx_up_mk ho2 b e (lx_Fr_mk hX hF b e hb hm) hm, _, fw_up_self, fun _ => upL_self⟩
theorem w_in_NSE {g : fw_G} {w : fw_W} {o gr a1 a2 a3 a4 na out : Nat} {S S2 : fs_S} (hX : fs_X g (o, gr, a1, a2, a3, a4, na) S w) {f : Nat → Int64} (hout : w out = some (lx_lo g f)) {x1 x2 : Int32} {y : Int64}  (h : fw_R g m_FR_in (fs_P g (o, gr, a1, a2, a3, a4, na) w (.inr "java/util/NoSuchElementException") S2) 2 12 w 0 [(0, .ref o), (1, .int x1), (2, .int x2)] []) : fw_R g m_LW_in (lx_Wp g (o, gr, a1, a2, a3, a4, na) w out S2 1 y) 2 12 w 0 [(0, .ref o), (1, .int x1), (2, .int x2), (3, .ref out)] [] := by
  obtain ⟨fs0, h0⟩ := lx_o hX
  refine fr_aload_n (pc := 0) d_LW_in_0 rfl rfl ?_
  refine fr_iconst (pc := 1) (v := 0) d_LW_in_1 (by decide) ?_
  refine fr_aload_n (pc := 2) d_LW_in_2 rfl rfl ?_
  refine fr_iload_n (pc := 3) d_LW_in_3 rfl rfl ?_
  refine fr_iload_n (pc := 4) d_LW_in_4 rfl rfl ?_
  refine fr_callV (pc := 5) (nc := 0) (ns := 0) (N := m_FR_in) (rest := [.int 0, .ref out]) (as := [.int x1, .int x2]) d_LW_in_5 vc_LW_73 ⟨by decide, by decide, Nat.le_of_ble_eq_true rfl⟩ (Nat.le_of_ble_eq_true rfl) h0 h rfl (fun v1 u h9 => by obtain ⟨h1, -⟩ := h9; cases h1) (fun C u h9 => ?_)
  obtain ⟨h1, hX2, hF⟩ := h9
  cases h1
  have ho2 := lx_Fr_lo hX hF hout
  refine fx_catch (pc := 5) (hpc := 20) ⟨[], [], (0, 17, 20, 22), rfl, (fun z hz => by cases hz), by decide, by decide, rfl, by decide, (fw_t 224 (by decide +kernel)), (fw_t 235 (by decide +kernel))⟩ (fun q => ?_)
  refine fr_astore (pc := 20) (L2 := [(0, .ref o), (1, .int x1), (2, .int x2), (3, .ref out), (4, .ref q)]) d_LW_in_20 (by decide) rfl ?_
  refine fr_iconst (pc := 22) (v := 1) d_LW_in_22 (by decide) ?_
  exact fr_iret rfl d_LW_in_23 ⟨rfl, hX2, fun b e hb hm => lx_Fr_mk hX hF b e hb hm, f, ho2, fun z => absurd z (by decide)⟩
theorem w_about_ok {g : fw_G} {w : fw_W} {o gr a1 a2 a3 a4 na out : Nat} {S S2 : fs_S} (hX : fs_X g (o, gr, a1, a2, a3, a4, na) S w) {f : Nat → Int64} (hout : w out = some (lx_lo g f)) {x1 x2 : Int32} {v : Int32} (h : fw_R g m_FR_about (fs_P g (o, gr, a1, a2, a3, a4, na) w (.inl (some (.int v))) S2) 2 12 w 0 [(0, .ref o), (1, .int x1), (2, .int x2)] []) : fw_R g m_LW_about (lx_Wp g (o, gr, a1, a2, a3, a4, na) w out S2 0 v.toInt64) 2 12 w 0 [(0, .ref o), (1, .int x1), (2, .int x2), (3, .ref out)] [] := by
  obtain ⟨fs0, h0⟩ := lx_o hX
  refine fr_aload_n (pc := 0) d_LW_about_0 rfl rfl ?_
  refine fr_iconst (pc := 1) (v := 0) d_LW_about_1 (by decide) ?_
  refine fr_aload_n (pc := 2) d_LW_about_2 rfl rfl ?_
  refine fr_iload_n (pc := 3) d_LW_about_3 rfl rfl ?_
  refine fr_iload_n (pc := 4) d_LW_about_4 rfl rfl ?_
  refine fr_callV (pc := 5) (nc := 0) (ns := 0) (N := m_FR_about) (rest := [.int 0, .ref out]) (as := [.int x1, .int x2]) d_LW_about_5 vc_LW_76 ⟨by decide, by decide, Nat.le_of_ble_eq_true rfl⟩ (Nat.le_of_ble_eq_true rfl) h0 h rfl (fun v1 u h9 => ?_) (fun C u h9 => by obtain ⟨h1, -⟩ := h9; cases h1)
  obtain ⟨h1, hX2, hF⟩ := h9
  cases h1
  have ho2 := lx_Fr_lo hX hF hout
  refine fr_i2l (pc := 8) d_LW_about_8 rfl ?_
  refine fr_lastN (pc := 9) (n := 1) (k := 0) d_LW_about_9 ho2 (by omega) (by omega) ?_
  refine fr_goto (pc := 10) (tgt := 21) d_LW_about_10 (by decide) ?_
  refine fr_iconst (pc := 21) (v := 0) d_LW_about_21 (by decide) ?_
  exact fr_iret rfl d_LW_about_22 ⟨rfl, fs_X_nk (lx_up_nk ho2) hX2, fun b e hb hm => lx_up_mk ho2 b e (lx_Fr_mk hX hF b e hb hm) hm, _, fw_up_self, fun _ => upL_self⟩
theorem w_about_NSE {g : fw_G} {w : fw_W} {o gr a1 a2 a3 a4 na out : Nat} {S S2 : fs_S} (hX : fs_X g (o, gr, a1, a2, a3, a4, na) S w) {f : Nat → Int64} (hout : w out = some (lx_lo g f)) {x1 x2 : Int32} {y : Int64}  (h : fw_R g m_FR_about (fs_P g (o, gr, a1, a2, a3, a4, na) w (.inr "java/util/NoSuchElementException") S2) 2 12 w 0 [(0, .ref o), (1, .int x1), (2, .int x2)] []) : fw_R g m_LW_about (lx_Wp g (o, gr, a1, a2, a3, a4, na) w out S2 1 y) 2 12 w 0 [(0, .ref o), (1, .int x1), (2, .int x2), (3, .ref out)] [] := by
  obtain ⟨fs0, h0⟩ := lx_o hX
  refine fr_aload_n (pc := 0) d_LW_about_0 rfl rfl ?_
  refine fr_iconst (pc := 1) (v := 0) d_LW_about_1 (by decide) ?_
  refine fr_aload_n (pc := 2) d_LW_about_2 rfl rfl ?_
  refine fr_iload_n (pc := 3) d_LW_about_3 rfl rfl ?_
  refine fr_iload_n (pc := 4) d_LW_about_4 rfl rfl ?_
  refine fr_callV (pc := 5) (nc := 0) (ns := 0) (N := m_FR_about) (rest := [.int 0, .ref out]) (as := [.int x1, .int x2]) d_LW_about_5 vc_LW_76 ⟨by decide, by decide, Nat.le_of_ble_eq_true rfl⟩ (Nat.le_of_ble_eq_true rfl) h0 h rfl (fun v1 u h9 => by obtain ⟨h1, -⟩ := h9; cases h1) (fun C u h9 => ?_)
  obtain ⟨h1, hX2, hF⟩ := h9
  cases h1
  have ho2 := lx_Fr_lo hX hF hout
  refine fx_catch (pc := 5) (hpc := 13) ⟨[], [(0, 10, 17, 31)], (0, 10, 13, 22), rfl, (fun z hz => by cases hz), by decide, by decide, rfl, by decide, (fw_t 224 (by decide +kernel)), (fw_t 235 (by decide +kernel))⟩ (fun q => ?_)
  refine fr_astore (pc := 13) (L2 := [(0, .ref o), (1, .int x1), (2, .int x2), (3, .ref out), (4, .ref q)]) d_LW_about_13 (by decide) rfl ?_
  refine fr_iconst (pc := 15) (v := 1) d_LW_about_15 (by decide) ?_
  exact fr_iret rfl d_LW_about_16 ⟨rfl, hX2, fun b e hb hm => lx_Fr_mk hX hF b e hb hm, f, ho2, fun z => absurd z (by decide)⟩
theorem w_about_IAE {g : fw_G} {w : fw_W} {o gr a1 a2 a3 a4 na out : Nat} {S S2 : fs_S} (hX : fs_X g (o, gr, a1, a2, a3, a4, na) S w) {f : Nat → Int64} (hout : w out = some (lx_lo g f)) {x1 x2 : Int32} {y : Int64}  (h : fw_R g m_FR_about (fs_P g (o, gr, a1, a2, a3, a4, na) w (.inr "java/lang/IllegalArgumentException") S2) 2 12 w 0 [(0, .ref o), (1, .int x1), (2, .int x2)] []) : fw_R g m_LW_about (lx_Wp g (o, gr, a1, a2, a3, a4, na) w out S2 2 y) 2 12 w 0 [(0, .ref o), (1, .int x1), (2, .int x2), (3, .ref out)] [] := by
  obtain ⟨fs0, h0⟩ := lx_o hX
  refine fr_aload_n (pc := 0) d_LW_about_0 rfl rfl ?_
  refine fr_iconst (pc := 1) (v := 0) d_LW_about_1 (by decide) ?_
  refine fr_aload_n (pc := 2) d_LW_about_2 rfl rfl ?_
  refine fr_iload_n (pc := 3) d_LW_about_3 rfl rfl ?_
  refine fr_iload_n (pc := 4) d_LW_about_4 rfl rfl ?_
  refine fr_callV (pc := 5) (nc := 0) (ns := 0) (N := m_FR_about) (rest := [.int 0, .ref out]) (as := [.int x1, .int x2]) d_LW_about_5 vc_LW_76 ⟨by decide, by decide, Nat.le_of_ble_eq_true rfl⟩ (Nat.le_of_ble_eq_true rfl) h0 h rfl (fun v1 u h9 => by obtain ⟨h1, -⟩ := h9; cases h1) (fun C u h9 => ?_)
  obtain ⟨h1, hX2, hF⟩ := h9
  cases h1
  have ho2 := lx_Fr_lo hX hF hout
  refine fx_catch (pc := 5) (hpc := 17) ⟨[(0, 10, 13, 22)], [], (0, 10, 17, 31), rfl, (List.forall_mem_cons.mpr ⟨⟨by decide, "java/util/NoSuchElementException", (fw_t 224 (by decide +kernel)), by decide⟩, fun z hz => by cases hz⟩), by decide, by decide, rfl, by decide, (fw_t 292 (by decide +kernel)), (fw_t 307 (by decide +kernel))⟩ (fun q => ?_)
  refine fr_astore (pc := 17) (L2 := [(0, .ref o), (1, .int x1), (2, .int x2), (3, .ref out), (4, .ref q)]) d_LW_about_17 (by decide) rfl ?_
  refine fr_iconst (pc := 19) (v := 2) d_LW_about_19 (by decide) ?_
  exact fr_iret rfl d_LW_about_20 ⟨rfl, hX2, fun b e hb hm => lx_Fr_mk hX hF b e hb hm, f, ho2, fun z => absurd z (by decide)⟩
theorem w_count_ok {g : fw_G} {w : fw_W} {o gr a1 a2 a3 a4 na out : Nat} {S S2 : fs_S} (hX : fs_X g (o, gr, a1, a2, a3, a4, na) S w) {f : Nat → Int64} (hout : w out = some (lx_lo g f)) {x1 : Int32} {v : Int32} (h : fw_R g m_FR_count (fs_P g (o, gr, a1, a2, a3, a4, na) w (.inl (some (.int v))) S2) 1 6 w 0 [(0, .ref o), (1, .int x1)] []) : fw_R g m_LW_count (lx_Wp g (o, gr, a1, a2, a3, a4, na) w out S2 0 v.toInt64) 1 6 w 0 [(0, .ref o), (1, .int x1), (2, .ref out)] [] := by
  obtain ⟨fs0, h0⟩ := lx_o hX
  refine fr_aload_n (pc := 0) d_LW_count_0 rfl rfl ?_
  refine fr_iconst (pc := 1) (v := 0) d_LW_count_1 (by decide) ?_
  refine fr_aload_n (pc := 2) d_LW_count_2 rfl rfl ?_
  refine fr_iload_n (pc := 3) d_LW_count_3 rfl rfl ?_
  refine fr_callV (pc := 4) (nc := 0) (ns := 0) (N := m_FR_count) (rest := [.int 0, .ref out]) (as := [.int x1]) d_LW_count_4 vc_LW_79 ⟨by decide, by decide, Nat.le_of_ble_eq_true rfl⟩ (Nat.le_of_ble_eq_true rfl) h0 h rfl (fun v1 u h9 => ?_) (fun C u h9 => by obtain ⟨h1, -⟩ := h9; cases h1)
  obtain ⟨h1, hX2, hF⟩ := h9
  cases h1
  have ho2 := lx_Fr_lo hX hF hout
  refine fr_i2l (pc := 7) d_LW_count_7 rfl ?_
  refine fr_lastN (pc := 8) (n := 1) (k := 0) d_LW_count_8 ho2 (by omega) (by omega) ?_
  refine fr_goto (pc := 9) (tgt := 15) d_LW_count_9 (by decide) ?_
  refine fr_iconst (pc := 15) (v := 0) d_LW_count_15 (by decide) ?_
  exact fr_iret rfl d_LW_count_16 ⟨rfl, fs_X_nk (lx_up_nk ho2) hX2, fun b e hb hm => lx_up_mk ho2 b e (lx_Fr_mk hX hF b e hb hm) hm, _, fw_up_self, fun _ => upL_self⟩
theorem w_count_IAE {g : fw_G} {w : fw_W} {o gr a1 a2 a3 a4 na out : Nat} {S S2 : fs_S} (hX : fs_X g (o, gr, a1, a2, a3, a4, na) S w) {f : Nat → Int64} (hout : w out = some (lx_lo g f)) {x1 : Int32} {y : Int64}  (h : fw_R g m_FR_count (fs_P g (o, gr, a1, a2, a3, a4, na) w (.inr "java/lang/IllegalArgumentException") S2) 1 6 w 0 [(0, .ref o), (1, .int x1)] []) : fw_R g m_LW_count (lx_Wp g (o, gr, a1, a2, a3, a4, na) w out S2 1 y) 1 6 w 0 [(0, .ref o), (1, .int x1), (2, .ref out)] [] := by
  obtain ⟨fs0, h0⟩ := lx_o hX
  refine fr_aload_n (pc := 0) d_LW_count_0 rfl rfl ?_
  refine fr_iconst (pc := 1) (v := 0) d_LW_count_1 (by decide) ?_
  refine fr_aload_n (pc := 2) d_LW_count_2 rfl rfl ?_
  refine fr_iload_n (pc := 3) d_LW_count_3 rfl rfl ?_
  refine fr_callV (pc := 4) (nc := 0) (ns := 0) (N := m_FR_count) (rest := [.int 0, .ref out]) (as := [.int x1]) d_LW_count_4 vc_LW_79 ⟨by decide, by decide, Nat.le_of_ble_eq_true rfl⟩ (Nat.le_of_ble_eq_true rfl) h0 h rfl (fun v1 u h9 => by obtain ⟨h1, -⟩ := h9; cases h1) (fun C u h9 => ?_)
  obtain ⟨h1, hX2, hF⟩ := h9
  cases h1
  have ho2 := lx_Fr_lo hX hF hout
  refine fx_catch (pc := 4) (hpc := 12) ⟨[], [], (0, 9, 12, 31), rfl, (fun z hz => by cases hz), by decide, by decide, rfl, by decide, (fw_t 292 (by decide +kernel)), (fw_t 307 (by decide +kernel))⟩ (fun q => ?_)
  refine fr_astore_n (pc := 12) (L2 := [(0, .ref o), (1, .int x1), (2, .ref out), (3, .ref q)]) d_LW_count_12 rfl (by decide) rfl ?_
  refine fr_iconst (pc := 13) (v := 1) d_LW_count_13 (by decide) ?_
  exact fr_iret rfl d_LW_count_14 ⟨rfl, hX2, fun b e hb hm => lx_Fr_mk hX hF b e hb hm, f, ho2, fun z => absurd z (by decide)⟩

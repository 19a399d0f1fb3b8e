def fs_Kc (A : fs_A) (b : Nat) (e : va_E) : Prop := (∃ ci fs, e = .inr (ci, fs) ∧ ci ≤ 4) ∨ (∃ c n f, e = .inl (c, n, .inr (.inr (.inr (.inr f))))) ∨ b = A.2.2.1 ∨ b = A.2.2.2.1 ∨ b = A.2.2.2.2.1 ∨ b = A.2.2.2.2.2.1
def fs_Fr (A : fs_A) (w u : fw_W) : Prop := ∀ b e, w b = some e → fs_Kc A b e ∨ u b = some e
theorem fs_Fr_id {A : fs_A} {w : fw_W} : fs_Fr A w w := fun _ _ h => Or.inr h
theorem fs_Fr_up {A : fs_A} {w u : fw_W} {a : Nat} {x : va_E} (hF : fs_Fr A w u) (h : ∀ e, w a = some e → fs_Kc A a e) : fs_Fr A w (fw_up u a x) := by
  intro b e hb
  by_cases hba : b = a
  · subst hba; exact Or.inl (h e hb)
  · rw [fw_up_ne hba]; exact hF b e hb
theorem fs_F2_Fr {A : fs_A} {w u : fw_W} (h : fs_F2 w u) : fs_Fr A w u := by
  intro b e hb
  by_cases hc : ∃ fs, e = .inr (2, fs)
  · obtain ⟨fs, rfl⟩ := hc
    exact Or.inl (Or.inl ⟨2, fs, rfl, by omega⟩)
  · refine Or.inr ?_
    rw [h b (fun fs hfs => hc ⟨fs, by rw [hb] at hfs; exact Option.some.inj hfs⟩)]
    exact hb
def fs_P (g : fw_G) (A : fs_A) (w : fw_W) (r0 : fw_O) (S : fs_S) : fw_O → fw_W → Prop := fun r u => r = r0 ∧ fs_X g A S u ∧ fs_Fr A w u
theorem fs_X_el {g : fw_G} {o gr a1 a2 a3 a4 na us n : Nat} {hu hg : Nat → Nat → Bool} {nd : fs_D} {w : fw_W} (h : fs_X g (o, gr, a1, a2, a3, a4, na) (us, n, hu, hg, nd) w) : ∃ f1 f2 f3 f4 ad lq ld lc lt,
    fs_ok us n nd ∧ w o = some (.inr (0, [.ref gr, .ref na, .int (nI us)])) ∧ gr_at g w gr a1 a2 a3 a4 n f1 f2 f3 f4 ∧ gr_rep hu hg n us f1 f2 f3 f4 ∧ w na = some (fs_no g ad) ∧ fs_rN g w nd ad lq ld lc lt := h
theorem fs_X_in {g : fw_G} {o gr a1 a2 a3 a4 na us n : Nat} {hu hg : Nat → Nat → Bool} {nd : fs_D} {w : fw_W} {f1 f2 f3 f4 : Nat → Int64} {ad : Nat → Option Nat} {lq ld lc : Nat → Nat} {lt : Nat → List Nat} (hok : fs_ok us n nd) (h0 : w o = some (.inr (0, [.ref gr, .ref na, .int (nI us)]))) (hG : gr_at g w gr a1 a2 a3 a4 n f1 f2 f3 f4) (hR : gr_rep hu hg n us f1 f2 f3 f4) (hN : w na = some (fs_no g ad)) (hr : fs_rN g w nd ad lq ld lc lt) : fs_X g (o, gr, a1, a2, a3, a4, na) (us, n, hu, hg, nd) w := ⟨f1, f2, f3, f4, ad, lq, ld, lc, lt, hok, h0, hG, hR, hN, hr⟩
def fs_kk (e : va_E) : Prop := (∃ ci fs, e = .inr (ci, fs) ∧ 2 ≤ ci ∧ ci ≤ 4) ∨ ∃ c n f, e = .inl (c, n, .inr (.inr (.inr (.inr f)))) ∧ n ≠ 150
theorem fs_rN_fr {g : fw_G} {w u : fw_W} {nd : fs_D} {ad : Nat → Option Nat} {lq ld lc : Nat → Nat} {lt : Nat → List Nat} (h : fs_rN g w nd ad lq ld lc lt) (hF : ∀ b e, w b = some e → fs_kk e → u b = some e) : fs_rN g u nd ad lq ld lc lt := by
  obtain ⟨h0, h1, h2, h3⟩ := h
  refine ⟨h0, fun k N hk => ?_, h2, h3⟩
  obtain ⟨q1, a, ha, hc, hl, hE⟩ := h1 k N hk
  refine ⟨q1, a, ha, hF _ _ hc (Or.inl ⟨2, _, rfl, by omega, by omega⟩), ?_, fs_en_of hE (fun b fs hb => hF _ _ hb (Or.inl ⟨3, _, rfl, by omega, by omega⟩))⟩
  obtain ⟨mc, e1, e2, e3, e4⟩ := hl
  refine ⟨mc, hF _ _ e1 (Or.inl ⟨4, _, rfl, by omega, by omega⟩), e2, fun y hy => ?_, ?_⟩
  · obtain ⟨fs, hfs⟩ := e3 y hy
    exact ⟨fs, hF _ _ hfs (Or.inl ⟨3, _, rfl, by omega, by omega⟩)⟩
  · rcases e4 with e4 | ⟨e4, e5, e6⟩
    · exact Or.inl e4
    · exact Or.inr ⟨hF _ _ e4 (Or.inr ⟨_, _, _, rfl, by omega⟩), e5, e6⟩
theorem fs_up_kk {w : fw_W} {a : Nat} {x y : va_E} (ha : w a = some x) (hx : ¬ fs_kk x) (b : Nat) (e : va_E) (hb : w b = some e) (he : fs_kk e) : fw_up w a y b = some e := by
  refine fw_up_at hb (fun z => ?_)
  subst z
  rw [ha] at hb; cases hb
  exact hx he
theorem fs_kk_01 {ci : Nat} {fs : List Value} (h : ci < 2) : ¬ fs_kk (.inr (ci, fs)) := by
  rintro (⟨c2, f2, e, h1, h2⟩ | ⟨c, n, f, e, -⟩)
  · cases e; omega
  · cases e
theorem fs_kk_l {c : ClassId} {n : Nat} {f : Nat → Int64} : ¬ fs_kk (.inl (c, n, .inr (.inl f))) := by
  rintro (⟨c2, f2, e, h1, h2⟩ | ⟨c, n, f, e, -⟩) <;> cases e
theorem fs_gr_fr {g : fw_G} {w u : fw_W} {gr a1 a2 a3 a4 n : Nat} {f1 f2 f3 f4 : Nat → Int64} (h : gr_at g w gr a1 a2 a3 a4 n f1 f2 f3 f4) (hF : ∀ b e, w b = some e → (∀ ci fs, e = .inr (ci, fs) → ci = 1) → (∀ c n f, e ≠ .inl (c, n, .inr (.inr (.inr (.inr f))))) → u b = some e) : gr_at g u gr a1 a2 a3 a4 n f1 f2 f3 f4 := by
  obtain ⟨e0, e1, e2, e3, e4, e5⟩ := h
  refine ⟨hF _ _ e0 (fun ci fs z => by cases z; rfl) (fun c n f z => by cases z), hF _ _ e1 (fun ci fs z => by cases z) (fun c n f z => by cases z), hF _ _ e2 (fun ci fs z => by cases z) (fun c n f z => by cases z), hF _ _ e3 (fun ci fs z => by cases z) (fun c n f z => by cases z), hF _ _ e4 (fun ci fs z => by cases z) (fun c n f z => by cases z), e5⟩
theorem fs_X_F2 {g : fw_G} {o gr a1 a2 a3 a4 na us n : Nat} {hu hg : Nat → Nat → Bool} {nd2 : fs_D} {w u : fw_W} {f1 f2 f3 f4 : Nat → Int64} {ad : Nat → Option Nat} {lq ld lc : Nat → Nat} {lt : Nat → List Nat} (hok : fs_ok us n nd2) (h0 : w o = some (.inr (0, [.ref gr, .ref na, .int (nI us)]))) (hG : gr_at g w gr a1 a2 a3 a4 n f1 f2 f3 f4) (hR : gr_rep hu hg n us f1 f2 f3 f4) (hN : w na = some (fs_no g ad)) (hF : fs_F2 w u) (hr : fs_rN g u nd2 ad lq ld lc lt) : fs_X g (o, gr, a1, a2, a3, a4, na) (us, n, hu, hg, nd2) u :=
  ⟨f1, f2, f3, f4, ad, lq, ld, lc, lt, hok, fs_F2_3 hF _ h0 (fun fs z => by cases z), fs_gr_fr hG (fun b e hb h1 _ => fs_F2_3 hF b hb (fun fs z => by have := h1 2 fs z; omega)), hR, fs_F2_3 hF _ hN (fun fs z => by cases z), hr⟩
theorem fs_ok_n {us n us2 n2 : Nat} {nd : fs_D} (h : fs_ok us n nd) (h1 : us ≤ us2) (h2 : us2 ≤ 60) (h3 : n ≤ n2) (h4 : n2 ≤ 24) : fs_ok us2 n2 nd := by
  obtain ⟨q1, q2, q3, q4, q5⟩ := h
  refine ⟨by omega, h2, h4, q4, fun k N hk => ?_⟩
  obtain ⟨e1, e2, e3, e4, e5, e6⟩ := q5 k N hk
  refine ⟨e1, e2, by omega, e4, fun E hE => ?_, e6⟩
  obtain ⟨p1, p2⟩ := e5 E hE
  refine ⟨?_, p2⟩
  split at p1 <;> rename_i hh
  · rw [if_pos hh]; omega
  · rw [if_neg hh]; omega
theorem fs_ok_t {us n : Nat} {nd nd2 : fs_D} (h : fs_ok us n nd) (hp : ∀ k, (nd2 k).map (fun N => N.2.1) = (nd k).map (fun N => N.2.1)) (hk : ∀ k N, nd2 k = some N → N.2.2.1 < us ∧ N.2.2.2.2.2.length ≤ 12 ∧ ∀ E ∈ N.2.2.2.2.2, fs_eo us n E) : fs_ok us n nd2 := by
  obtain ⟨q1, q2, q3, ⟨N0, q4, q6⟩, q5⟩ := h
  have key : ∀ k N2, nd2 k = some N2 → ∃ N, nd k = some N ∧ N2.2.1 = N.2.1 := by
    intro k N2 h2
    have := hp k
    rw [h2] at this
    cases h1 : nd k with
    | none => rw [h1] at this; cases this
    | some N => rw [h1] at this; exact ⟨N, rfl, Option.some.inj this⟩
  refine ⟨q1, q2, q3, ?_, fun k N2 h2 => ?_⟩
  · have := hp 0
    rw [q4] at this
    cases h2 : nd2 0 with
    | none => rw [h2] at this; cases this
    | some M => rw [h2] at this; exact ⟨M, rfl, (Option.some.inj this).trans q6⟩
  · obtain ⟨N, h1, e⟩ := key k N2 h2
    obtain ⟨e1, e2, e3, e4, e5, e6, e7⟩ := q5 k N h1
    obtain ⟨p1, p2, p3⟩ := hk k N2 h2
    refine ⟨e1, fun z => e2 (e ▸ z), p1, p2, p3, ?_, ?_⟩
    · rw [fs_ab_eq hp]; exact fs_ch_eq hp _ _ e6
    · rw [fs_ab_eq hp]; exact e7
theorem fs_pa_up {nd : fs_D} {k : Nat} {N N2 : fs_N} (hk : nd k = some N) (h : N2.2.1 = N.2.1) (j : Nat) : (va_up nd k (some N2) j).map (fun N => N.2.1) = (nd j).map (fun N => N.2.1) := by
  by_cases e : j = k
  · subst e; rw [vu_self, hk]; show some N2.2.1 = some N.2.1; rw [h]
  · rw [vu_ne e]
theorem fs_ok_up {us n : Nat} {nd : fs_D} (h : fs_ok us n nd) {k : Nat} {N N2 : fs_N} (hk : nd k = some N) (h1 : N2.2.1 = N.2.1) (h2 : N2.2.2.1 < us) (h3 : N2.2.2.2.2.2.length ≤ 12) (h4 : ∀ E ∈ N2.2.2.2.2.2, fs_eo us n E) : fs_ok us n (va_up nd k (some N2)) := by
  refine fs_ok_t h (fs_pa_up hk h1) (fun j M hj => ?_)
  by_cases e : j = k
  · subst e; rw [vu_self] at hj; cases hj; exact ⟨h2, h3, h4⟩
  · rw [vu_ne e] at hj
    obtain ⟨-, -, e3, e4, e5, -⟩ := h.2.2.2.2 j M hj
    exact ⟨e3, e4, e5⟩
theorem fs_mk_some {nd : fs_D} {t i k : Nat} {M : fs_N} (h : fs_mk nd t i k = some M) : ∃ N, nd k = some N ∧ M.1 = N.1 ∧ M.2.1 = N.2.1 ∧ M.2.2.1 = N.2.2.1 ∧ M.2.2.2.1 = N.2.2.2.1 ∧ M.2.2.2.2.2 = N.2.2.2.2.2 := by
  cases hk : nd k with
  | none => simp [fs_mk, hk] at h
  | some N =>
    simp only [fs_mk, hk] at h
    refine ⟨N, rfl, ?_⟩
    split at h <;> (cases h; exact ⟨rfl, rfl, rfl, rfl, rfl⟩)
theorem fs_ok_mk {us n : Nat} {nd : fs_D} (h : fs_ok us n nd) {t i : Nat} : fs_ok us n (fs_mk nd t i) := by
  refine fs_ok_t h fs_mk_pa (fun j M hj => ?_)
  obtain ⟨N, h1, -, -, q3, -, q5⟩ := fs_mk_some hj
  obtain ⟨-, -, e3, e4, e5, -⟩ := h.2.2.2.2 j N h1
  rw [q3, q5]; exact ⟨e3, e4, e5⟩
theorem fs_ok_ch {us n : Nat} {nd : fs_D} (h : fs_ok us n nd) : ∀ k N, nd k = some N → fs_ch nd k (fs_ab nd k) := fun k N hk => (h.2.2.2.2 k N hk).2.2.2.2.2.1
theorem p_FR_user_ok {g : fw_G} {w : fw_W} {o gr a1 a2 a3 a4 na us n : Nat} {hu hg : Nat → Nat → Bool} {nd : fs_D} (hX : fs_X g (o, gr, a1, a2, a3, a4, na) (us, n, hu, hg, nd) w) (h60 : us < 60) : fw_R g m_FR_user (fs_P g (o, gr, a1, a2, a3, a4, na) w (.inl (some (.int (nI us)))) (us + 1, n, hu, hg, nd)) 1 6 w 0 [(0, .ref o)] [] := by
  obtain ⟨f1, f2, f3, f4, ad, lq, ld, lc, lt, hok, h0, hG, hR, hN, hr⟩ := fs_X_el hX
  refine fr_aload_n (pc := 0) d_FR_user_0 rfl rfl ?_
  refine fr_get (pc := 1) (v := .int (nI us)) d_FR_user_1 fg_FR_25 h0 rfl ?_
  refine fr_bipush (pc := 4) (v := 60) d_FR_user_4 (by decide) ?_
  refine fr_icmp_lt (pc := 6) (tgt := 19) d_FR_user_6 (by decide) (fun q => ?_) (fun q => ?_)
  · refine fr_aload_n (pc := 19) d_FR_user_19 rfl rfl ?_
    refine fr_dup (pc := 20) d_FR_user_20 rfl ?_
    refine fr_get (pc := 21) (v := .int (nI us)) d_FR_user_21 fg_FR_25 h0 rfl ?_
    refine fr_dup_x1 (pc := 24) d_FR_user_24 rfl rfl ?_
    refine fr_iconst (pc := 25) (v := 1) d_FR_user_25 (by decide) ?_
    refine fr_iadd (pc := 26) d_FR_user_26 ?_
    refine fr_st (st2 := [.int (nI (us + 1)), .ref o, .int (nI us)]) (by rw [← fi_1]; rfl) ?_
    refine fr_put (pc := 27) (fs2 := [.ref gr, .ref na, .int (nI (us + 1))]) d_FR_user_27 fp_FR_user_25 h0 (Nat.le_of_ble_eq_true rfl) rfl rfl rfl ?_
    exact fr_iret rfl d_FR_user_30 ⟨rfl, fs_X_in (fs_ok_n hok (by omega) (by omega) (Nat.le_refl _) hG.2.2.2.2.2.1) fw_up_self (fs_gr_fr hG (fun b e hb h1 _ => fw_up_at hb (fs_ne hb h0 (fun z => by have := h1 0 _ z; omega)))) (gr_rep_n hR (Nat.le_refl _) hG.2.2.2.2.2.1 (by omega) (by omega)) (fw_up_at hN (fs_ne hN h0 (fun z => by cases z))) (fs_rN_fr hr (fs_up_kk h0 (fs_kk_01 (by omega)))), fs_Fr_up fs_Fr_id (fun e he => by rw [h0] at he; cases he; exact Or.inl ⟨0, _, rfl, by omega⟩)⟩
  · exact absurd ((ni_lt (b := 60) (by omega) (by omega)).mpr h60) q
theorem p_FR_user_no {g : fw_G} {w : fw_W} {o gr a1 a2 a3 a4 na us n : Nat} {hu hg : Nat → Nat → Bool} {nd : fs_D} (hX : fs_X g (o, gr, a1, a2, a3, a4, na) (us, n, hu, hg, nd) w) (h60 : ¬ us < 60) : fw_R g m_FR_user (fs_P g (o, gr, a1, a2, a3, a4, na) w (.inr "java/lang/IllegalStateException") (us, n, hu, hg, nd)) 1 6 w 0 [(0, .ref o)] [] := by
  obtain ⟨f1, f2, f3, f4, ad, lq, ld, lc, lt, hok, h0, hG, hR, hN, hr⟩ := fs_X_el hX
  have h61 : us = 60 := by have := hok.2.1; omega
  refine fr_aload_n (pc := 0) d_FR_user_0 rfl rfl ?_
  refine fr_get (pc := 1) (v := .int (nI us)) d_FR_user_1 fg_FR_25 h0 rfl ?_
  refine fr_bipush (pc := 4) (v := 60) d_FR_user_4 (by decide) ?_
  refine fr_icmp_lt (pc := 6) (tgt := 19) d_FR_user_6 (by decide) (fun q => ?_) (fun q => ?_)
  · exact absurd ((ni_lt (b := 60) (by omega) (by omega)).mp q) h60
  · exact fr_throw (pc := 9) (nc := 0) (ns := 0) th_FR_31 d_FR_user_9 d_FR_user_12 d_FR_user_13 d_FR_user_15 d_FR_user_18 (by decide) (by decide) (by decide) ⟨rfl, hX, fs_Fr_id⟩
theorem p_FR_group_ok {g : fw_G} {w : fw_W} {o gr a1 a2 a3 a4 na us n : Nat} {hu hg : Nat → Nat → Bool} {nd : fs_D} (hX : fs_X g (o, gr, a1, a2, a3, a4, na) (us, n, hu, hg, nd) w) (h24 : n < 24) : fw_R g m_FR_group (fs_P g (o, gr, a1, a2, a3, a4, na) w (.inl (some (.int (nI n)))) (us, n + 1, hu, hg, nd)) 1 6 w 0 [(0, .ref o)] [] := by
  obtain ⟨f1, f2, f3, f4, ad, lq, ld, lc, lt, hok, h0, hG, hR, hN, hr⟩ := fs_X_el hX
  refine fr_aload_n (pc := 0) d_FR_group_0 rfl rfl ?_
  refine fr_get (pc := 1) (v := .ref gr) d_FR_group_1 fg_FR_10 h0 rfl ?_
  refine fr_get (pc := 4) (v := .int (nI n)) d_FR_group_4 fg_FR_36 hG.1 rfl ?_
  refine fr_bipush (pc := 7) (v := 24) d_FR_group_7 (by decide) ?_
  refine fr_icmp_lt (pc := 9) (tgt := 22) d_FR_group_9 (by decide) (fun q => ?_) (fun q => ?_)
  · refine fr_aload_n (pc := 22) d_FR_group_22 rfl rfl ?_
    refine fr_get (pc := 23) (v := .ref gr) d_FR_group_23 fg_FR_10 h0 rfl ?_
    refine fr_dup (pc := 26) d_FR_group_26 rfl ?_
    refine fr_get (pc := 27) (v := .int (nI n)) d_FR_group_27 fg_FR_36 hG.1 rfl ?_
    refine fr_dup_x1 (pc := 30) d_FR_group_30 rfl rfl ?_
    refine fr_iconst (pc := 31) (v := 1) d_FR_group_31 (by decide) ?_
    refine fr_iadd (pc := 32) d_FR_group_32 ?_
    refine fr_st (st2 := [.int (nI (n + 1)), .ref gr, .int (nI n)]) (by rw [← fi_1]; rfl) ?_
    refine fr_put (pc := 33) (fs2 := [.int (nI (n + 1)), .ref a1, .ref a2, .ref a3, .ref a4]) d_FR_group_33 fp_FR_group_36 hG.1 (Nat.le_of_ble_eq_true rfl) rfl rfl rfl ?_
    obtain ⟨g0, g1, g2, g3, g4, g5, g6⟩ := id hG
    obtain ⟨m1, m2, m3, m4⟩ : gr ≠ a1 ∧ gr ≠ a2 ∧ gr ≠ a3 ∧ gr ≠ a4 := g6.2.2.2.2.2.2
    exact fr_iret rfl d_FR_group_36 ⟨rfl, fs_X_in (fs_ok_n hok (Nat.le_refl _) hok.2.1 (by omega) (by omega)) (fw_up_at h0 (fs_ne h0 g0 (fun z => by cases z))) ⟨fw_up_self, fw_up_at g1 (Ne.symm m1), fw_up_at g2 (Ne.symm m2), fw_up_at g3 (Ne.symm m3), fw_up_at g4 (Ne.symm m4), by omega, g6⟩ (gr_rep_n hR (by omega) (by omega) (Nat.le_refl _) hok.2.1) (fw_up_at hN (fs_ne hN g0 (fun z => by cases z))) (fs_rN_fr hr (fs_up_kk g0 (fs_kk_01 (by omega)))), fs_Fr_up fs_Fr_id (fun e he => by rw [g0] at he; cases he; exact Or.inl ⟨1, _, rfl, by omega⟩)⟩
  · exact absurd ((ni_lt (b := 24) (by omega) (by omega)).mpr h24) q
theorem p_FR_group_no {g : fw_G} {w : fw_W} {o gr a1 a2 a3 a4 na us n : Nat} {hu hg : Nat → Nat → Bool} {nd : fs_D} (hX : fs_X g (o, gr, a1, a2, a3, a4, na) (us, n, hu, hg, nd) w) (h24 : ¬ n < 24) : fw_R g m_FR_group (fs_P g (o, gr, a1, a2, a3, a4, na) w (.inr "java/lang/IllegalStateException") (us, n, hu, hg, nd)) 1 6 w 0 [(0, .ref o)] [] := by
  obtain ⟨f1, f2, f3, f4, ad, lq, ld, lc, lt, hok, h0, hG, hR, hN, hr⟩ := fs_X_el hX
  have h25 : n = 24 := by have := hok.2.2.1; omega
  refine fr_aload_n (pc := 0) d_FR_group_0 rfl rfl ?_
  refine fr_get (pc := 1) (v := .ref gr) d_FR_group_1 fg_FR_10 h0 rfl ?_
  refine fr_get (pc := 4) (v := .int (nI n)) d_FR_group_4 fg_FR_36 hG.1 rfl ?_
  refine fr_bipush (pc := 7) (v := 24) d_FR_group_7 (by decide) ?_
  refine fr_icmp_lt (pc := 9) (tgt := 22) d_FR_group_9 (by decide) (fun q => ?_) (fun q => ?_)
  · exact absurd ((ni_lt (b := 24) (by omega) (by omega)).mp q) h24
  · exact fr_throw (pc := 12) (nc := 0) (ns := 0) th_FR_39 d_FR_group_12 d_FR_group_15 d_FR_group_16 d_FR_group_18 d_FR_group_21 (by decide) (by decide) (by decide) ⟨rfl, hX, fs_Fr_id⟩
theorem p_FR_in_ok {g : fw_G} {w : fw_W} {o gr a1 a2 a3 a4 na us n : Nat} {hu hg : Nat → Nat → Bool} {nd : fs_D} (hX : fs_X g (o, gr, a1, a2, a3, a4, na) (us, n, hu, hg, nd) w) {i u : Nat} (hi : i < n) (hu2 : u < us) : fw_R g m_FR_in (fs_P g (o, gr, a1, a2, a3, a4, na) w (.inl (some (.int (bI (fs_in hu hg i u))))) (us, n, hu, hg, nd)) 2 12 w 0 [(0, .ref o), (1, .int (nI i)), (2, .int (nI u))] [] := by
  obtain ⟨f1, f2, f3, f4, ad, lq, ld, lc, lt, hok, h0, hG, hR, hN, hr⟩ := fs_X_el hX
  have hb : n < 2 ^ 31 := by have := hok.2.2.1; omega
  have hb2 : us < 2 ^ 31 := by have := hok.2.1; omega
  refine fr_aload_n (pc := 0) d_FR_in_0 rfl rfl ?_
  refine fr_iload_n (pc := 1) d_FR_in_1 rfl rfl ?_
  refine fr_callv_n (pc := 2) (nc := 1) (ns := 6) (N := m_FR_requireGroup) (rest := []) (as := [.int (nI i)]) d_FR_in_2 vc_FR_41 ⟨by decide, by decide, Nat.le_of_ble_eq_true rfl⟩ (Nat.le_of_ble_eq_true rfl) h0 (c_FR_requireGroup h0 hG.1 hi hb) rfl ?_
  refine fr_aload_n (pc := 5) d_FR_in_5 rfl rfl ?_
  refine fr_iload_n (pc := 6) d_FR_in_6 rfl rfl ?_
  refine fr_callv_n (pc := 7) (nc := 0) (ns := 0) (N := m_FR_requireUser) (rest := []) (as := [.int (nI u)]) d_FR_in_7 vc_FR_67 ⟨by decide, by decide, Nat.le_of_ble_eq_true rfl⟩ (Nat.le_of_ble_eq_true rfl) h0 (c_FR_requireUser h0 hu2 hb2) rfl ?_
  refine fr_aload_n (pc := 10) d_FR_in_10 rfl rfl ?_
  refine fr_get (pc := 11) (v := .ref gr) d_FR_in_11 fg_FR_10 h0 rfl ?_
  refine fr_get (pc := 14) (v := .ref a4) d_FR_in_14 fg_FR_196 hG.1 rfl ?_
  refine fr_iload_n (pc := 17) d_FR_in_17 rfl rfl ?_
  obtain ⟨-, -, -, -, q4, hn24, -⟩ := id hG
  refine fr_laldN (pc := 18) d_FR_in_18 q4 (k := i) (by omega) (by omega) ?_
  refine fr_iload_n (pc := 19) d_FR_in_19 rfl rfl ?_
  refine fr_calls_p (pc := 20) (nc := 0) (ns := 0) (N := m_FR_isSet) (rest := []) (as := [.long (f4 i), .int (nI u)]) d_FR_in_20 k_FR_isSet lk_FR_163 sc_FR_isSet np_FR_isSet ⟨by decide, by decide, Nat.le_of_ble_eq_true rfl⟩ (Nat.le_of_ble_eq_true rfl) (c_FR_isSet (by have := hok.2.1; omega)) rfl ?_
  refine fr_st (st2 := [.int (bI (fs_in hu hg i u))]) (by rw [fs_in_f4 hR]) ?_
  exact fr_zret rfl (by first | exact bI_01 _ | exact Or.inl rfl | exact Or.inr rfl) d_FR_in_23 ⟨rfl, hX, fs_Fr_id⟩
theorem p_FR_in_n1 {g : fw_G} {w : fw_W} {o gr a1 a2 a3 a4 na us n : Nat} {hu hg : Nat → Nat → Bool} {nd : fs_D} (hX : fs_X g (o, gr, a1, a2, a3, a4, na) (us, n, hu, hg, nd) w) {x y : Int32} (hx : fs_no2 x n) : fw_R g m_FR_in (fs_P g (o, gr, a1, a2, a3, a4, na) w (.inr "java/util/NoSuchElementException") (us, n, hu, hg, nd)) 2 12 w 0 [(0, .ref o), (1, .int x), (2, .int y)] [] := by
  obtain ⟨f1, f2, f3, f4, ad, lq, ld, lc, lt, hok, h0, hG, hR, hN, hr⟩ := fs_X_el hX
  have hb : n < 2 ^ 31 := by have := hok.2.2.1; omega
  have hb2 : us < 2 ^ 31 := by have := hok.2.1; omega
  refine fr_aload_n (pc := 0) d_FR_in_0 rfl rfl ?_
  refine fr_iload_n (pc := 1) d_FR_in_1 rfl rfl ?_
  refine fr_callv_x (pc := 2) (nc := 1) (ns := 6) (N := m_FR_requireGroup) (rest := []) (as := [.int x]) d_FR_in_2 vc_FR_41 ⟨by decide, by decide, Nat.le_of_ble_eq_true rfl⟩ (Nat.le_of_ble_eq_true rfl) h0 (x_FR_requireGroup h0 hG.1 hx hb) rfl ?_
  exact fx_out (by decide) ⟨rfl, hX, fs_Fr_id⟩
theorem p_FR_in_n2 {g : fw_G} {w : fw_W} {o gr a1 a2 a3 a4 na us n : Nat} {hu hg : Nat → Nat → Bool} {nd : fs_D} (hX : fs_X g (o, gr, a1, a2, a3, a4, na) (us, n, hu, hg, nd) w) {i : Nat} {y : Int32} (hi : i < n) (hy : fs_no2 y us) : fw_R g m_FR_in (fs_P g (o, gr, a1, a2, a3, a4, na) w (.inr "java/util/NoSuchElementException") (us, n, hu, hg, nd)) 2 12 w 0 [(0, .ref o), (1, .int (nI i)), (2, .int y)] [] := by
  obtain ⟨f1, f2, f3, f4, ad, lq, ld, lc, lt, hok, h0, hG, hR, hN, hr⟩ := fs_X_el hX
  have hb : n < 2 ^ 31 := by have := hok.2.2.1; omega
  have hb2 : us < 2 ^ 31 := by have := hok.2.1; omega
  refine fr_aload_n (pc := 0) d_FR_in_0 rfl rfl ?_
  refine fr_iload_n (pc := 1) d_FR_in_1 rfl rfl ?_
  refine fr_callv_n (pc := 2) (nc := 1) (ns := 6) (N := m_FR_requireGroup) (rest := []) (as := [.int (nI i)]) d_FR_in_2 vc_FR_41 ⟨by decide, by decide, Nat.le_of_ble_eq_true rfl⟩ (Nat.le_of_ble_eq_true rfl) h0 (c_FR_requireGroup h0 hG.1 hi hb) rfl ?_
  refine fr_aload_n (pc := 5) d_FR_in_5 rfl rfl ?_
  refine fr_iload_n (pc := 6) d_FR_in_6 rfl rfl ?_
  refine fr_callv_x (pc := 7) (nc := 0) (ns := 0) (N := m_FR_requireUser) (rest := []) (as := [.int y]) d_FR_in_7 vc_FR_67 ⟨by decide, by decide, Nat.le_of_ble_eq_true rfl⟩ (Nat.le_of_ble_eq_true rfl) h0 (x_FR_requireUser h0 hy hb2) rfl ?_
  exact fx_out (by decide) ⟨rfl, hX, fs_Fr_id⟩
theorem fr_po {g : fw_G} {M : fw_M} {Post Post2 : fw_O → fw_W → Prop} {nc ns : Nat} {w : fw_W} {pc : Nat} {L : List (Nat × Value)} {st : List Value} (h : ∀ r u, Post r u → Post2 r u) (k : fw_R g M Post nc ns w pc L st) : fw_R g M Post2 nc ns w pc L st := by
  intro hg s m args below meth c H locs cells slots ls cx hB hH hS e1 e2 hl
  refine fw_mono (fun t ht => ?_) (k hg s m args below meth c H locs cells slots ls cx hB hH hS e1 e2 hl)
  obtain ⟨o, r, w1, L1, q1, q2, q3, q4, q5, q6, q7, q8, q9⟩ := ht
  exact ⟨o, r, w1, L1, q1, q2, q3, q4, q5, q6, q7, q8, h r w1 q9⟩
theorem p_FR_stale_ok {g : fw_G} {w : fw_W} {o gr a1 a2 a3 a4 na us n : Nat} {hu hg : Nat → Nat → Bool} {nd : fs_D} (hX : fs_X g (o, gr, a1, a2, a3, a4, na) (us, n, hu, hg, nd) w)  : fw_R g m_FR_stale (fs_P g (o, gr, a1, a2, a3, a4, na) w (.inl (some (.int (nI (fs_sum (fs_f3 nd) 150 0))))) (us, n, hu, hg, nd)) 0 0 w 0 [(0, .ref o)] [] := by
  obtain ⟨f1, f2, f3, f4, ad, lq, ld, lc, lt, hok, h0, hG, hR, hN, hr⟩ := fs_X_el hX
  have hh := c_FR_stale_p (nc := 0) (ns := 0) h0 hN hr
  rw [Nat.zero_add] at hh
  exact fr_po (fun r u h => by obtain ⟨e1, e2⟩ := h; subst e2; exact ⟨e1, hX, fs_Fr_id⟩) hh
theorem p_FR_owner_ok {g : fw_G} {w : fw_W} {o gr a1 a2 a3 a4 na us n : Nat} {hu hg : Nat → Nat → Bool} {nd : fs_D} (hX : fs_X g (o, gr, a1, a2, a3, a4, na) (us, n, hu, hg, nd) w) {k : Nat} {N : fs_N} (hk : nd k = some N) {u : Nat} (hu2 : u < us) : fw_R g m_FR_owner (fs_P g (o, gr, a1, a2, a3, a4, na) w (.inl (some (.int (nI N.2.2.1)))) (us, n, hu, hg, va_up nd k (some (N.1, N.2.1, u, N.2.2.2.1, N.2.2.2.2.1, N.2.2.2.2.2)))) 2 12 w 0 [(0, .ref o), (1, .int (nI k)), (2, .int (nI u))] [] := by
  obtain ⟨f1, f2, f3, f4, ad, lq, ld, lc, lt, hok, h0, hG, hR, hN, hr⟩ := fs_X_el hX
  have hb : n < 2 ^ 31 := by have := hok.2.2.1; omega
  have hb2 : us < 2 ^ 31 := by have := hok.2.1; omega
  obtain ⟨hk150, a, ha, hc, hl, hE⟩ := hr.2.1 k N hk
  obtain ⟨-, hk0, how, hlen, hes, hch, hdep⟩ := hok.2.2.2.2 k N hk
  refine fr_aload_n (pc := 0) d_FR_owner_0 rfl rfl ?_
  refine fr_iload_n (pc := 1) d_FR_owner_1 rfl rfl ?_
  refine fr_callv_p (pc := 2) (nc := 1) (ns := 6) (N := m_FR_nodeAt) (rest := []) (as := [.int (nI k)]) d_FR_owner_2 vc_FR_63 ⟨by decide, by decide, Nat.le_of_ble_eq_true rfl⟩ (Nat.le_of_ble_eq_true rfl) h0 (c_FR_nodeAt h0 hN hk150 ha) rfl ?_
  refine fr_astore_n (pc := 5) (L2 := [(0, .ref o), (1, .int (nI k)), (2, .int (nI u)), (3, .ref a)]) d_FR_owner_5 rfl (by decide) rfl ?_
  refine fr_aload_n (pc := 6) d_FR_owner_6 rfl rfl ?_
  refine fr_iload_n (pc := 7) d_FR_owner_7 rfl rfl ?_
  refine fr_callv_n (pc := 8) (nc := 0) (ns := 0) (N := m_FR_requireUser) (rest := []) (as := [.int (nI u)]) d_FR_owner_8 vc_FR_67 ⟨by decide, by decide, Nat.le_of_ble_eq_true rfl⟩ (Nat.le_of_ble_eq_true rfl) h0 (c_FR_requireUser h0 hu2 hb2) rfl ?_
  refine fr_aload_n (pc := 11) d_FR_owner_11 rfl rfl ?_
  refine fr_get (pc := 12) (v := .int (nI N.2.2.1)) d_FR_owner_12 fg_FR_156 hc rfl ?_
  refine fr_istore (pc := 15) (L2 := [(0, .ref o), (1, .int (nI k)), (2, .int (nI u)), (3, .ref a), (4, .int (nI N.2.2.1))]) d_FR_owner_15 (by decide) rfl ?_
  refine fr_aload_n (pc := 17) d_FR_owner_17 rfl rfl ?_
  refine fr_iload_n (pc := 18) d_FR_owner_18 rfl rfl ?_
  refine fr_put (pc := 19) (fs2 := fs_nc k (N.1, N.2.1, u, N.2.2.2.1, N.2.2.2.2.1, N.2.2.2.2.2) (lq k) (N.2.1.bind ad)) d_FR_owner_19 fp_FR_owner_156 hc (Nat.le_of_ble_eq_true rfl) rfl rfl rfl ?_
  refine fr_iload (pc := 22) d_FR_owner_22 rfl ?_
  exact fr_iret rfl d_FR_owner_24 ⟨rfl, fs_X_F2 (fs_ok_up hok (N2 := (N.1, N.2.1, u, N.2.2.2.1, N.2.2.2.2.1, N.2.2.2.2.2)) hk rfl hu2 hlen hes) h0 hG hR hN (fs_F2_up fs_F2_id hc) (fs_rN_put hr (N2 := (N.1, N.2.1, u, N.2.2.2.1, N.2.2.2.2.1, N.2.2.2.2.2)) hk ha rfl), fs_F2_Fr (fs_F2_up fs_F2_id hc)⟩
theorem p_FR_owner_n1 {g : fw_G} {w : fw_W} {o gr a1 a2 a3 a4 na us n : Nat} {hu hg : Nat → Nat → Bool} {nd : fs_D} (hX : fs_X g (o, gr, a1, a2, a3, a4, na) (us, n, hu, hg, nd) w) {x y : Int32} (hx : ∀ k, x = nI k → nd k = none) : fw_R g m_FR_owner (fs_P g (o, gr, a1, a2, a3, a4, na) w (.inr "java/util/NoSuchElementException") (us, n, hu, hg, nd)) 2 12 w 0 [(0, .ref o), (1, .int x), (2, .int y)] [] := by
  obtain ⟨f1, f2, f3, f4, ad, lq, ld, lc, lt, hok, h0, hG, hR, hN, hr⟩ := fs_X_el hX
  have hb : n < 2 ^ 31 := by have := hok.2.2.1; omega
  have hb2 : us < 2 ^ 31 := by have := hok.2.1; omega
  refine fr_aload_n (pc := 0) d_FR_owner_0 rfl rfl ?_
  refine fr_iload_n (pc := 1) d_FR_owner_1 rfl rfl ?_
  refine fr_callv_x (pc := 2) (nc := 1) (ns := 6) (N := m_FR_nodeAt) (rest := []) (as := [.int x]) d_FR_owner_2 vc_FR_63 ⟨by decide, by decide, Nat.le_of_ble_eq_true rfl⟩ (Nat.le_of_ble_eq_true rfl) h0 (x_FR_nodeAt h0 hN (fun k _ e => hr.1 k (hx k e))) rfl ?_
  exact fx_out (by decide) ⟨rfl, hX, fs_Fr_id⟩
theorem p_FR_owner_n2 {g : fw_G} {w : fw_W} {o gr a1 a2 a3 a4 na us n : Nat} {hu hg : Nat → Nat → Bool} {nd : fs_D} (hX : fs_X g (o, gr, a1, a2, a3, a4, na) (us, n, hu, hg, nd) w) {k : Nat} {N : fs_N} (hk : nd k = some N) {y : Int32} (hy : fs_no2 y us) : fw_R g m_FR_owner (fs_P g (o, gr, a1, a2, a3, a4, na) w (.inr "java/util/NoSuchElementException") (us, n, hu, hg, nd)) 2 12 w 0 [(0, .ref o), (1, .int (nI k)), (2, .int y)] [] := by
  obtain ⟨f1, f2, f3, f4, ad, lq, ld, lc, lt, hok, h0, hG, hR, hN, hr⟩ := fs_X_el hX
  have hb : n < 2 ^ 31 := by have := hok.2.2.1; omega
  have hb2 : us < 2 ^ 31 := by have := hok.2.1; omega
  obtain ⟨hk150, a, ha, hc, hl, hE⟩ := hr.2.1 k N hk
  obtain ⟨-, hk0, how, hlen, hes, hch, hdep⟩ := hok.2.2.2.2 k N hk
  refine fr_aload_n (pc := 0) d_FR_owner_0 rfl rfl ?_
  refine fr_iload_n (pc := 1) d_FR_owner_1 rfl rfl ?_
  refine fr_callv_p (pc := 2) (nc := 1) (ns := 6) (N := m_FR_nodeAt) (rest := []) (as := [.int (nI k)]) d_FR_owner_2 vc_FR_63 ⟨by decide, by decide, Nat.le_of_ble_eq_true rfl⟩ (Nat.le_of_ble_eq_true rfl) h0 (c_FR_nodeAt h0 hN hk150 ha) rfl ?_
  refine fr_astore_n (pc := 5) (L2 := [(0, .ref o), (1, .int (nI k)), (2, .int y), (3, .ref a)]) d_FR_owner_5 rfl (by decide) rfl ?_
  refine fr_aload_n (pc := 6) d_FR_owner_6 rfl rfl ?_
  refine fr_iload_n (pc := 7) d_FR_owner_7 rfl rfl ?_
  refine fr_callv_x (pc := 8) (nc := 0) (ns := 0) (N := m_FR_requireUser) (rest := []) (as := [.int y]) d_FR_owner_8 vc_FR_67 ⟨by decide, by decide, Nat.le_of_ble_eq_true rfl⟩ (Nat.le_of_ble_eq_true rfl) h0 (x_FR_requireUser h0 hy hb2) rfl ?_
  exact fx_out (by decide) ⟨rfl, hX, fs_Fr_id⟩
theorem p_FR_block_n1 {g : fw_G} {w : fw_W} {o gr a1 a2 a3 a4 na us n : Nat} {hu hg : Nat → Nat → Bool} {nd : fs_D} (hX : fs_X g (o, gr, a1, a2, a3, a4, na) (us, n, hu, hg, nd) w) {x : Int32} {b : Bool} (hx : ∀ k, x = nI k → nd k = none) : fw_R g m_FR_block (fs_P g (o, gr, a1, a2, a3, a4, na) w (.inr "java/util/NoSuchElementException") (us, n, hu, hg, nd)) 1 6 w 0 [(0, .ref o), (1, .int x), (2, .int (bI b))] [] := by
  obtain ⟨f1, f2, f3, f4, ad, lq, ld, lc, lt, hok, h0, hG, hR, hN, hr⟩ := fs_X_el hX
  have hb : n < 2 ^ 31 := by have := hok.2.2.1; omega
  have hb2 : us < 2 ^ 31 := by have := hok.2.1; omega
  refine fr_aload_n (pc := 0) d_FR_block_0 rfl rfl ?_
  refine fr_iload_n (pc := 1) d_FR_block_1 rfl rfl ?_
  refine fr_callv_x (pc := 2) (nc := 0) (ns := 0) (N := m_FR_nodeAt) (rest := []) (as := [.int x]) d_FR_block_2 vc_FR_63 ⟨by decide, by decide, Nat.le_of_ble_eq_true rfl⟩ (Nat.le_of_ble_eq_true rfl) h0 (x_FR_nodeAt h0 hN (fun k _ e => hr.1 k (hx k e))) rfl ?_
  exact fx_out (by decide) ⟨rfl, hX, fs_Fr_id⟩
theorem p_FR_block_eq {g : fw_G} {w : fw_W} {o gr a1 a2 a3 a4 na us n : Nat} {hu hg : Nat → Nat → Bool} {nd : fs_D} (hX : fs_X g (o, gr, a1, a2, a3, a4, na) (us, n, hu, hg, nd) w) {k : Nat} {N : fs_N} (hk : nd k = some N) {b : Bool} (hb3 : N.2.2.2.1 = b) : fw_R g m_FR_block (fs_P g (o, gr, a1, a2, a3, a4, na) w (.inl (some (.int (bI N.2.2.2.1)))) (us, n, hu, hg, nd)) 1 6 w 0 [(0, .ref o), (1, .int (nI k)), (2, .int (bI b))] [] := by
  obtain ⟨f1, f2, f3, f4, ad, lq, ld, lc, lt, hok, h0, hG, hR, hN, hr⟩ := fs_X_el hX
  have hb : n < 2 ^ 31 := by have := hok.2.2.1; omega
  have hb2 : us < 2 ^ 31 := by have := hok.2.1; omega
  obtain ⟨hk150, a, ha, hc, hl, hE⟩ := hr.2.1 k N hk
  obtain ⟨-, hk0, how, hlen, hes, hch, hdep⟩ := hok.2.2.2.2 k N hk
  refine fr_aload_n (pc := 0) d_FR_block_0 rfl rfl ?_
  refine fr_iload_n (pc := 1) d_FR_block_1 rfl rfl ?_
  refine fr_callv_p (pc := 2) (nc := 0) (ns := 0) (N := m_FR_nodeAt) (rest := []) (as := [.int (nI k)]) d_FR_block_2 vc_FR_63 ⟨by decide, by decide, Nat.le_of_ble_eq_true rfl⟩ (Nat.le_of_ble_eq_true rfl) h0 (c_FR_nodeAt h0 hN hk150 ha) rfl ?_
  refine fr_astore_n (pc := 5) (L2 := [(0, .ref o), (1, .int (nI k)), (2, .int (bI b)), (3, .ref a)]) d_FR_block_5 rfl (by decide) rfl ?_
  refine fr_aload_n (pc := 6) d_FR_block_6 rfl rfl ?_
  refine fr_get (pc := 7) (v := .int (bI N.2.2.2.1)) d_FR_block_7 fg_FR_153 hc rfl ?_
  refine fr_istore (pc := 10) (L2 := [(0, .ref o), (1, .int (nI k)), (2, .int (bI b)), (3, .ref a), (4, .int (bI N.2.2.2.1))]) d_FR_block_10 (by decide) rfl ?_
  refine fr_iload (pc := 12) d_FR_block_12 rfl ?_
  refine fr_iload_n (pc := 14) d_FR_block_14 rfl rfl ?_
  refine fr_icmp_eq (pc := 15) (tgt := 33) d_FR_block_15 (by decide) (fun q => ?_) (fun q => ?_)
  · refine fr_iload (pc := 33) d_FR_block_33 rfl ?_
    exact fr_zret rfl (by first | exact bI_01 _ | exact Or.inl rfl | exact Or.inr rfl) d_FR_block_35 ⟨rfl, hX, fs_Fr_id⟩
  · exact absurd (by rw [hb3]) q
theorem p_FR_block_ne {g : fw_G} {w : fw_W} {o gr a1 a2 a3 a4 na us n : Nat} {hu hg : Nat → Nat → Bool} {nd : fs_D} (hX : fs_X g (o, gr, a1, a2, a3, a4, na) (us, n, hu, hg, nd) w) {k : Nat} {N : fs_N} (hk : nd k = some N) {b : Bool} (hb3 : ¬ N.2.2.2.1 = b) : fw_R g m_FR_block (fs_P g (o, gr, a1, a2, a3, a4, na) w (.inl (some (.int (bI N.2.2.2.1)))) (us, n, hu, hg, (va_up (fs_mk (va_up nd k (some (N.1, N.2.1, N.2.2.1, b, N.2.2.2.2.1, N.2.2.2.2.2))) k 150) k (some (N.1, N.2.1, N.2.2.1, b, true, N.2.2.2.2.2))))) 1 6 w 0 [(0, .ref o), (1, .int (nI k)), (2, .int (bI b))] [] := by
  obtain ⟨f1, f2, f3, f4, ad, lq, ld, lc, lt, hok, h0, hG, hR, hN, hr⟩ := fs_X_el hX
  have hb : n < 2 ^ 31 := by have := hok.2.2.1; omega
  have hb2 : us < 2 ^ 31 := by have := hok.2.1; omega
  obtain ⟨hk150, a, ha, hc, hl, hE⟩ := hr.2.1 k N hk
  obtain ⟨-, hk0, how, hlen, hes, hch, hdep⟩ := hok.2.2.2.2 k N hk
  refine fr_aload_n (pc := 0) d_FR_block_0 rfl rfl ?_
  refine fr_iload_n (pc := 1) d_FR_block_1 rfl rfl ?_
  refine fr_callv_p (pc := 2) (nc := 0) (ns := 0) (N := m_FR_nodeAt) (rest := []) (as := [.int (nI k)]) d_FR_block_2 vc_FR_63 ⟨by decide, by decide, Nat.le_of_ble_eq_true rfl⟩ (Nat.le_of_ble_eq_true rfl) h0 (c_FR_nodeAt h0 hN hk150 ha) rfl ?_
  refine fr_astore_n (pc := 5) (L2 := [(0, .ref o), (1, .int (nI k)), (2, .int (bI b)), (3, .ref a)]) d_FR_block_5 rfl (by decide) rfl ?_
  refine fr_aload_n (pc := 6) d_FR_block_6 rfl rfl ?_
  refine fr_get (pc := 7) (v := .int (bI N.2.2.2.1)) d_FR_block_7 fg_FR_153 hc rfl ?_
  refine fr_istore (pc := 10) (L2 := [(0, .ref o), (1, .int (nI k)), (2, .int (bI b)), (3, .ref a), (4, .int (bI N.2.2.2.1))]) d_FR_block_10 (by decide) rfl ?_
  refine fr_iload (pc := 12) d_FR_block_12 rfl ?_
  refine fr_iload_n (pc := 14) d_FR_block_14 rfl rfl ?_
  refine fr_icmp_eq (pc := 15) (tgt := 33) d_FR_block_15 (by decide) (fun q => ?_) (fun q => ?_)
  · exact absurd (bI_inj.mp q) hb3
  · refine fr_aload_n (pc := 18) d_FR_block_18 rfl rfl ?_
    refine fr_iload_n (pc := 19) d_FR_block_19 rfl rfl ?_
    refine fr_put (pc := 20) (fs2 := fs_nc k (N.1, N.2.1, N.2.2.1, b, N.2.2.2.2.1, N.2.2.2.2.2) (lq k) (N.2.1.bind ad)) d_FR_block_20 fp_FR_block_153 hc (Nat.le_of_ble_eq_true rfl) (bI_nar _) (bI_fit _) rfl ?_
    have hF1 := fs_F2_up (x := .inr (2, fs_nc k (N.1, N.2.1, N.2.2.1, b, N.2.2.2.2.1, N.2.2.2.2.2) (lq k) (N.2.1.bind ad))) fs_F2_id hc
    have hr1 := fs_rN_put hr (N2 := (N.1, N.2.1, N.2.2.1, b, N.2.2.2.2.1, N.2.2.2.2.2)) hk ha rfl
    have hok1 := fs_ok_up hok (N2 := (N.1, N.2.1, N.2.2.1, b, N.2.2.2.2.1, N.2.2.2.2.2)) hk rfl how hlen hes
    refine fr_aload_n (pc := 23) d_FR_block_23 rfl rfl ?_
    refine fr_aload_n (pc := 24) d_FR_block_24 rfl rfl ?_
    refine fr_callV (pc := 25) (nc := 0) (ns := 0) (N := m_FR_markStaleBelow) (rest := []) (as := [.ref a]) d_FR_block_25 vc_FR_107 ⟨by decide, by decide, Nat.le_of_ble_eq_true rfl⟩ (Nat.le_of_ble_eq_true rfl) (fs_F2_3 hF1 _ h0 (fun fs z => by cases z)) (c_FR_mark (fs_F2_3 hF1 _ h0 (fun fs z => by cases z)) (fs_F2_3 hF1 _ hN (fun fs z => by cases z)) (fs_ok_ch hok1) vu_self ha hr1) rfl (fun v1 u h => ?_) (fun C u h => by obtain ⟨h1, -⟩ := h; cases h1)
    obtain ⟨h1, hr2, hF2⟩ := h
    cases h1
    have hm : fs_mk (va_up nd k (some (N.1, N.2.1, N.2.2.1, b, N.2.2.2.2.1, N.2.2.2.2.2))) k 150 k = some (N.1, N.2.1, N.2.2.1, b, N.2.2.2.2.1, N.2.2.2.2.2) := by simp [fs_mk, vu_self]
    obtain ⟨-, a9, ha9, hc9, -⟩ := hr2.2.1 k _ hm
    rw [ha] at ha9; cases ha9
    refine fr_aload_n (pc := 28) d_FR_block_28 rfl rfl ?_
    refine fr_iconst (pc := 29) (v := 1) d_FR_block_29 (by decide) ?_
    refine fr_put (pc := 30) (fs2 := fs_nc k (N.1, N.2.1, N.2.2.1, b, true, N.2.2.2.2.2) (lq k) (N.2.1.bind ad)) d_FR_block_30 fp_FR_block_110 hc9 (Nat.le_of_ble_eq_true rfl) rfl rfl rfl ?_
    refine fr_iload (pc := 33) d_FR_block_33 rfl ?_
    have hF3 := fs_F2_up2 (x := .inr (2, fs_nc k (N.1, N.2.1, N.2.2.1, b, true, N.2.2.2.2.2) (lq k) (N.2.1.bind ad))) (fs_F2_trans hF1 hF2) hc9
    exact fr_zret rfl (by first | exact bI_01 _ | exact Or.inl rfl | exact Or.inr rfl) d_FR_block_35 ⟨rfl, fs_X_F2 (fs_ok_up (fs_ok_mk hok1) (N2 := (N.1, N.2.1, N.2.2.1, b, true, N.2.2.2.2.2)) hm rfl how hlen hes) h0 hG hR hN hF3 (fs_rN_put hr2 (N2 := (N.1, N.2.1, N.2.2.1, b, true, N.2.2.2.2.2)) hm ha rfl), fs_F2_Fr hF3⟩

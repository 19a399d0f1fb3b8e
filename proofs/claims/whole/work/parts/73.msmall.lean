theorem fi_m1 {k : Nat} (h : 1 ≤ k) : nI k + Int32.ofInt (-1) = nI (k - 1) := by
  rw [← ni_sub h]
  show nI k + -(nI 1) = _
  exact (Int32.sub_eq_add_neg _ _).symm
def fm_S (us n : Nat) (hu hg : Nat → Nat → Bool) (nd : fs_D) : Prop := fs_ok us n nd ∧ (∀ i u, hu i u = true → i < n ∧ u < us) ∧ (∀ i k, hg i k = true → i < n ∧ k < n)
theorem fm_S_of {g : fw_G} {o gr a1 a2 a3 a4 na us n : Nat} {hu hg : Nat → Nat → Bool} {nd : fs_D} {w : fw_W} (hX : fs_X g (o, gr, a1, a2, a3, a4, na) (us, n, hu, hg, nd) w) : fm_S us n hu hg nd := by
  obtain ⟨f1, f2, f3, f4, ad, lq, ld, lc, lt, hok, h0, hG, hR, hN, hr⟩ := fs_X_el hX
  exact ⟨hok, hR.2.2.2.2.1, hR.2.2.2.2.2.1⟩
def fm_P (g : fw_G) (w0 : fw_W) (mo : Nat) (ar : Nat → Nat) (v : Value) (th : Int32) (S : fs_S) : fw_O → fw_W → Prop := fun r u => r = .inl (some v) ∧ ∃ so pl po F2, u = fm_W g w0 mo ar (th, S.1, S.2.1, so, pl, po) F2 ∧ fm_c S.1 S.2.1 S.2.2.1 S.2.2.2.1 S.2.2.2.2 F2
theorem fm_k {us n : Nat} {nd : fs_D} (hok : fs_ok us n nd) {k : Nat} {N : fs_N} (hk : nd k = some N) : k < 150 := (hok.2.2.2.2 k N hk).1
theorem fm_th {us n : Nat} {hu hg : Nat → Nat → Bool} {nd : fs_D} {F : fm_F} (hc : fm_c us n hu hg nd F) (hok : fs_ok us n nd) {k : Nat} {N : fs_N} (hk : nd k = some N) : F 4 k = 1 := by
  rw [hc.2.2.2.1 k (fm_k hok hk), hk]; rfl
theorem fm_nt {us n : Nat} {hu hg : Nat → Nat → Bool} {nd : fs_D} {F : fm_F} (hc : fm_c us n hu hg nd F) {k : Nat} (hk : k < 150) (h : nd k = none) : F 4 k = 0 := by
  rw [hc.2.2.2.1 k hk, h]; rfl
theorem fm_sl_at {nd : fs_D} {k : Nat} {N : fs_N} (hk : nd k = some N) : fm_sl nd k = N.2.2.2.2.1 := by simp [fm_sl, hk]
theorem fm_sl_no {nd : fs_D} {k : Nat} (hk : nd k = none) : fm_sl nd k = false := by simp [fm_sl, hk]
theorem fs_ov_some {p : Nat} : fs_ov (some p) = nI p := rfl
theorem fs_ov_none : fs_ov none = -1 := rfl
theorem c_MO_thrown {g : fw_G} {nc ns : Nat} {w0 : fw_W} {mo : Nat} {ar : Nat → Nat} (hA : fm_ad mo ar) {th so pl po : Int32} {us n : Nat} {F : fm_F}  : fw_R g m_MO_thrown (fw_pv (.int th) (fm_W g w0 mo ar (th, us, n, so, pl, po) F)) nc ns (fm_W g w0 mo ar (th, us, n, so, pl, po) F) 0 [(0, .ref mo)] [] := by
  refine fr_aload_n (pc := 0) d_MO_thrown_0 rfl rfl ?_
  refine fr_get (pc := 1) (v := .int th) d_MO_thrown_1 fg_MO_63 fm_mo rfl ?_
  exact fr_iret rfl d_MO_thrown_4 ⟨rfl, rfl⟩
theorem c_MO_goes0 {g : fw_G} {nc ns : Nat} {w0 : fw_W} {mo : Nat} {ar : Nat → Nat} (hA : fm_ad mo ar) {th so pl po : Int32} {us n : Nat} {F : fm_F}  : fw_R g m_MO_goes (fw_pv (.int 1) (fm_W g w0 mo ar (0, us, n, so, pl, po) F)) nc ns (fm_W g w0 mo ar (th, us, n, so, pl, po) F) 0 [(0, .ref mo), (1, .int 1), (2, .int 1), (3, .int 1)] [] := by
  refine fr_aload_n (pc := 0) d_MO_goes_0 rfl rfl ?_
  refine fr_iload_n (pc := 1) d_MO_goes_1 rfl rfl ?_
  refine fr_if_ne (pc := 2) (tgt := 9) d_MO_goes_2 (by decide) (fun _ => ?_) (fun q => absurd q (by decide))
  refine fr_iload_n (pc := 9) d_MO_goes_9 rfl rfl ?_
  refine fr_if_ne (pc := 10) (tgt := 17) d_MO_goes_10 (by decide) (fun _ => ?_) (fun q => absurd q (by decide))
  refine fr_iload_n (pc := 17) d_MO_goes_17 rfl rfl ?_
  refine fr_if_ne (pc := 18) (tgt := 25) d_MO_goes_18 (by decide) (fun _ => ?_) (fun q => absurd q (by decide))
  refine fr_iconst (pc := 25) (v := 0) d_MO_goes_25 (by decide) ?_
  refine fr_mput (pc := 26) (0, us, n, so, pl, po) d_MO_goes_26 fp_MO_goes_63 (by decide) rfl rfl rfl ?_
  refine fr_aload_n (pc := 29) d_MO_goes_29 rfl rfl ?_
  refine fr_get (pc := 30) (v := .int 0) d_MO_goes_30 fg_MO_63 fm_mo rfl ?_
  refine fr_if_ne (pc := 33) (tgt := 40) d_MO_goes_33 (by decide) (fun q => absurd q (by decide)) (fun _ => ?_)
  refine fr_iconst (pc := 36) (v := 1) d_MO_goes_36 (by decide) ?_
  refine fr_goto (pc := 37) (tgt := 41) d_MO_goes_37 (by decide) ?_
  exact fr_zret rfl (by first | exact bI_01 _ | exact Or.inl rfl | exact Or.inr rfl) d_MO_goes_41 ⟨rfl, rfl⟩
theorem c_MO_goes1 {g : fw_G} {nc ns : Nat} {w0 : fw_W} {mo : Nat} {ar : Nat → Nat} (hA : fm_ad mo ar) {th so pl po : Int32} {us n : Nat} {F : fm_F} {y z : Int32} : fw_R g m_MO_goes (fw_pv (.int 0) (fm_W g w0 mo ar (1, us, n, so, pl, po) F)) nc ns (fm_W g w0 mo ar (th, us, n, so, pl, po) F) 0 [(0, .ref mo), (1, .int 0), (2, .int y), (3, .int z)] [] := by
  refine fr_aload_n (pc := 0) d_MO_goes_0 rfl rfl ?_
  refine fr_iload_n (pc := 1) d_MO_goes_1 rfl rfl ?_
  refine fr_if_ne (pc := 2) (tgt := 9) d_MO_goes_2 (by decide) (fun q => absurd q (by decide)) (fun _ => ?_)
  refine fr_iconst (pc := 5) (v := 1) d_MO_goes_5 (by decide) ?_
  refine fr_goto (pc := 6) (tgt := 26) d_MO_goes_6 (by decide) ?_
  refine fr_mput (pc := 26) (1, us, n, so, pl, po) d_MO_goes_26 fp_MO_goes_63 (by decide) rfl rfl rfl ?_
  refine fr_aload_n (pc := 29) d_MO_goes_29 rfl rfl ?_
  refine fr_get (pc := 30) (v := .int 1) d_MO_goes_30 fg_MO_63 fm_mo rfl ?_
  refine fr_if_ne (pc := 33) (tgt := 40) d_MO_goes_33 (by decide) (fun _ => ?_) (fun q => absurd q (by decide))
  refine fr_iconst (pc := 40) (v := 0) d_MO_goes_40 (by decide) ?_
  exact fr_zret rfl (by first | exact bI_01 _ | exact Or.inl rfl | exact Or.inr rfl) d_MO_goes_41 ⟨rfl, rfl⟩
theorem c_MO_goes2 {g : fw_G} {nc ns : Nat} {w0 : fw_W} {mo : Nat} {ar : Nat → Nat} (hA : fm_ad mo ar) {th so pl po : Int32} {us n : Nat} {F : fm_F} {z : Int32} : fw_R g m_MO_goes (fw_pv (.int 0) (fm_W g w0 mo ar (2, us, n, so, pl, po) F)) nc ns (fm_W g w0 mo ar (th, us, n, so, pl, po) F) 0 [(0, .ref mo), (1, .int 1), (2, .int 0), (3, .int z)] [] := by
  refine fr_aload_n (pc := 0) d_MO_goes_0 rfl rfl ?_
  refine fr_iload_n (pc := 1) d_MO_goes_1 rfl rfl ?_
  refine fr_if_ne (pc := 2) (tgt := 9) d_MO_goes_2 (by decide) (fun _ => ?_) (fun q => absurd q (by decide))
  refine fr_iload_n (pc := 9) d_MO_goes_9 rfl rfl ?_
  refine fr_if_ne (pc := 10) (tgt := 17) d_MO_goes_10 (by decide) (fun q => absurd q (by decide)) (fun _ => ?_)
  refine fr_iconst (pc := 13) (v := 2) d_MO_goes_13 (by decide) ?_
  refine fr_goto (pc := 14) (tgt := 26) d_MO_goes_14 (by decide) ?_
  refine fr_mput (pc := 26) (2, us, n, so, pl, po) d_MO_goes_26 fp_MO_goes_63 (by decide) rfl rfl rfl ?_
  refine fr_aload_n (pc := 29) d_MO_goes_29 rfl rfl ?_
  refine fr_get (pc := 30) (v := .int 2) d_MO_goes_30 fg_MO_63 fm_mo rfl ?_
  refine fr_if_ne (pc := 33) (tgt := 40) d_MO_goes_33 (by decide) (fun _ => ?_) (fun q => absurd q (by decide))
  refine fr_iconst (pc := 40) (v := 0) d_MO_goes_40 (by decide) ?_
  exact fr_zret rfl (by first | exact bI_01 _ | exact Or.inl rfl | exact Or.inr rfl) d_MO_goes_41 ⟨rfl, rfl⟩
theorem c_MO_goes3 {g : fw_G} {nc ns : Nat} {w0 : fw_W} {mo : Nat} {ar : Nat → Nat} (hA : fm_ad mo ar) {th so pl po : Int32} {us n : Nat} {F : fm_F}  : fw_R g m_MO_goes (fw_pv (.int 0) (fm_W g w0 mo ar (3, us, n, so, pl, po) F)) nc ns (fm_W g w0 mo ar (th, us, n, so, pl, po) F) 0 [(0, .ref mo), (1, .int 1), (2, .int 1), (3, .int 0)] [] := by
  refine fr_aload_n (pc := 0) d_MO_goes_0 rfl rfl ?_
  refine fr_iload_n (pc := 1) d_MO_goes_1 rfl rfl ?_
  refine fr_if_ne (pc := 2) (tgt := 9) d_MO_goes_2 (by decide) (fun _ => ?_) (fun q => absurd q (by decide))
  refine fr_iload_n (pc := 9) d_MO_goes_9 rfl rfl ?_
  refine fr_if_ne (pc := 10) (tgt := 17) d_MO_goes_10 (by decide) (fun _ => ?_) (fun q => absurd q (by decide))
  refine fr_iload_n (pc := 17) d_MO_goes_17 rfl rfl ?_
  refine fr_if_ne (pc := 18) (tgt := 25) d_MO_goes_18 (by decide) (fun q => absurd q (by decide)) (fun _ => ?_)
  refine fr_iconst (pc := 21) (v := 3) d_MO_goes_21 (by decide) ?_
  refine fr_goto (pc := 22) (tgt := 26) d_MO_goes_22 (by decide) ?_
  refine fr_mput (pc := 26) (3, us, n, so, pl, po) d_MO_goes_26 fp_MO_goes_63 (by decide) rfl rfl rfl ?_
  refine fr_aload_n (pc := 29) d_MO_goes_29 rfl rfl ?_
  refine fr_get (pc := 30) (v := .int 3) d_MO_goes_30 fg_MO_63 fm_mo rfl ?_
  refine fr_if_ne (pc := 33) (tgt := 40) d_MO_goes_33 (by decide) (fun _ => ?_) (fun q => absurd q (by decide))
  refine fr_iconst (pc := 40) (v := 0) d_MO_goes_40 (by decide) ?_
  exact fr_zret rfl (by first | exact bI_01 _ | exact Or.inl rfl | exact Or.inr rfl) d_MO_goes_41 ⟨rfl, rfl⟩
theorem c_MO_within_y {g : fw_G} {nc ns : Nat} {w : fw_W} {v lo hi : Int32} (h1 : lo ≤ v) (h2 : v ≤ hi) : fw_R g m_MO_within (fw_pv (.int 1) w) nc ns w 0 [(0, .int v), (1, .int lo), (2, .int hi)] [] := by
  refine fr_iload_n (pc := 0) d_MO_within_0 rfl rfl ?_
  refine fr_iload_n (pc := 1) d_MO_within_1 rfl rfl ?_
  refine fr_icmp_lt (pc := 2) (tgt := 14) d_MO_within_2 (by decide) (fun q => absurd q (Int32.not_lt.mpr h1)) (fun _ => ?_)
  refine fr_iload_n (pc := 5) d_MO_within_5 rfl rfl ?_
  refine fr_iload_n (pc := 6) d_MO_within_6 rfl rfl ?_
  refine fr_icmp_gt (pc := 7) (tgt := 14) d_MO_within_7 (by decide) (fun q => absurd q (Int32.not_lt.mpr h2)) (fun _ => ?_)
  refine fr_iconst (pc := 10) (v := 1) d_MO_within_10 (by decide) ?_
  refine fr_goto (pc := 11) (tgt := 15) d_MO_within_11 (by decide) ?_
  exact fr_zret rfl (by first | exact bI_01 _ | exact Or.inl rfl | exact Or.inr rfl) d_MO_within_15 ⟨rfl, rfl⟩
theorem c_MO_within_n {g : fw_G} {nc ns : Nat} {w : fw_W} {v lo hi : Int32} (h : ¬ (lo ≤ v ∧ v ≤ hi)) : fw_R g m_MO_within (fw_pv (.int 0) w) nc ns w 0 [(0, .int v), (1, .int lo), (2, .int hi)] [] := by
  refine fr_iload_n (pc := 0) d_MO_within_0 rfl rfl ?_
  refine fr_iload_n (pc := 1) d_MO_within_1 rfl rfl ?_
  refine fr_icmp_lt (pc := 2) (tgt := 14) d_MO_within_2 (by decide) (fun q1 => ?_) (fun q1 => ?_)
  · refine fr_iconst (pc := 14) (v := 0) d_MO_within_14 (by decide) ?_
    exact fr_zret rfl (by first | exact bI_01 _ | exact Or.inl rfl | exact Or.inr rfl) d_MO_within_15 ⟨rfl, rfl⟩
  · refine fr_iload_n (pc := 5) d_MO_within_5 rfl rfl ?_
    refine fr_iload_n (pc := 6) d_MO_within_6 rfl rfl ?_
    refine fr_icmp_gt (pc := 7) (tgt := 14) d_MO_within_7 (by decide) (fun q2 => ?_) (fun q2 => ?_)
    · refine fr_iconst (pc := 14) (v := 0) d_MO_within_14 (by decide) ?_
      exact fr_zret rfl (by first | exact bI_01 _ | exact Or.inl rfl | exact Or.inr rfl) d_MO_within_15 ⟨rfl, rfl⟩
    · exact absurd ⟨Int32.not_lt.mp q1, Int32.not_lt.mp q2⟩ h
theorem c_MO_within {g : fw_G} {nc ns : Nat} {w : fw_W} {v lo hi : Int32} : fw_R g m_MO_within (fw_pv (.int (bI (decide (lo ≤ v ∧ v ≤ hi)))) w) nc ns w 0 [(0, .int v), (1, .int lo), (2, .int hi)] [] := by
  by_cases h : lo ≤ v ∧ v ≤ hi
  · rw [decide_eq_true h]; exact c_MO_within_y h.1 h.2
  · rw [decide_eq_false h]; exact c_MO_within_n h
theorem c_MO_isUser_y {g : fw_G} {nc ns : Nat} {w0 : fw_W} {mo : Nat} {ar : Nat → Nat} (hA : fm_ad mo ar) {th so pl po : Int32} {us n : Nat} {F : fm_F} {u : Nat} (hu : u < us) (hb : us < 2 ^ 31) : fw_R g m_MO_isUser (fw_pv (.int 1) (fm_W g w0 mo ar (th, us, n, so, pl, po) F)) nc ns (fm_W g w0 mo ar (th, us, n, so, pl, po) F) 0 [(0, .ref mo), (1, .int (nI u))] [] := by
  refine fr_iload_n (pc := 0) d_MO_isUser_0 rfl rfl ?_
  refine fr_if_lt (pc := 1) (tgt := 16) d_MO_isUser_1 (by decide) (fun q => absurd q (ix_nn (by omega))) (fun _ => ?_)
  refine fr_iload_n (pc := 4) d_MO_isUser_4 rfl rfl ?_
  refine fr_aload_n (pc := 5) d_MO_isUser_5 rfl rfl ?_
  refine fr_get (pc := 6) (v := .int (nI us)) d_MO_isUser_6 fg_MO_7 fm_mo rfl ?_
  refine fr_icmp_geN (pc := 9) (tgt := 16) (a := u) (b := us) d_MO_isUser_9 (by decide) (by omega) (by omega) (fun q => absurd q (by omega)) (fun _ => ?_)
  refine fr_iconst (pc := 12) (v := 1) d_MO_isUser_12 (by decide) ?_
  refine fr_goto (pc := 13) (tgt := 17) d_MO_isUser_13 (by decide) ?_
  exact fr_zret rfl (by first | exact bI_01 _ | exact Or.inl rfl | exact Or.inr rfl) d_MO_isUser_17 ⟨rfl, rfl⟩
theorem c_MO_isUser_n {g : fw_G} {nc ns : Nat} {w0 : fw_W} {mo : Nat} {ar : Nat → Nat} (hA : fm_ad mo ar) {th so pl po : Int32} {us n : Nat} {F : fm_F} {x : Int32} (hx : fs_no2 x us) (hb : us < 2 ^ 31) : fw_R g m_MO_isUser (fw_pv (.int 0) (fm_W g w0 mo ar (th, us, n, so, pl, po) F)) nc ns (fm_W g w0 mo ar (th, us, n, so, pl, po) F) 0 [(0, .ref mo), (1, .int x)] [] := by
  refine fr_iload_n (pc := 0) d_MO_isUser_0 rfl rfl ?_
  refine fr_if_lt (pc := 1) (tgt := 16) d_MO_isUser_1 (by decide) (fun q1 => ?_) (fun q1 => ?_)
  · refine fr_iconst (pc := 16) (v := 0) d_MO_isUser_16 (by decide) ?_
    exact fr_zret rfl (by first | exact bI_01 _ | exact Or.inl rfl | exact Or.inr rfl) d_MO_isUser_17 ⟨rfl, rfl⟩
  · refine fr_iload_n (pc := 4) d_MO_isUser_4 rfl rfl ?_
    refine fr_aload_n (pc := 5) d_MO_isUser_5 rfl rfl ?_
    refine fr_get (pc := 6) (v := .int (nI us)) d_MO_isUser_6 fg_MO_7 fm_mo rfl ?_
    refine fr_icmp_ge (pc := 9) (tgt := 16) d_MO_isUser_9 (by decide) (fun q2 => ?_) (fun q2 => ?_)
    · refine fr_iconst (pc := 16) (v := 0) d_MO_isUser_16 (by decide) ?_
      exact fr_zret rfl (by first | exact bI_01 _ | exact Or.inl rfl | exact Or.inr rfl) d_MO_isUser_17 ⟨rfl, rfl⟩
    · obtain ⟨k, hk, e⟩ := ix_le hb q1 (fun z => q2 z)
      exact absurd e (hx k hk)
theorem c_MO_isGroup_y {g : fw_G} {nc ns : Nat} {w0 : fw_W} {mo : Nat} {ar : Nat → Nat} (hA : fm_ad mo ar) {th so pl po : Int32} {us n : Nat} {F : fm_F} {u : Nat} (hu : u < n) (hb : n < 2 ^ 31) : fw_R g m_MO_isGroup (fw_pv (.int 1) (fm_W g w0 mo ar (th, us, n, so, pl, po) F)) nc ns (fm_W g w0 mo ar (th, us, n, so, pl, po) F) 0 [(0, .ref mo), (1, .int (nI u))] [] := by
  refine fr_iload_n (pc := 0) d_MO_isGroup_0 rfl rfl ?_
  refine fr_if_lt (pc := 1) (tgt := 16) d_MO_isGroup_1 (by decide) (fun q => absurd q (ix_nn (by omega))) (fun _ => ?_)
  refine fr_iload_n (pc := 4) d_MO_isGroup_4 rfl rfl ?_
  refine fr_aload_n (pc := 5) d_MO_isGroup_5 rfl rfl ?_
  refine fr_get (pc := 6) (v := .int (nI n)) d_MO_isGroup_6 fg_MO_66 fm_mo rfl ?_
  refine fr_icmp_geN (pc := 9) (tgt := 16) (a := u) (b := n) d_MO_isGroup_9 (by decide) (by omega) (by omega) (fun q => absurd q (by omega)) (fun _ => ?_)
  refine fr_iconst (pc := 12) (v := 1) d_MO_isGroup_12 (by decide) ?_
  refine fr_goto (pc := 13) (tgt := 17) d_MO_isGroup_13 (by decide) ?_
  exact fr_zret rfl (by first | exact bI_01 _ | exact Or.inl rfl | exact Or.inr rfl) d_MO_isGroup_17 ⟨rfl, rfl⟩
theorem c_MO_isGroup_n {g : fw_G} {nc ns : Nat} {w0 : fw_W} {mo : Nat} {ar : Nat → Nat} (hA : fm_ad mo ar) {th so pl po : Int32} {us n : Nat} {F : fm_F} {x : Int32} (hx : fs_no2 x n) (hb : n < 2 ^ 31) : fw_R g m_MO_isGroup (fw_pv (.int 0) (fm_W g w0 mo ar (th, us, n, so, pl, po) F)) nc ns (fm_W g w0 mo ar (th, us, n, so, pl, po) F) 0 [(0, .ref mo), (1, .int x)] [] := by
  refine fr_iload_n (pc := 0) d_MO_isGroup_0 rfl rfl ?_
  refine fr_if_lt (pc := 1) (tgt := 16) d_MO_isGroup_1 (by decide) (fun q1 => ?_) (fun q1 => ?_)
  · refine fr_iconst (pc := 16) (v := 0) d_MO_isGroup_16 (by decide) ?_
    exact fr_zret rfl (by first | exact bI_01 _ | exact Or.inl rfl | exact Or.inr rfl) d_MO_isGroup_17 ⟨rfl, rfl⟩
  · refine fr_iload_n (pc := 4) d_MO_isGroup_4 rfl rfl ?_
    refine fr_aload_n (pc := 5) d_MO_isGroup_5 rfl rfl ?_
    refine fr_get (pc := 6) (v := .int (nI n)) d_MO_isGroup_6 fg_MO_66 fm_mo rfl ?_
    refine fr_icmp_ge (pc := 9) (tgt := 16) d_MO_isGroup_9 (by decide) (fun q2 => ?_) (fun q2 => ?_)
    · refine fr_iconst (pc := 16) (v := 0) d_MO_isGroup_16 (by decide) ?_
      exact fr_zret rfl (by first | exact bI_01 _ | exact Or.inl rfl | exact Or.inr rfl) d_MO_isGroup_17 ⟨rfl, rfl⟩
    · obtain ⟨k, hk, e⟩ := ix_le hb q1 (fun z => q2 z)
      exact absurd e (hx k hk)
theorem c_MO_isNode_y {g : fw_G} {nc ns : Nat} {w0 : fw_W} {mo : Nat} {ar : Nat → Nat} (hA : fm_ad mo ar) {th so pl po : Int32} {us n : Nat} {F : fm_F} {k : Nat} (hk : k < 150) (h : F 4 k = 1) : fw_R g m_MO_isNode (fw_pv (.int 1) (fm_W g w0 mo ar (th, us, n, so, pl, po) F)) nc ns (fm_W g w0 mo ar (th, us, n, so, pl, po) F) 0 [(0, .ref mo), (1, .int (nI k))] [] := by
  refine fr_iload_n (pc := 0) d_MO_isNode_0 rfl rfl ?_
  refine fr_if_lt (pc := 1) (tgt := 24) d_MO_isNode_1 (by decide) (fun q => absurd q (ix_nn (by omega))) (fun _ => ?_)
  refine fr_iload_n (pc := 4) d_MO_isNode_4 rfl rfl ?_
  refine fr_sipush (pc := 5) (v := 150) d_MO_isNode_5 (by decide) ?_
  refine fr_icmp_geN (pc := 8) (tgt := 24) (a := k) (b := 150) d_MO_isNode_8 (by decide) (by omega) (by omega) (fun q => absurd q (by omega)) (fun _ => ?_)
  refine fr_aload_n (pc := 11) d_MO_isNode_11 rfl rfl ?_
  refine fr_get (pc := 12) (v := .ref (ar 4)) d_MO_isNode_12 fg_MO_26 fm_mo rfl ?_
  refine fr_iload_n (pc := 15) d_MO_isNode_15 rfl rfl ?_
  refine fr_mzld (pc := 16) (j := 4) (k := k) d_MO_isNode_16 hA (by decide) rfl (by show k < 150; omega) ?_
  refine fr_st (st2 := [.int 1]) (by rw [h]) ?_
  refine fr_if_eq (pc := 17) (tgt := 24) d_MO_isNode_17 (by decide) (fun q => absurd q (by decide)) (fun _ => ?_)
  refine fr_iconst (pc := 20) (v := 1) d_MO_isNode_20 (by decide) ?_
  refine fr_goto (pc := 21) (tgt := 25) d_MO_isNode_21 (by decide) ?_
  exact fr_zret rfl (by first | exact bI_01 _ | exact Or.inl rfl | exact Or.inr rfl) d_MO_isNode_25 ⟨rfl, rfl⟩
theorem c_MO_isNode_n {g : fw_G} {nc ns : Nat} {w0 : fw_W} {mo : Nat} {ar : Nat → Nat} (hA : fm_ad mo ar) {th so pl po : Int32} {us n : Nat} {F : fm_F} {x : Int32} (hx : ∀ k, k < 150 → x = nI k → F 4 k = 0) : fw_R g m_MO_isNode (fw_pv (.int 0) (fm_W g w0 mo ar (th, us, n, so, pl, po) F)) nc ns (fm_W g w0 mo ar (th, us, n, so, pl, po) F) 0 [(0, .ref mo), (1, .int x)] [] := by
  refine fr_iload_n (pc := 0) d_MO_isNode_0 rfl rfl ?_
  refine fr_if_lt (pc := 1) (tgt := 24) d_MO_isNode_1 (by decide) (fun q1 => ?_) (fun q1 => ?_)
  · refine fr_iconst (pc := 24) (v := 0) d_MO_isNode_24 (by decide) ?_
    exact fr_zret rfl (by first | exact bI_01 _ | exact Or.inl rfl | exact Or.inr rfl) d_MO_isNode_25 ⟨rfl, rfl⟩
  · refine fr_iload_n (pc := 4) d_MO_isNode_4 rfl rfl ?_
    refine fr_sipush (pc := 5) (v := 150) d_MO_isNode_5 (by decide) ?_
    refine fr_icmp_ge (pc := 8) (tgt := 24) d_MO_isNode_8 (by decide) (fun q2 => ?_) (fun q2 => ?_)
    · refine fr_iconst (pc := 24) (v := 0) d_MO_isNode_24 (by decide) ?_
      exact fr_zret rfl (by first | exact bI_01 _ | exact Or.inl rfl | exact Or.inr rfl) d_MO_isNode_25 ⟨rfl, rfl⟩
    · obtain ⟨k, hk, e⟩ := ix_le (n := 150) (by omega) q1 (fun z => q2 z)
      have h0 := hx k hk e
      subst e
      refine fr_aload_n (pc := 11) d_MO_isNode_11 rfl rfl ?_
      refine fr_get (pc := 12) (v := .ref (ar 4)) d_MO_isNode_12 fg_MO_26 fm_mo rfl ?_
      refine fr_iload_n (pc := 15) d_MO_isNode_15 rfl rfl ?_
      refine fr_mzld (pc := 16) (j := 4) (k := k) d_MO_isNode_16 hA (by decide) rfl (by show k < 150; omega) ?_
      refine fr_st (st2 := [.int 0]) (by rw [h0]) ?_
      refine fr_if_eq (pc := 17) (tgt := 24) d_MO_isNode_17 (by decide) (fun _ => ?_) (fun q => absurd q (by decide))
      refine fr_iconst (pc := 24) (v := 0) d_MO_isNode_24 (by decide) ?_
      exact fr_zret rfl (by first | exact bI_01 _ | exact Or.inl rfl | exact Or.inr rfl) d_MO_isNode_25 ⟨rfl, rfl⟩
theorem c_MO_isMember_y {g : fw_G} {nc ns : Nat} {w0 : fw_W} {mo : Nat} {ar : Nat → Nat} (hA : fm_ad mo ar) {th so pl po : Int32} {us n : Nat} {F : fm_F} {b : Bool} {u : Nat} (hu : u < (if b then n else us)) (hb : n < 2 ^ 31) (hb2 : us < 2 ^ 31) : fw_R g m_MO_isMember (fw_pv (.int 1) (fm_W g w0 mo ar (th, us, n, so, pl, po) F)) nc ns (fm_W g w0 mo ar (th, us, n, so, pl, po) F) 0 [(0, .ref mo), (1, .int (nI u)), (2, .int (bI b))] [] := by
  cases b
  · refine fr_iload_n (pc := 0) d_MO_isMember_0 rfl rfl ?_
    refine fr_if_eq (pc := 1) (tgt := 12) d_MO_isMember_1 (by decide) (fun _ => ?_) (fun q => absurd q (by decide))
    refine fr_aload_n (pc := 12) d_MO_isMember_12 rfl rfl ?_
    refine fr_iload_n (pc := 13) d_MO_isMember_13 rfl rfl ?_
    refine fr_callv_p (pc := 14) (nc := nc) (ns := ns) (N := m_MO_isUser) (rest := []) (as := [.int (nI u)]) d_MO_isMember_14 vc_MO_77 ⟨by decide, by decide, Nat.le_of_ble_eq_true rfl⟩ (Nat.le_of_ble_eq_true rfl) fm_mo (c_MO_isUser_y hA hu hb2) rfl ?_
    exact fr_zret rfl (by first | exact bI_01 _ | exact Or.inl rfl | exact Or.inr rfl) d_MO_isMember_17 ⟨rfl, rfl⟩
  · refine fr_iload_n (pc := 0) d_MO_isMember_0 rfl rfl ?_
    refine fr_if_eq (pc := 1) (tgt := 12) d_MO_isMember_1 (by decide) (fun q => absurd q (by decide)) (fun _ => ?_)
    refine fr_aload_n (pc := 4) d_MO_isMember_4 rfl rfl ?_
    refine fr_iload_n (pc := 5) d_MO_isMember_5 rfl rfl ?_
    refine fr_callv_p (pc := 6) (nc := nc) (ns := ns) (N := m_MO_isGroup) (rest := []) (as := [.int (nI u)]) d_MO_isMember_6 vc_MO_73 ⟨by decide, by decide, Nat.le_of_ble_eq_true rfl⟩ (Nat.le_of_ble_eq_true rfl) fm_mo (c_MO_isGroup_y hA hu hb) rfl ?_
    refine fr_goto (pc := 9) (tgt := 17) d_MO_isMember_9 (by decide) ?_
    exact fr_zret rfl (by first | exact bI_01 _ | exact Or.inl rfl | exact Or.inr rfl) d_MO_isMember_17 ⟨rfl, rfl⟩
theorem c_MO_isMember_n {g : fw_G} {nc ns : Nat} {w0 : fw_W} {mo : Nat} {ar : Nat → Nat} (hA : fm_ad mo ar) {th so pl po : Int32} {us n : Nat} {F : fm_F} {b : Bool} {x : Int32} (hu : fs_no2 x (if b then n else us)) (hb : n < 2 ^ 31) (hb2 : us < 2 ^ 31) : fw_R g m_MO_isMember (fw_pv (.int 0) (fm_W g w0 mo ar (th, us, n, so, pl, po) F)) nc ns (fm_W g w0 mo ar (th, us, n, so, pl, po) F) 0 [(0, .ref mo), (1, .int x), (2, .int (bI b))] [] := by
  cases b
  · refine fr_iload_n (pc := 0) d_MO_isMember_0 rfl rfl ?_
    refine fr_if_eq (pc := 1) (tgt := 12) d_MO_isMember_1 (by decide) (fun _ => ?_) (fun q => absurd q (by decide))
    refine fr_aload_n (pc := 12) d_MO_isMember_12 rfl rfl ?_
    refine fr_iload_n (pc := 13) d_MO_isMember_13 rfl rfl ?_
    refine fr_callv_p (pc := 14) (nc := nc) (ns := ns) (N := m_MO_isUser) (rest := []) (as := [.int x]) d_MO_isMember_14 vc_MO_77 ⟨by decide, by decide, Nat.le_of_ble_eq_true rfl⟩ (Nat.le_of_ble_eq_true rfl) fm_mo (c_MO_isUser_n hA hu hb2) rfl ?_
    exact fr_zret rfl (by first | exact bI_01 _ | exact Or.inl rfl | exact Or.inr rfl) d_MO_isMember_17 ⟨rfl, rfl⟩
  · refine fr_iload_n (pc := 0) d_MO_isMember_0 rfl rfl ?_
    refine fr_if_eq (pc := 1) (tgt := 12) d_MO_isMember_1 (by decide) (fun q => absurd q (by decide)) (fun _ => ?_)
    refine fr_aload_n (pc := 4) d_MO_isMember_4 rfl rfl ?_
    refine fr_iload_n (pc := 5) d_MO_isMember_5 rfl rfl ?_
    refine fr_callv_p (pc := 6) (nc := nc) (ns := ns) (N := m_MO_isGroup) (rest := []) (as := [.int x]) d_MO_isMember_6 vc_MO_73 ⟨by decide, by decide, Nat.le_of_ble_eq_true rfl⟩ (Nat.le_of_ble_eq_true rfl) fm_mo (c_MO_isGroup_n hA hu hb) rfl ?_
    refine fr_goto (pc := 9) (tgt := 17) d_MO_isMember_9 (by decide) ?_
    exact fr_zret rfl (by first | exact bI_01 _ | exact Or.inl rfl | exact Or.inr rfl) d_MO_isMember_17 ⟨rfl, rfl⟩
def fm_p (nd : fs_D) (F : fm_F) : Prop := ∀ k N, nd k = some N → k < 150 ∧ F 8 k = fs_ov N.2.1
theorem fm_p_c {us n : Nat} {hu hg : Nat → Nat → Bool} {nd : fs_D} {F : fm_F} (hc : fm_c us n hu hg nd F) (hok : fs_ok us n nd) : fm_p nd F := fun k N hk => ⟨fm_k hok hk, (hc.2.2.2.2.2.1 k N hk).2.2.1⟩
theorem c_MO_depth_l {g : fw_G} {nc ns : Nat} {w0 : fw_W} {mo : Nat} {ar : Nat → Nat} (hA : fm_ad mo ar) {th so pl po : Int32} {us n : Nat} {F : fm_F} {nd : fs_D} (hp : fm_p nd F) {x : Int32} : ∀ (l : List Nat) (k d : Nat), fs_ch nd k l → fw_R g m_MO_depth (fw_pv (.int (nI (d + l.length))) (fm_W g w0 mo ar (th, us, n, so, pl, po) F)) nc ns (fm_W g w0 mo ar (th, us, n, so, pl, po) F) 4 [(0, .ref mo), (1, .int x), (2, .int (nI d)), (3, .int (nI k))] [] := by
  intro l
  induction l with
  | nil =>
    intro k d h
    obtain ⟨N, hk, hN⟩ := h
    have hk150 := (hp k N hk).1
    have h8 : F 8 k = -1 := by rw [(hp k N hk).2, hN]; rfl
    refine fr_aload_n (pc := 4) d_MO_depth_4 rfl rfl ?_
    refine fr_get (pc := 5) (v := .ref (ar 8)) d_MO_depth_5 fg_MO_38 fm_mo rfl ?_
    refine fr_iload_n (pc := 8) d_MO_depth_8 rfl rfl ?_
    refine fr_mild (pc := 9) (j := 8) (k := k) d_MO_depth_9 hA (by decide) rfl (by show k < 150; omega) ?_
    refine fr_st (st2 := [.int (-1)]) (by rw [h8]) ?_
    refine fr_iconst (pc := 10) (v := -1) d_MO_depth_10 (by decide) ?_
    refine fr_icmp_eq (pc := 11) (tgt := 27) d_MO_depth_11 (by decide) (fun _ => ?_) (fun q => absurd q (by decide))
    refine fr_iload_n (pc := 27) d_MO_depth_27 rfl rfl ?_
    exact fr_iret rfl d_MO_depth_28 ⟨rfl, rfl⟩
  | cons p t2 ih =>
    intro k d h
    obtain ⟨⟨N, hk, hN⟩, h3⟩ := h
    have hk150 := (hp k N hk).1
    have h8 : F 8 k = nI p := by rw [(hp k N hk).2, hN]; rfl
    obtain ⟨P, hP⟩ := fs_ch_some _ _ h3 p (Or.inl rfl)
    have hp150 := (hp p P hP).1
    refine fr_aload_n (pc := 4) d_MO_depth_4 rfl rfl ?_
    refine fr_get (pc := 5) (v := .ref (ar 8)) d_MO_depth_5 fg_MO_38 fm_mo rfl ?_
    refine fr_iload_n (pc := 8) d_MO_depth_8 rfl rfl ?_
    refine fr_mild (pc := 9) (j := 8) (k := k) d_MO_depth_9 hA (by decide) rfl (by show k < 150; omega) ?_
    refine fr_st (st2 := [.int (nI p)]) (by rw [h8]) ?_
    refine fr_iconst (pc := 10) (v := -1) d_MO_depth_10 (by decide) ?_
    refine fr_icmp_eq (pc := 11) (tgt := 27) d_MO_depth_11 (by decide) (fun q => absurd q (ni_m1 (by omega))) (fun _ => ?_)
    refine fr_aload_n (pc := 14) d_MO_depth_14 rfl rfl ?_
    refine fr_get (pc := 15) (v := .ref (ar 8)) d_MO_depth_15 fg_MO_38 fm_mo rfl ?_
    refine fr_iload_n (pc := 18) d_MO_depth_18 rfl rfl ?_
    refine fr_mild (pc := 19) (j := 8) (k := k) d_MO_depth_19 hA (by decide) rfl (by show k < 150; omega) ?_
    refine fr_st (st2 := [.int (nI p)]) (by rw [h8]) ?_
    refine fr_istore_n (pc := 20) (L2 := [(0, .ref mo), (1, .int x), (2, .int (nI d)), (3, .int (nI p))]) d_MO_depth_20 rfl (by decide) rfl ?_
    refine fr_iinc (pc := 21) (v := (nI (d + 1))) (L2 := [(0, .ref mo), (1, .int x), (2, .int (nI (d + 1))), (3, .int (nI p))]) d_MO_depth_21 rfl (fi_1 _) (by decide) rfl ?_
    refine fr_goto (pc := 24) (tgt := 4) d_MO_depth_24 (by decide) ?_
    have e : d + (p :: t2).length = d + 1 + t2.length := by simp only [List.length_cons]; omega
    rw [e]
    exact ih p (d + 1) h3
theorem c_MO_depth {g : fw_G} {nc ns : Nat} {w0 : fw_W} {mo : Nat} {ar : Nat → Nat} (hA : fm_ad mo ar) {th so pl po : Int32} {us n : Nat} {F : fm_F} {nd : fs_D} (hp : fm_p nd F) {k : Nat} (hch : fs_ch nd k (fs_ab nd k)) : fw_R g m_MO_depth (fw_pv (.int (nI (fs_ab nd k).length)) (fm_W g w0 mo ar (th, us, n, so, pl, po) F)) nc ns (fm_W g w0 mo ar (th, us, n, so, pl, po) F) 0 [(0, .ref mo), (1, .int (nI k))] [] := by
  refine fr_iconst (pc := 0) (v := 0) d_MO_depth_0 (by decide) ?_
  refine fr_istore_n (pc := 1) (L2 := [(0, .ref mo), (1, .int (nI k)), (2, .int 0)]) d_MO_depth_1 rfl (by decide) rfl ?_
  refine fr_iload_n (pc := 2) d_MO_depth_2 rfl rfl ?_
  refine fr_istore_n (pc := 3) (L2 := [(0, .ref mo), (1, .int (nI k)), (2, .int 0), (3, .int (nI k))]) d_MO_depth_3 rfl (by decide) rfl ?_
  have h := c_MO_depth_l (nc := nc) (ns := ns) (w0 := w0) (g := g) (th := th) (so := so) (pl := pl) (po := po) (us := us) (n := n) hA hp (x := nI k) _ k 0 hch
  rw [Nat.zero_add] at h
  exact h
theorem c_MO_under_l {g : fw_G} {nc ns : Nat} {w0 : fw_W} {mo : Nat} {ar : Nat → Nat} (hA : fm_ad mo ar) {th so pl po : Int32} {us n : Nat} {F : fm_F} {nd : fs_D} (hp : fm_p nd F) {x : Int32} {t : Nat} (ht : t < 150) : ∀ (l : List Nat) (k : Nat), fs_ch nd k l → fw_R g m_MO_under (fw_pv (.int (bI (decide (t = k ∨ t ∈ l)))) (fm_W g w0 mo ar (th, us, n, so, pl, po) F)) nc ns (fm_W g w0 mo ar (th, us, n, so, pl, po) F) 2 [(0, .ref mo), (1, .int x), (2, .int (nI t)), (3, .int (nI k))] [] := by
  intro l
  induction l with
  | nil =>
    intro k h
    obtain ⟨N, hk, hN⟩ := h
    have hk150 := (hp k N hk).1
    have h8 : F 8 k = -1 := by rw [(hp k N hk).2, hN]; rfl
    refine fr_iload_n (pc := 2) d_MO_under_2 rfl rfl ?_
    refine fr_iconst (pc := 3) (v := -1) d_MO_under_3 (by decide) ?_
    refine fr_icmp_eq (pc := 4) (tgt := 22) d_MO_under_4 (by decide) (fun q => absurd q (ni_m1 (by omega))) (fun _ => ?_)
    refine fr_iload_n (pc := 7) d_MO_under_7 rfl rfl ?_
    refine fr_iload_n (pc := 8) d_MO_under_8 rfl rfl ?_
    refine fr_icmp_eqN (pc := 9) (tgt := 22) (a := k) (b := t) d_MO_under_9 (by decide) (by omega) (by omega) (fun e => ?_) (fun e => ?_)
    · refine fr_iload_n (pc := 22) d_MO_under_22 rfl rfl ?_
      refine fr_iload_n (pc := 23) d_MO_under_23 rfl rfl ?_
      refine fr_icmp_neN (pc := 24) (tgt := 31) (a := k) (b := t) d_MO_under_24 (by decide) (by omega) (by omega) (fun q => absurd q (by omega)) (fun _ => ?_)
      refine fr_iconst (pc := 27) (v := 1) d_MO_under_27 (by decide) ?_
      refine fr_goto (pc := 28) (tgt := 32) d_MO_under_28 (by decide) ?_
      refine fr_st (st2 := [.int (bI (decide (t = k ∨ t ∈ [])))]) (by rw [decide_eq_true (Or.inl e.symm)]; rfl) ?_
      exact fr_zret rfl (by first | exact bI_01 _ | exact Or.inl rfl | exact Or.inr rfl) d_MO_under_32 ⟨rfl, rfl⟩
    · refine fr_aload_n (pc := 12) d_MO_under_12 rfl rfl ?_
      refine fr_get (pc := 13) (v := .ref (ar 8)) d_MO_under_13 fg_MO_38 fm_mo rfl ?_
      refine fr_iload_n (pc := 16) d_MO_under_16 rfl rfl ?_
      refine fr_mild (pc := 17) (j := 8) (k := k) d_MO_under_17 hA (by decide) rfl (by show k < 150; omega) ?_
      refine fr_st (st2 := [.int (-1)]) (by rw [h8]) ?_
      refine fr_istore_n (pc := 18) (L2 := [(0, .ref mo), (1, .int x), (2, .int (nI t)), (3, .int (-1))]) d_MO_under_18 rfl (by decide) rfl ?_
      refine fr_goto (pc := 19) (tgt := 2) d_MO_under_19 (by decide) ?_
      refine fr_iload_n (pc := 2) d_MO_under_2 rfl rfl ?_
      refine fr_iconst (pc := 3) (v := -1) d_MO_under_3 (by decide) ?_
      refine fr_icmp_eq (pc := 4) (tgt := 22) d_MO_under_4 (by decide) (fun _ => ?_) (fun q => absurd q (by decide))
      refine fr_iload_n (pc := 22) d_MO_under_22 rfl rfl ?_
      refine fr_iload_n (pc := 23) d_MO_under_23 rfl rfl ?_
      refine fr_icmp_ne (pc := 24) (tgt := 31) d_MO_under_24 (by decide) (fun _ => ?_) (fun q => absurd q (fun z => ni_m1 (by omega) z.symm))
      refine fr_iconst (pc := 31) (v := 0) d_MO_under_31 (by decide) ?_
      refine fr_st (st2 := [.int (bI (decide (t = k ∨ t ∈ [])))]) (by rw [decide_eq_false (by rintro (z | z); exact e z.symm; cases z)]; rfl) ?_
      exact fr_zret rfl (by first | exact bI_01 _ | exact Or.inl rfl | exact Or.inr rfl) d_MO_under_32 ⟨rfl, rfl⟩
  | cons p t2 ih =>
    intro k h
    obtain ⟨⟨N, hk, hN⟩, h3⟩ := h
    have hk150 := (hp k N hk).1
    have h8 : F 8 k = nI p := by rw [(hp k N hk).2, hN]; rfl
    obtain ⟨P, hP⟩ := fs_ch_some _ _ h3 p (Or.inl rfl)
    have hp150 := (hp p P hP).1
    refine fr_iload_n (pc := 2) d_MO_under_2 rfl rfl ?_
    refine fr_iconst (pc := 3) (v := -1) d_MO_under_3 (by decide) ?_
    refine fr_icmp_eq (pc := 4) (tgt := 22) d_MO_under_4 (by decide) (fun q => absurd q (ni_m1 (by omega))) (fun _ => ?_)
    refine fr_iload_n (pc := 7) d_MO_under_7 rfl rfl ?_
    refine fr_iload_n (pc := 8) d_MO_under_8 rfl rfl ?_
    refine fr_icmp_eqN (pc := 9) (tgt := 22) (a := k) (b := t) d_MO_under_9 (by decide) (by omega) (by omega) (fun e => ?_) (fun e => ?_)
    · refine fr_iload_n (pc := 22) d_MO_under_22 rfl rfl ?_
      refine fr_iload_n (pc := 23) d_MO_under_23 rfl rfl ?_
      refine fr_icmp_neN (pc := 24) (tgt := 31) (a := k) (b := t) d_MO_under_24 (by decide) (by omega) (by omega) (fun q => absurd q (by omega)) (fun _ => ?_)
      refine fr_iconst (pc := 27) (v := 1) d_MO_under_27 (by decide) ?_
      refine fr_goto (pc := 28) (tgt := 32) d_MO_under_28 (by decide) ?_
      refine fr_st (st2 := [.int (bI (decide (t = k ∨ t ∈ p :: t2)))]) (by rw [decide_eq_true (Or.inl e.symm)]; rfl) ?_
      exact fr_zret rfl (by first | exact bI_01 _ | exact Or.inl rfl | exact Or.inr rfl) d_MO_under_32 ⟨rfl, rfl⟩
    · refine fr_aload_n (pc := 12) d_MO_under_12 rfl rfl ?_
      refine fr_get (pc := 13) (v := .ref (ar 8)) d_MO_under_13 fg_MO_38 fm_mo rfl ?_
      refine fr_iload_n (pc := 16) d_MO_under_16 rfl rfl ?_
      refine fr_mild (pc := 17) (j := 8) (k := k) d_MO_under_17 hA (by decide) rfl (by show k < 150; omega) ?_
      refine fr_st (st2 := [.int (nI p)]) (by rw [h8]) ?_
      refine fr_istore_n (pc := 18) (L2 := [(0, .ref mo), (1, .int x), (2, .int (nI t)), (3, .int (nI p))]) d_MO_under_18 rfl (by decide) rfl ?_
      refine fr_goto (pc := 19) (tgt := 2) d_MO_under_19 (by decide) ?_
      have e2 : decide (t = k ∨ t ∈ p :: t2) = decide (t = p ∨ t ∈ t2) := by
        have e3 : ¬ t = k := fun z => e z.symm
        simp only [e3, false_or, List.mem_cons]
      rw [e2]
      exact ih p h3
theorem c_MO_under {g : fw_G} {nc ns : Nat} {w0 : fw_W} {mo : Nat} {ar : Nat → Nat} (hA : fm_ad mo ar) {th so pl po : Int32} {us n : Nat} {F : fm_F} {nd : fs_D} (hp : fm_p nd F) {k t : Nat} (ht : t < 150) (hch : fs_ch nd k (fs_ab nd k)) : fw_R g m_MO_under (fw_pv (.int (bI (fs_un nd k t))) (fm_W g w0 mo ar (th, us, n, so, pl, po) F)) nc ns (fm_W g w0 mo ar (th, us, n, so, pl, po) F) 0 [(0, .ref mo), (1, .int (nI k)), (2, .int (nI t))] [] := by
  refine fr_iload_n (pc := 0) d_MO_under_0 rfl rfl ?_
  refine fr_istore_n (pc := 1) (L2 := [(0, .ref mo), (1, .int (nI k)), (2, .int (nI t)), (3, .int (nI k))]) d_MO_under_1 rfl (by decide) rfl ?_
  exact c_MO_under_l hA hp ht _ k hch
theorem c_MO_children_l {g : fw_G} {nc ns : Nat} {w0 : fw_W} {mo : Nat} {ar : Nat → Nat} (hA : fm_ad mo ar) {th so pl po : Int32} {us n : Nat} {F : fm_F} {nd : fs_D} (hp : fm_p nd F) (h4 : ∀ k, k < 150 → F 4 k = bI (nd k).isSome) {t : Nat} (ht : t < 150) (hpp : ∀ k N p, nd k = some N → N.2.1 = some p → p < 150) : ∀ m k c, k + m = 150 → fw_R g m_MO_children (fw_pv (.int (nI (c + fs_sum (fs_f4 nd t) m k))) (fm_W g w0 mo ar (th, us, n, so, pl, po) F)) nc ns (fm_W g w0 mo ar (th, us, n, so, pl, po) F) 4 [(0, .ref mo), (1, .int (nI t)), (2, .int (nI c)), (3, .int (nI k))] [] := by
  intro m
  induction m with
  | zero =>
    intro k c hk
    have hk2 : k = 150 := by omega
    subst hk2
    refine fr_iload_n (pc := 4) d_MO_children_4 rfl rfl ?_
    refine fr_sipush (pc := 5) (v := 150) d_MO_children_5 (by decide) ?_
    refine fr_icmp_geN (pc := 8) (tgt := 44) (a := 150) (b := 150) d_MO_children_8 (by decide) (by omega) (by omega) (fun _ => ?_) (fun q => absurd q (by omega))
    refine fr_iload_n (pc := 44) d_MO_children_44 rfl rfl ?_
    exact fr_iret rfl d_MO_children_45 ⟨rfl, rfl⟩
  | succ m ih =>
    intro k c hk
    have h4k := h4 k (by omega)
    refine fr_iload_n (pc := 4) d_MO_children_4 rfl rfl ?_
    refine fr_sipush (pc := 5) (v := 150) d_MO_children_5 (by decide) ?_
    refine fr_icmp_geN (pc := 8) (tgt := 44) (a := k) (b := 150) d_MO_children_8 (by decide) (by omega) (by omega) (fun q => absurd q (by omega)) (fun _ => ?_)
    refine fr_aload_n (pc := 11) d_MO_children_11 rfl rfl ?_
    refine fr_get (pc := 12) (v := .ref (ar 4)) d_MO_children_12 fg_MO_26 fm_mo rfl ?_
    refine fr_iload_n (pc := 15) d_MO_children_15 rfl rfl ?_
    refine fr_mzld (pc := 16) (j := 4) (k := k) d_MO_children_16 hA (by decide) rfl (by show k < 150; omega) ?_
    cases hN : nd k with
    | none =>
      refine fr_st (st2 := [.int 0]) (by rw [h4k, hN]; rfl) ?_
      refine fr_if_eq (pc := 17) (tgt := 36) d_MO_children_17 (by decide) (fun _ => ?_) (fun q => absurd q (by decide))
      refine fr_iload_n (pc := 36) d_MO_children_36 rfl rfl ?_
      refine fr_istore_n (pc := 37) (L2 := [(0, .ref mo), (1, .int (nI t)), (2, .int (nI c)), (3, .int (nI k))]) d_MO_children_37 rfl (by decide) rfl ?_
      refine fr_iinc (pc := 38) (v := (nI (k + 1))) (L2 := [(0, .ref mo), (1, .int (nI t)), (2, .int (nI c)), (3, .int (nI (k + 1)))]) d_MO_children_38 rfl (fi_1 _) (by decide) rfl ?_
      refine fr_goto (pc := 41) (tgt := 4) d_MO_children_41 (by decide) ?_
      have e : c + fs_sum (fs_f4 nd t) (m + 1) k = c + fs_sum (fs_f4 nd t) m (k + 1) := by simp [fs_sum, fs_f4, hN]
      rw [e]
      exact ih (k + 1) c (by omega)
    | some N =>
      refine fr_st (st2 := [.int 1]) (by rw [h4k, hN]; rfl) ?_
      refine fr_if_eq (pc := 17) (tgt := 36) d_MO_children_17 (by decide) (fun q => absurd q (by decide)) (fun _ => ?_)
      refine fr_aload_n (pc := 20) d_MO_children_20 rfl rfl ?_
      refine fr_get (pc := 21) (v := .ref (ar 8)) d_MO_children_21 fg_MO_38 fm_mo rfl ?_
      refine fr_iload_n (pc := 24) d_MO_children_24 rfl rfl ?_
      refine fr_mild (pc := 25) (j := 8) (k := k) d_MO_children_25 hA (by decide) rfl (by show k < 150; omega) ?_
      refine fr_st (st2 := [.int (fs_ov N.2.1)]) (by rw [(hp k N hN).2]) ?_
      refine fr_iload_n (pc := 26) d_MO_children_26 rfl rfl ?_
      have hx : fs_ov N.2.1 = nI t ↔ N.2.1 = some t := by
        cases hq : N.2.1 with
        | none => exact ⟨fun z => absurd z.symm (ni_m1 (by omega)), fun z => by cases z⟩
        | some p => exact ⟨fun z => by rw [(ni_eq (by have := hpp k N p hN hq; omega) (by omega)).mp z], fun z => by cases z; rfl⟩
      refine fr_icmp_ne (pc := 27) (tgt := 36) d_MO_children_27 (by decide) (fun q => ?_) (fun q => ?_)
      · refine fr_iload_n (pc := 36) d_MO_children_36 rfl rfl ?_
        refine fr_istore_n (pc := 37) (L2 := [(0, .ref mo), (1, .int (nI t)), (2, .int (nI c)), (3, .int (nI k))]) d_MO_children_37 rfl (by decide) rfl ?_
        refine fr_iinc (pc := 38) (v := (nI (k + 1))) (L2 := [(0, .ref mo), (1, .int (nI t)), (2, .int (nI c)), (3, .int (nI (k + 1)))]) d_MO_children_38 rfl (fi_1 _) (by decide) rfl ?_
        refine fr_goto (pc := 41) (tgt := 4) d_MO_children_41 (by decide) ?_
        have hs : ¬ N.2.1 = some t := fun z => q (hx.mpr z)
        have e : c + fs_sum (fs_f4 nd t) (m + 1) k = c + fs_sum (fs_f4 nd t) m (k + 1) := by simp [fs_sum, fs_f4, hN, hs]
        rw [e]
        exact ih (k + 1) c (by omega)
      · refine fr_iload_n (pc := 30) d_MO_children_30 rfl rfl ?_
        refine fr_iconst (pc := 31) (v := 1) d_MO_children_31 (by decide) ?_
        refine fr_iaddN (pc := 32) (a := c) (b := 1) d_MO_children_32 ?_
        refine fr_goto (pc := 33) (tgt := 37) d_MO_children_33 (by decide) ?_
        refine fr_istore_n (pc := 37) (L2 := [(0, .ref mo), (1, .int (nI t)), (2, .int (nI (c + 1))), (3, .int (nI k))]) d_MO_children_37 rfl (by decide) rfl ?_
        refine fr_iinc (pc := 38) (v := (nI (k + 1))) (L2 := [(0, .ref mo), (1, .int (nI t)), (2, .int (nI (c + 1))), (3, .int (nI (k + 1)))]) d_MO_children_38 rfl (fi_1 _) (by decide) rfl ?_
        refine fr_goto (pc := 41) (tgt := 4) d_MO_children_41 (by decide) ?_
        have hs : N.2.1 = some t := hx.mp q
        have e : c + fs_sum (fs_f4 nd t) (m + 1) k = c + 1 + fs_sum (fs_f4 nd t) m (k + 1) := by simp [fs_sum, fs_f4, hN, hs]; omega
        rw [e]
        exact ih (k + 1) (c + 1) (by omega)
theorem c_MO_children {g : fw_G} {nc ns : Nat} {w0 : fw_W} {mo : Nat} {ar : Nat → Nat} (hA : fm_ad mo ar) {th so pl po : Int32} {us n : Nat} {F : fm_F} {nd : fs_D} (hp : fm_p nd F) (h4 : ∀ k, k < 150 → F 4 k = bI (nd k).isSome) {t : Nat} (ht : t < 150) (hpp : ∀ k N p, nd k = some N → N.2.1 = some p → p < 150) (h0 : ∃ N, nd 0 = some N ∧ N.2.1 = none) : fw_R g m_MO_children (fw_pv (.int (nI (fs_sum (fs_f4 nd t) 150 0))) (fm_W g w0 mo ar (th, us, n, so, pl, po) F)) nc ns (fm_W g w0 mo ar (th, us, n, so, pl, po) F) 0 [(0, .ref mo), (1, .int (nI t))] [] := by
  refine fr_iconst (pc := 0) (v := 0) d_MO_children_0 (by decide) ?_
  refine fr_istore_n (pc := 1) (L2 := [(0, .ref mo), (1, .int (nI t)), (2, .int 0)]) d_MO_children_1 rfl (by decide) rfl ?_
  refine fr_iconst (pc := 2) (v := 1) d_MO_children_2 (by decide) ?_
  refine fr_istore_n (pc := 3) (L2 := [(0, .ref mo), (1, .int (nI t)), (2, .int 0), (3, .int 1)]) d_MO_children_3 rfl (by decide) rfl ?_
  have e : fs_sum (fs_f4 nd t) 150 0 = 0 + fs_sum (fs_f4 nd t) 149 1 := by
    obtain ⟨N, h1, h2⟩ := h0
    show fs_f4 nd t 0 + fs_sum (fs_f4 nd t) 149 1 = _
    simp [fs_f4, h1, h2]
  rw [e]
  exact c_MO_children_l hA hp h4 ht hpp 149 1 0 rfl
theorem c_MO_height_l {g : fw_G} {nc ns : Nat} {w0 : fw_W} {mo : Nat} {ar : Nat → Nat} (hA : fm_ad mo ar) {th so pl po : Int32} {us n : Nat} {F : fm_F} {nd : fs_D} (hp : fm_p nd F) (h4 : ∀ k, k < 150 → F 4 k = bI (nd k).isSome) (hch : ∀ k N, nd k = some N → fs_ch nd k (fs_ab nd k)) (hd : ∀ k N, nd k = some N → (fs_ab nd k).length ≤ 20) {t : Nat} {T : fs_N} (hT : nd t = some T) : ∀ m k c, k + m = 150 → c ≤ 20 → ∀ L : List (Nat × Value), L = [(0, .ref mo), (1, .int (nI t)), (2, .int (nI c)), (3, .int (nI k))] → fw_R g m_MO_height (fw_pv (.int (nI (fs_hi (fs_f5 nd t) m k c))) (fm_W g w0 mo ar (th, us, n, so, pl, po) F)) nc ns (fm_W g w0 mo ar (th, us, n, so, pl, po) F) 4 L [] := by
  have ht := (hp t T hT).1
  intro m
  induction m with
  | zero =>
    intro k c hk hc20 L hL
    have hk2 : k = 150 := by omega
    subst hk2 hL
    refine fr_iload_n (pc := 4) d_MO_height_4 rfl rfl ?_
    refine fr_sipush (pc := 5) (v := 150) d_MO_height_5 (by decide) ?_
    refine fr_icmp_geN (pc := 8) (tgt := 65) (a := 150) (b := 150) d_MO_height_8 (by decide) (by omega) (by omega) (fun _ => ?_) (fun q => absurd q (by omega))
    refine fr_iload_n (pc := 65) d_MO_height_65 rfl rfl ?_
    exact fr_iret rfl d_MO_height_66 ⟨rfl, rfl⟩
  | succ m ih =>
    intro k c hk hc20 L hL
    subst hL
    have h4k := h4 k (by omega)
    refine fr_iload_n (pc := 4) d_MO_height_4 rfl rfl ?_
    refine fr_sipush (pc := 5) (v := 150) d_MO_height_5 (by decide) ?_
    refine fr_icmp_geN (pc := 8) (tgt := 65) (a := k) (b := 150) d_MO_height_8 (by decide) (by omega) (by omega) (fun q => absurd q (by omega)) (fun _ => ?_)
    refine fr_aload_n (pc := 11) d_MO_height_11 rfl rfl ?_
    refine fr_get (pc := 12) (v := .ref (ar 4)) d_MO_height_12 fg_MO_26 fm_mo rfl ?_
    refine fr_iload_n (pc := 15) d_MO_height_15 rfl rfl ?_
    refine fr_mzld (pc := 16) (j := 4) (k := k) d_MO_height_16 hA (by decide) rfl (by show k < 150; omega) ?_
    cases hN : nd k with
    | none =>
      refine fr_st (st2 := [.int 0]) (by rw [h4k, hN]; rfl) ?_
      refine fr_if_eq (pc := 17) (tgt := 43) d_MO_height_17 (by decide) (fun _ => ?_) (fun q => absurd q (by decide))
      refine fr_iconst (pc := 43) (v := 0) d_MO_height_43 (by decide) ?_
      refine fr_istore (pc := 44) (L2 := [(0, .ref mo), (1, .int (nI t)), (2, .int (nI c)), (3, .int (nI k)), (4, .int 0)]) d_MO_height_44 (by decide) rfl ?_
      refine fr_iload (pc := 46) d_MO_height_46 rfl ?_
      refine fr_iload_n (pc := 48) d_MO_height_48 rfl rfl ?_
      refine fr_icmp_leN (pc := 49) (tgt := 57) (a := 0) (b := c) d_MO_height_49 (by decide) (by omega) (by omega) (fun _ => ?_) (fun q => absurd q (by omega))
      refine fr_iload_n (pc := 57) d_MO_height_57 rfl rfl ?_
      refine fr_istore_n (pc := 58) (L2 := [(0, .ref mo), (1, .int (nI t)), (2, .int (nI c)), (3, .int (nI k)), (4, .int 0)]) d_MO_height_58 rfl (by decide) rfl ?_
      refine fr_iinc (pc := 59) (v := (nI (k + 1))) (L2 := [(0, .ref mo), (1, .int (nI t)), (2, .int (nI c)), (3, .int (nI (k + 1))), (4, .int 0)]) d_MO_height_59 rfl (fi_1 _) (by decide) rfl ?_
      refine fr_goto (pc := 62) (tgt := 4) d_MO_height_62 (by decide) ?_
      have e : fs_hi (fs_f5 nd t) (m + 1) k c = fs_hi (fs_f5 nd t) m (k + 1) c := by simp [fs_hi, fs_f5, hN]
      rw [e]
      exact fr_Ld (ih (k + 1) c (by omega) hc20 _ rfl)
    | some N =>
      refine fr_st (st2 := [.int 1]) (by rw [h4k, hN]; rfl) ?_
      refine fr_if_eq (pc := 17) (tgt := 43) d_MO_height_17 (by decide) (fun q => absurd q (by decide)) (fun _ => ?_)
      refine fr_aload_n (pc := 20) d_MO_height_20 rfl rfl ?_
      refine fr_iload_n (pc := 21) d_MO_height_21 rfl rfl ?_
      refine fr_iload_n (pc := 22) d_MO_height_22 rfl rfl ?_
      refine fr_callv_p (pc := 23) (nc := nc) (ns := ns) (N := m_MO_under) (rest := []) (as := [.int (nI k), .int (nI t)]) d_MO_height_23 vc_MO_98 ⟨by decide, by decide, Nat.le_of_ble_eq_true rfl⟩ (Nat.le_of_ble_eq_true rfl) fm_mo (c_MO_under hA hp ht (hch k N hN)) rfl ?_
      refine fr_if_eq (pc := 26) (tgt := 43) d_MO_height_26 (by decide) (fun q => ?_) (fun q => ?_)
      · have hs := bI_0.mp q
        refine fr_iconst (pc := 43) (v := 0) d_MO_height_43 (by decide) ?_
        refine fr_istore (pc := 44) (L2 := [(0, .ref mo), (1, .int (nI t)), (2, .int (nI c)), (3, .int (nI k)), (4, .int 0)]) d_MO_height_44 (by decide) rfl ?_
        refine fr_iload (pc := 46) d_MO_height_46 rfl ?_
        refine fr_iload_n (pc := 48) d_MO_height_48 rfl rfl ?_
        refine fr_icmp_leN (pc := 49) (tgt := 57) (a := 0) (b := c) d_MO_height_49 (by decide) (by omega) (by omega) (fun _ => ?_) (fun q => absurd q (by omega))
        refine fr_iload_n (pc := 57) d_MO_height_57 rfl rfl ?_
        refine fr_istore_n (pc := 58) (L2 := [(0, .ref mo), (1, .int (nI t)), (2, .int (nI c)), (3, .int (nI k)), (4, .int 0)]) d_MO_height_58 rfl (by decide) rfl ?_
        refine fr_iinc (pc := 59) (v := (nI (k + 1))) (L2 := [(0, .ref mo), (1, .int (nI t)), (2, .int (nI c)), (3, .int (nI (k + 1))), (4, .int 0)]) d_MO_height_59 rfl (fi_1 _) (by decide) rfl ?_
        refine fr_goto (pc := 62) (tgt := 4) d_MO_height_62 (by decide) ?_
        have e : fs_hi (fs_f5 nd t) (m + 1) k c = fs_hi (fs_f5 nd t) m (k + 1) c := by simp [fs_hi, fs_f5, hN, hs]
        rw [e]
        exact fr_Ld (ih (k + 1) c (by omega) hc20 _ rfl)
      · have hs := ts_nf (fun x => q (bI_0.mpr x))
        have hle := fs_dep_le (hch k N hN) (hch t T hT) hs
        have h20 := hd k N hN
        refine fr_aload_n (pc := 29) d_MO_height_29 rfl rfl ?_
        refine fr_iload_n (pc := 30) d_MO_height_30 rfl rfl ?_
        refine fr_callv_p (pc := 31) (nc := nc) (ns := ns) (N := m_MO_depth) (rest := []) (as := [.int (nI k)]) d_MO_height_31 vc_MO_94 ⟨by decide, by decide, Nat.le_of_ble_eq_true rfl⟩ (Nat.le_of_ble_eq_true rfl) fm_mo (c_MO_depth hA hp (hch k N hN)) rfl ?_
        refine fr_aload_n (pc := 34) d_MO_height_34 rfl rfl ?_
        refine fr_iload_n (pc := 35) d_MO_height_35 rfl rfl ?_
        refine fr_callv_p (pc := 36) (nc := nc) (ns := ns) (N := m_MO_depth) (rest := [.int (nI (fs_ab nd k).length)]) (as := [.int (nI t)]) d_MO_height_36 vc_MO_94 ⟨by decide, by decide, Nat.le_of_ble_eq_true rfl⟩ (Nat.le_of_ble_eq_true rfl) fm_mo (c_MO_depth hA hp (hch t T hT)) rfl ?_
        refine fr_isubN (pc := 39) (a := (fs_ab nd k).length) (b := (fs_ab nd t).length) d_MO_height_39 (by omega) ?_
        refine fr_goto (pc := 40) (tgt := 44) d_MO_height_40 (by decide) ?_
        refine fr_istore (pc := 44) (L2 := [(0, .ref mo), (1, .int (nI t)), (2, .int (nI c)), (3, .int (nI k)), (4, .int (nI ((fs_ab nd k).length - (fs_ab nd t).length)))]) d_MO_height_44 (by decide) rfl ?_
        refine fr_iload (pc := 46) d_MO_height_46 rfl ?_
        refine fr_iload_n (pc := 48) d_MO_height_48 rfl rfl ?_
        refine fr_icmp_leN (pc := 49) (tgt := 57) (a := ((fs_ab nd k).length - (fs_ab nd t).length)) (b := c) d_MO_height_49 (by decide) (by omega) (by omega) (fun z => ?_) (fun z => ?_)
        · refine fr_iload_n (pc := 57) d_MO_height_57 rfl rfl ?_
          refine fr_istore_n (pc := 58) (L2 := [(0, .ref mo), (1, .int (nI t)), (2, .int (nI c)), (3, .int (nI k)), (4, .int (nI ((fs_ab nd k).length - (fs_ab nd t).length)))]) d_MO_height_58 rfl (by decide) rfl ?_
          refine fr_iinc (pc := 59) (v := (nI (k + 1))) (L2 := [(0, .ref mo), (1, .int (nI t)), (2, .int (nI c)), (3, .int (nI (k + 1))), (4, .int (nI ((fs_ab nd k).length - (fs_ab nd t).length)))]) d_MO_height_59 rfl (fi_1 _) (by decide) rfl ?_
          refine fr_goto (pc := 62) (tgt := 4) d_MO_height_62 (by decide) ?_
          have e : fs_hi (fs_f5 nd t) (m + 1) k c = fs_hi (fs_f5 nd t) m (k + 1) c := by
            show fs_hi (fs_f5 nd t) m (k + 1) (max c (fs_f5 nd t k)) = _
            have e2 : fs_f5 nd t k = ((fs_ab nd k).length - (fs_ab nd t).length) := by simp [fs_f5, hN, hs]
            rw [e2, Nat.max_eq_left z]
          rw [e]
          exact fr_Ld (ih (k + 1) c (by omega) (by omega) _ rfl)
        · refine fr_iload (pc := 52) d_MO_height_52 rfl ?_
          refine fr_goto (pc := 54) (tgt := 58) d_MO_height_54 (by decide) ?_
          refine fr_istore_n (pc := 58) (L2 := [(0, .ref mo), (1, .int (nI t)), (2, .int (nI ((fs_ab nd k).length - (fs_ab nd t).length))), (3, .int (nI k)), (4, .int (nI ((fs_ab nd k).length - (fs_ab nd t).length)))]) d_MO_height_58 rfl (by decide) rfl ?_
          refine fr_iinc (pc := 59) (v := (nI (k + 1))) (L2 := [(0, .ref mo), (1, .int (nI t)), (2, .int (nI ((fs_ab nd k).length - (fs_ab nd t).length))), (3, .int (nI (k + 1))), (4, .int (nI ((fs_ab nd k).length - (fs_ab nd t).length)))]) d_MO_height_59 rfl (fi_1 _) (by decide) rfl ?_
          refine fr_goto (pc := 62) (tgt := 4) d_MO_height_62 (by decide) ?_
          have e : fs_hi (fs_f5 nd t) (m + 1) k c = fs_hi (fs_f5 nd t) m (k + 1) ((fs_ab nd k).length - (fs_ab nd t).length) := by
            show fs_hi (fs_f5 nd t) m (k + 1) (max c (fs_f5 nd t k)) = _
            have e2 : fs_f5 nd t k = ((fs_ab nd k).length - (fs_ab nd t).length) := by simp [fs_f5, hN, hs]
            rw [e2, Nat.max_eq_right (Nat.le_of_lt z)]
          rw [e]
          exact fr_Ld (ih (k + 1) ((fs_ab nd k).length - (fs_ab nd t).length) (by omega) (by omega) _ rfl)
theorem c_MO_height {g : fw_G} {nc ns : Nat} {w0 : fw_W} {mo : Nat} {ar : Nat → Nat} (hA : fm_ad mo ar) {th so pl po : Int32} {us n : Nat} {F : fm_F} {nd : fs_D} (hp : fm_p nd F) (h4 : ∀ k, k < 150 → F 4 k = bI (nd k).isSome) (hch : ∀ k N, nd k = some N → fs_ch nd k (fs_ab nd k)) (hd : ∀ k N, nd k = some N → (fs_ab nd k).length ≤ 20) {t : Nat} {T : fs_N} (hT : nd t = some T) : fw_R g m_MO_height (fw_pv (.int (nI (fs_hi (fs_f5 nd t) 150 0 0))) (fm_W g w0 mo ar (th, us, n, so, pl, po) F)) nc ns (fm_W g w0 mo ar (th, us, n, so, pl, po) F) 0 [(0, .ref mo), (1, .int (nI t))] [] := by
  refine fr_iconst (pc := 0) (v := 0) d_MO_height_0 (by decide) ?_
  refine fr_istore_n (pc := 1) (L2 := [(0, .ref mo), (1, .int (nI t)), (2, .int 0)]) d_MO_height_1 rfl (by decide) rfl ?_
  refine fr_iconst (pc := 2) (v := 0) d_MO_height_2 (by decide) ?_
  refine fr_istore_n (pc := 3) (L2 := [(0, .ref mo), (1, .int (nI t)), (2, .int 0), (3, .int 0)]) d_MO_height_3 rfl (by decide) rfl ?_
  exact c_MO_height_l hA hp h4 hch hd hT 150 0 0 rfl (by omega) _ rfl
def fm_sp (nd : fs_D) (t : Nat) (b : Bool) (k : Nat) : Bool := (nd k).isSome && (fs_un nd k t && (b || decide (k ≠ t)))
def fm_sf (nd : fs_D) (t : Nat) (b : Bool) (f : Nat → Int32) (i : Nat) : Nat → Int32 := fun k => if k < i then (if fm_sp nd t b k = true then 1 else f k) else f k
theorem fm_sf_0 {nd : fs_D} {t : Nat} {b : Bool} {f : Nat → Int32} : fm_sf nd t b f 0 = f := by funext k; simp [fm_sf]
theorem fm_sf_at {nd : fs_D} {t i : Nat} {b : Bool} {f : Nat → Int32} : fm_sf nd t b f i i = f i := by simp [fm_sf]
theorem fm_sf_s {nd : fs_D} {t i : Nat} {b : Bool} {f : Nat → Int32} {x : Int32} (h : x = if fm_sp nd t b i = true then 1 else f i) : upd (fm_sf nd t b f i) i x = fm_sf nd t b f (i + 1) := by
  funext k
  unfold upd
  by_cases e : k = i
  · subst e; rw [if_pos rfl, h]; unfold fm_sf; rw [if_pos (by omega : k < k + 1)]
  · rw [if_neg e]; unfold fm_sf
    by_cases e2 : k < i
    · rw [if_pos e2, if_pos (by omega : k < i + 1)]
    · rw [if_neg e2, if_neg (by omega : ¬ k < i + 1)]
theorem c_MO_spread_l {g : fw_G} {nc ns : Nat} {w0 : fw_W} {mo : Nat} {ar : Nat → Nat} (hA : fm_ad mo ar) {th so pl po : Int32} {us n : Nat} {F : fm_F} {nd : fs_D} (hp : fm_p nd F) (h4 : ∀ k, k < 150 → F 4 k = bI (nd k).isSome) (h7 : ∀ k, F 7 k = 0 ∨ F 7 k = 1) (hch : ∀ k N, nd k = some N → fs_ch nd k (fs_ab nd k)) {t : Nat} {b : Bool} (ht : t < 150) : ∀ m k, k + m = 150 → fw_R g m_MO_spread (fw_pn (fm_W g w0 mo ar (th, us, n, so, pl, po) (fm_s F 7 (fm_sf nd t b (F 7) 150)))) nc ns (fm_W g w0 mo ar (th, us, n, so, pl, po) (fm_s F 7 (fm_sf nd t b (F 7) k))) 2 [(0, .ref mo), (1, .int (nI t)), (2, .int (bI b)), (3, .int (nI k))] [] := by
  intro m
  induction m with
  | zero =>
    intro k hk
    have hk2 : k = 150 := by omega
    subst hk2
    refine fr_iload_n (pc := 2) d_MO_spread_2 rfl rfl ?_
    refine fr_sipush (pc := 3) (v := 150) d_MO_spread_3 (by decide) ?_
    refine fr_icmp_geN (pc := 6) (tgt := 62) (a := 150) (b := 150) d_MO_spread_6 (by decide) (by omega) (by omega) (fun _ => ?_) (fun q => absurd q (by omega))
    exact fr_vret rfl d_MO_spread_62 ⟨rfl, rfl⟩
  | succ m ih =>
    intro k hk
    have h4k := h4 k (by omega)
    have hp2 : fm_p nd (fm_s F 7 (fm_sf nd t b (F 7) k)) := fun j N hj => ⟨(hp j N hj).1, by rw [fm_s_ne (by decide)]; exact (hp j N hj).2⟩
    refine fr_iload_n (pc := 2) d_MO_spread_2 rfl rfl ?_
    refine fr_sipush (pc := 3) (v := 150) d_MO_spread_3 (by decide) ?_
    refine fr_icmp_geN (pc := 6) (tgt := 62) (a := k) (b := 150) d_MO_spread_6 (by decide) (by omega) (by omega) (fun q => absurd q (by omega)) (fun _ => ?_)
    refine fr_aload_n (pc := 9) d_MO_spread_9 rfl rfl ?_
    refine fr_get (pc := 10) (v := .ref (ar 7)) d_MO_spread_10 fg_MO_35 fm_mo rfl ?_
    refine fr_iload_n (pc := 13) d_MO_spread_13 rfl rfl ?_
    refine fr_aload_n (pc := 14) d_MO_spread_14 rfl rfl ?_
    refine fr_get (pc := 15) (v := .ref (ar 7)) d_MO_spread_15 fg_MO_35 fm_mo rfl ?_
    refine fr_iload_n (pc := 18) d_MO_spread_18 rfl rfl ?_
    refine fr_mzld (pc := 19) (j := 7) (k := k) d_MO_spread_19 hA (by decide) rfl (by show k < 150; omega) ?_
    refine fr_st (st2 := [.int (F 7 k), .int (nI k), .ref (ar 7)]) (by rw [fm_s_self, fm_sf_at]) ?_
    rcases h7 k with h7k | h7k
    · refine fr_st (st2 := [.int 0, .int (nI k), .ref (ar 7)]) (by rw [h7k]) ?_
      refine fr_if_ne (pc := 20) (tgt := 50) d_MO_spread_20 (by decide) (fun q => absurd q (by decide)) (fun _ => ?_)
      refine fr_aload_n (pc := 23) d_MO_spread_23 rfl rfl ?_
      refine fr_get (pc := 24) (v := .ref (ar 4)) d_MO_spread_24 fg_MO_26 fm_mo rfl ?_
      refine fr_iload_n (pc := 27) d_MO_spread_27 rfl rfl ?_
      refine fr_mzld (pc := 28) (j := 4) (k := k) d_MO_spread_28 hA (by decide) rfl (by show k < 150; omega) ?_
      refine fr_st (st2 := [.int (F 4 k), .int (nI k), .ref (ar 7)]) (by rw [fm_s_ne (by decide)]) ?_
      cases hN : nd k with
      | none =>
        refine fr_st (st2 := [.int 0, .int (nI k), .ref (ar 7)]) (by rw [h4k, hN]; rfl) ?_
        refine fr_if_eq (pc := 29) (tgt := 54) d_MO_spread_29 (by decide) (fun _ => ?_) (fun q => absurd q (by decide))
        refine fr_iconst (pc := 54) (v := 0) d_MO_spread_54 (by decide) ?_
        refine fr_mzst (pc := 55) (j := 7) (k := k) (x := 0) d_MO_spread_55 hA (by decide) rfl (by show k < 150; omega) (by decide) ?_
        rw [fm_e_s, fm_sf_s (by rw [h7k]; simp [fm_sp, hN])]
        refine fr_iinc (pc := 56) (v := (nI (k + 1))) (L2 := [(0, .ref mo), (1, .int (nI t)), (2, .int (bI b)), (3, .int (nI (k + 1)))]) d_MO_spread_56 rfl (fi_1 _) (by decide) rfl ?_
        refine fr_goto (pc := 59) (tgt := 2) d_MO_spread_59 (by decide) ?_
        exact ih (k + 1) (by omega)
      | some N =>
        refine fr_st (st2 := [.int 1, .int (nI k), .ref (ar 7)]) (by rw [h4k, hN]; rfl) ?_
        refine fr_if_eq (pc := 29) (tgt := 54) d_MO_spread_29 (by decide) (fun q => absurd q (by decide)) (fun _ => ?_)
        refine fr_aload_n (pc := 32) d_MO_spread_32 rfl rfl ?_
        refine fr_iload_n (pc := 33) d_MO_spread_33 rfl rfl ?_
        refine fr_iload_n (pc := 34) d_MO_spread_34 rfl rfl ?_
        refine fr_callv_p (pc := 35) (nc := nc) (ns := ns) (N := m_MO_under) (rest := [.int (nI k), .ref (ar 7)]) (as := [.int (nI k), .int (nI t)]) d_MO_spread_35 vc_MO_98 ⟨by decide, by decide, Nat.le_of_ble_eq_true rfl⟩ (Nat.le_of_ble_eq_true rfl) fm_mo (c_MO_under hA hp2 ht (hch k N hN)) rfl ?_
        refine fr_if_eq (pc := 38) (tgt := 54) d_MO_spread_38 (by decide) (fun q => ?_) (fun q => ?_)
        · have hs := bI_0.mp q
          refine fr_iconst (pc := 54) (v := 0) d_MO_spread_54 (by decide) ?_
          refine fr_mzst (pc := 55) (j := 7) (k := k) (x := 0) d_MO_spread_55 hA (by decide) rfl (by show k < 150; omega) (by decide) ?_
          rw [fm_e_s, fm_sf_s (by rw [h7k]; simp [fm_sp, hN, hs])]
          refine fr_iinc (pc := 56) (v := (nI (k + 1))) (L2 := [(0, .ref mo), (1, .int (nI t)), (2, .int (bI b)), (3, .int (nI (k + 1)))]) d_MO_spread_56 rfl (fi_1 _) (by decide) rfl ?_
          refine fr_goto (pc := 59) (tgt := 2) d_MO_spread_59 (by decide) ?_
          exact ih (k + 1) (by omega)
        · have hs := ts_nf (fun x => q (bI_0.mpr x))
          refine fr_iload_n (pc := 41) d_MO_spread_41 rfl rfl ?_
          refine fr_if_ne (pc := 42) (tgt := 50) d_MO_spread_42 (by decide) (fun q2 => ?_) (fun q2 => ?_)
          · have hs2 := ts_nf (fun x => q2 (bI_0.mpr x))
            refine fr_iconst (pc := 50) (v := 1) d_MO_spread_50 (by decide) ?_
            refine fr_goto (pc := 51) (tgt := 55) d_MO_spread_51 (by decide) ?_
            refine fr_mzst (pc := 55) (j := 7) (k := k) (x := 1) d_MO_spread_55 hA (by decide) rfl (by show k < 150; omega) (by decide) ?_
            rw [fm_e_s, fm_sf_s (by simp [fm_sp, hN, hs, hs2])]
            refine fr_iinc (pc := 56) (v := (nI (k + 1))) (L2 := [(0, .ref mo), (1, .int (nI t)), (2, .int (bI b)), (3, .int (nI (k + 1)))]) d_MO_spread_56 rfl (fi_1 _) (by decide) rfl ?_
            refine fr_goto (pc := 59) (tgt := 2) d_MO_spread_59 (by decide) ?_
            exact ih (k + 1) (by omega)
          · have hs2 := bI_0.mp q2
            refine fr_iload_n (pc := 45) d_MO_spread_45 rfl rfl ?_
            refine fr_iload_n (pc := 46) d_MO_spread_46 rfl rfl ?_
            refine fr_icmp_eqN (pc := 47) (tgt := 54) (a := k) (b := t) d_MO_spread_47 (by decide) (by omega) (by omega) (fun e => ?_) (fun e => ?_)
            · refine fr_iconst (pc := 54) (v := 0) d_MO_spread_54 (by decide) ?_
              refine fr_mzst (pc := 55) (j := 7) (k := k) (x := 0) d_MO_spread_55 hA (by decide) rfl (by show k < 150; omega) (by decide) ?_
              rw [fm_e_s, fm_sf_s (by rw [h7k]; simp [fm_sp, hN, hs, hs2, e])]
              refine fr_iinc (pc := 56) (v := (nI (k + 1))) (L2 := [(0, .ref mo), (1, .int (nI t)), (2, .int (bI b)), (3, .int (nI (k + 1)))]) d_MO_spread_56 rfl (fi_1 _) (by decide) rfl ?_
              refine fr_goto (pc := 59) (tgt := 2) d_MO_spread_59 (by decide) ?_
              exact ih (k + 1) (by omega)
            · refine fr_iconst (pc := 50) (v := 1) d_MO_spread_50 (by decide) ?_
              refine fr_goto (pc := 51) (tgt := 55) d_MO_spread_51 (by decide) ?_
              refine fr_mzst (pc := 55) (j := 7) (k := k) (x := 1) d_MO_spread_55 hA (by decide) rfl (by show k < 150; omega) (by decide) ?_
              rw [fm_e_s, fm_sf_s (by simp [fm_sp, hN, hs, hs2, e])]
              refine fr_iinc (pc := 56) (v := (nI (k + 1))) (L2 := [(0, .ref mo), (1, .int (nI t)), (2, .int (bI b)), (3, .int (nI (k + 1)))]) d_MO_spread_56 rfl (fi_1 _) (by decide) rfl ?_
              refine fr_goto (pc := 59) (tgt := 2) d_MO_spread_59 (by decide) ?_
              exact ih (k + 1) (by omega)
    · refine fr_st (st2 := [.int 1, .int (nI k), .ref (ar 7)]) (by rw [h7k]) ?_
      refine fr_if_ne (pc := 20) (tgt := 50) d_MO_spread_20 (by decide) (fun _ => ?_) (fun q => absurd q (by decide))
      refine fr_iconst (pc := 50) (v := 1) d_MO_spread_50 (by decide) ?_
      refine fr_goto (pc := 51) (tgt := 55) d_MO_spread_51 (by decide) ?_
      refine fr_mzst (pc := 55) (j := 7) (k := k) (x := 1) d_MO_spread_55 hA (by decide) rfl (by show k < 150; omega) (by decide) ?_
      rw [fm_e_s, fm_sf_s (by rw [h7k]; split <;> rfl)]
      refine fr_iinc (pc := 56) (v := (nI (k + 1))) (L2 := [(0, .ref mo), (1, .int (nI t)), (2, .int (bI b)), (3, .int (nI (k + 1)))]) d_MO_spread_56 rfl (fi_1 _) (by decide) rfl ?_
      refine fr_goto (pc := 59) (tgt := 2) d_MO_spread_59 (by decide) ?_
      exact ih (k + 1) (by omega)
theorem c_MO_spread {g : fw_G} {nc ns : Nat} {w0 : fw_W} {mo : Nat} {ar : Nat → Nat} (hA : fm_ad mo ar) {th so pl po : Int32} {us n : Nat} {F : fm_F} {nd : fs_D} (hp : fm_p nd F) (h4 : ∀ k, k < 150 → F 4 k = bI (nd k).isSome) (h7 : ∀ k, F 7 k = 0 ∨ F 7 k = 1) (hch : ∀ k N, nd k = some N → fs_ch nd k (fs_ab nd k)) {t : Nat} {b : Bool} (ht : t < 150) : fw_R g m_MO_spread (fw_pn (fm_W g w0 mo ar (th, us, n, so, pl, po) (fm_s F 7 (fm_sf nd t b (F 7) 150)))) nc ns (fm_W g w0 mo ar (th, us, n, so, pl, po) F) 0 [(0, .ref mo), (1, .int (nI t)), (2, .int (bI b))] [] := by
  refine fr_iconst (pc := 0) (v := 0) d_MO_spread_0 (by decide) ?_
  refine fr_istore_n (pc := 1) (L2 := [(0, .ref mo), (1, .int (nI t)), (2, .int (bI b)), (3, .int 0)]) d_MO_spread_1 rfl (by decide) rfl ?_
  have h := c_MO_spread_l (nc := nc) (ns := ns) (w0 := w0) (g := g) (th := th) (so := so) (pl := pl) (po := po) (us := us) (n := n) hA hp h4 h7 hch (b := b) ht 150 0 rfl
  rw [fm_sf_0, fm_s_id] at h
  exact h

theorem fs_sum_mn {f g : Nat → Nat} : ∀ m s, (∀ k, g k ≤ f k) → fs_sum g m s ≤ fs_sum f m s := by
  intro m
  induction m with
  | zero => intro s _; exact Nat.le_refl _
  | succ m ih =>
    intro s h
    have h1 := ih (s + 1) h
    have h2 := h s
    simp only [fs_sum]; omega
theorem fs_sum_lt {f g : Nat → Nat} : ∀ m s, (∀ k, g k ≤ f k) → (∃ k, s ≤ k ∧ k < s + m ∧ g k < f k) → fs_sum g m s < fs_sum f m s := by
  intro m
  induction m with
  | zero => rintro s _ ⟨k, h1, h2, -⟩; omega
  | succ m ih =>
    rintro s h ⟨k, h1, h2, h3⟩
    simp only [fs_sum]
    by_cases e : k = s
    · subst e
      have := fs_sum_mn m (k + 1) h
      omega
    · have h4 := ih (s + 1) h ⟨k, by omega, by omega, h3⟩
      have h5 := h s
      omega
def fm_ct (f : Nat → Int32) : Nat := fs_sum (fun j => if f j = 0 then 1 else 0) 24 0
theorem fm_ct_lt {f : Nat → Int32} {b : Nat} (hb : b < 24) (h : f b = 0) : fm_ct (upd f b 1) < fm_ct f := by
  refine fs_sum_lt 24 0 (fun k => ?_) ⟨b, by omega, by omega, ?_⟩
  · unfold upd
    by_cases e : k = b
    · rw [if_pos e]; simp
    · rw [if_neg e]; exact Nat.le_refl _
  · unfold upd
    rw [if_pos rfl, if_pos h]; simp
def fm_gi (hg : Nat → Nat → Bool) (i : Nat) (f : Nat → Int32) : Prop := (∀ j, f j = 0 ∨ f j = 1) ∧ f i = 1 ∧ ∀ j, f j = 1 → j < 24 → cl_rt hg i j
def fm_cl (hg : Nat → Nat → Bool) (n a b : Nat) (f : Nat → Int32) (mr : Bool) : Prop := mr = false → ∀ x y, (x < a ∧ y < n ∨ x = a ∧ y < b) → f x = 1 → hg x y = true → f y = 1
theorem fm_cl_s {hg : Nat → Nat → Bool} {n a b : Nat} {f : Nat → Int32} {mr : Bool} (h : fm_cl hg n a b f mr) (h2 : f a = 1 → hg a b = true → f b = 1) : fm_cl hg n a (b + 1) f mr := by
  intro hm x y hxy h3 h4
  rcases hxy with hxy | ⟨rfl, hy⟩
  · exact h hm x y (Or.inl hxy) h3 h4
  · by_cases e : y = b
    · subst e; exact h2 h3 h4
    · exact h hm x y (Or.inr ⟨rfl, by omega⟩) h3 h4
theorem fm_cl_t {hg : Nat → Nat → Bool} {n a b : Nat} {f : Nat → Int32} : fm_cl hg n a b f true := fun h => by cases h
theorem fm_cl_n {hg : Nat → Nat → Bool} {n a : Nat} {f : Nat → Int32} {mr : Bool} (h : fm_cl hg n a n f mr) : fm_cl hg n (a + 1) 0 f mr := by
  intro hm x y hxy h3 h4
  rcases hxy with ⟨hx, hy⟩ | ⟨-, hy⟩
  · by_cases e : x = a
    · subst e; exact h hm x y (Or.inr ⟨rfl, hy⟩) h3 h4
    · exact h hm x y (Or.inl ⟨by omega, hy⟩) h3 h4
  · omega
theorem fm_cl_0 {hg : Nat → Nat → Bool} {n : Nat} {f : Nat → Int32} {mr : Bool} : fm_cl hg n 0 0 f mr := by
  intro _ x y hxy
  omega
theorem fm_gi_up {hg : Nat → Nat → Bool} {i a b : Nat} {f : Nat → Int32} (h : fm_gi hg i f) (ha : a < 24) (h1 : f a = 1) (h2 : hg a b = true) : fm_gi hg i (upd f b 1) := by
  obtain ⟨q1, q2, q3⟩ := h
  refine ⟨fun j => ?_, ?_, fun j hj hj2 => ?_⟩
  · unfold upd; split
    · exact Or.inr rfl
    · exact q1 j
  · unfold upd; split
    · rfl
    · exact q2
  · unfold upd at hj; split at hj
    · rename_i e; subst e; exact cl_rt_step (q3 a h1 ha) h2
    · exact q3 j hj hj2
theorem fm_gi_end {hg : Nat → Nat → Bool} {n i : Nat} {f : Nat → Int32} (hn : n ≤ 24) (hi : i < 24) (hb : ∀ i k, hg i k = true → i < n ∧ k < n) (h : fm_gi hg i f) (hc : fm_cl hg n n 0 f false) (j : Nat) (hj : j < 24) : f j = 1 ↔ cl_rt hg i j := by
  have key := cl_fix (h := hg) (F := fun j => decide (f j = 1 ∧ j < 24)) (a := i) (b := j) (decide_eq_true ⟨h.2.1, hi⟩) (fun x y hx hxy => ?_) (fun x hx => ?_)
  · rw [← key]
    constructor
    · intro q; exact decide_eq_true ⟨q, hj⟩
    · intro q; exact (of_decide_eq_true q).1
  · obtain ⟨q1, q2⟩ := of_decide_eq_true hx
    obtain ⟨q3, q4⟩ := hb x y hxy
    exact decide_eq_true ⟨hc rfl x y (Or.inl ⟨q3, q4⟩) q1 hxy, by omega⟩
  · obtain ⟨q1, q2⟩ := of_decide_eq_true hx
    exact h.2.2 x q1 q2
theorem bI_1 {b : Bool} : bI b = 1 ↔ b = true := by cases b <;> simp [bI]
theorem i01 {x : Int32} (h : x = 0 ∨ x = 1) (h2 : ¬ x = 0) : x = 1 := h.resolve_left h2
theorem c_MO_fg1 {g : fw_G} {nc ns : Nat} {w0 : fw_W} {mo : Nat} {ar : Nat → Nat} (hA : fm_ad mo ar) {th so pl po : Int32} {us n : Nat} {F : fm_F} {Post : fw_O → fw_W → Prop} {i : Nat} (hi : i < 24) : ∀ m k (f : Nat → Int32), k + m = 24 → (∀ j, j < k → f j = bI (decide (j = i))) → (∀ j, f j = 0 ∨ f j = 1) → (∀ f2 : Nat → Int32, (∀ j, j < 24 → f2 j = bI (decide (j = i))) → (∀ j, f2 j = 0 ∨ f2 j = 1) → fw_R g m_MO_findGroups Post nc ns (fm_W g w0 mo ar (th, us, n, so, pl, po) (fm_s F 2 f2)) 30 [(0, .ref mo), (1, .int (nI i)), (2, .int (nI 24))] []) → fw_R g m_MO_findGroups Post nc ns (fm_W g w0 mo ar (th, us, n, so, pl, po) (fm_s F 2 f)) 2 [(0, .ref mo), (1, .int (nI i)), (2, .int (nI k))] [] := by
  intro m
  induction m with
  | zero =>
    intro k f hk h1 h2 kk
    have hk2 : k = 24 := by omega
    subst hk2
    refine fr_iload_n (pc := 2) d_MO_findGroups_2 rfl rfl ?_
    refine fr_bipush (pc := 3) (v := 24) d_MO_findGroups_3 (by decide) ?_
    refine fr_icmp_geN (pc := 5) (tgt := 30) (a := 24) (b := 24) d_MO_findGroups_5 (by decide) (by omega) (by omega) (fun _ => ?_) (fun q => absurd q (by omega))
    exact kk f h1 h2
  | succ m ih =>
    intro k f hk h1 h2 kk
    refine fr_iload_n (pc := 2) d_MO_findGroups_2 rfl rfl ?_
    refine fr_bipush (pc := 3) (v := 24) d_MO_findGroups_3 (by decide) ?_
    refine fr_icmp_geN (pc := 5) (tgt := 30) (a := k) (b := 24) d_MO_findGroups_5 (by decide) (by omega) (by omega) (fun q => absurd q (by omega)) (fun _ => ?_)
    refine fr_aload_n (pc := 8) d_MO_findGroups_8 rfl rfl ?_
    refine fr_get (pc := 9) (v := .ref (ar 2)) d_MO_findGroups_9 fg_MO_20 fm_mo rfl ?_
    refine fr_iload_n (pc := 12) d_MO_findGroups_12 rfl rfl ?_
    refine fr_iload_n (pc := 13) d_MO_findGroups_13 rfl rfl ?_
    refine fr_iload_n (pc := 14) d_MO_findGroups_14 rfl rfl ?_
    refine fr_icmp_neN (pc := 15) (tgt := 22) (a := k) (b := i) d_MO_findGroups_15 (by decide) (by omega) (by omega) (fun e => ?_) (fun e => ?_)
    · refine fr_iconst (pc := 22) (v := 0) d_MO_findGroups_22 (by decide) ?_
      refine fr_mzst (pc := 23) (j := 2) (k := k) (x := 0) d_MO_findGroups_23 hA (by decide) rfl (by show k < 24; omega) (Or.inl rfl) ?_
      refine fr_iinc (pc := 24) (v := (nI (k + 1))) (L2 := [(0, .ref mo), (1, .int (nI i)), (2, .int (nI (k + 1)))]) d_MO_findGroups_24 rfl (fi_1 _) (by decide) rfl ?_
      refine fr_goto (pc := 27) (tgt := 2) d_MO_findGroups_27 (by decide) ?_
      rw [fm_e_s]
      refine ih (k + 1) (upd f k 0) (by omega) (fun j hj => ?_) (fun j => ?_) kk
      · unfold upd
        by_cases q : j = k
        · rw [if_pos q, q]; simp [e, bI]
        · rw [if_neg q]; exact h1 j (by omega)
      · unfold upd; split
        · exact Or.inl rfl
        · exact h2 j
    · refine fr_iconst (pc := 18) (v := 1) d_MO_findGroups_18 (by decide) ?_
      refine fr_goto (pc := 19) (tgt := 23) d_MO_findGroups_19 (by decide) ?_
      refine fr_mzst (pc := 23) (j := 2) (k := k) (x := 1) d_MO_findGroups_23 hA (by decide) rfl (by show k < 24; omega) (Or.inr rfl) ?_
      refine fr_iinc (pc := 24) (v := (nI (k + 1))) (L2 := [(0, .ref mo), (1, .int (nI i)), (2, .int (nI (k + 1)))]) d_MO_findGroups_24 rfl (fi_1 _) (by decide) rfl ?_
      refine fr_goto (pc := 27) (tgt := 2) d_MO_findGroups_27 (by decide) ?_
      rw [fm_e_s]
      refine ih (k + 1) (upd f k 1) (by omega) (fun j hj => ?_) (fun j => ?_) kk
      · unfold upd
        by_cases q : j = k
        · rw [if_pos q, q]; simp [e, bI]
        · rw [if_neg q]; exact h1 j (by omega)
      · unfold upd; split
        · exact Or.inr rfl
        · exact h2 j
theorem c_MO_fg2 {g : fw_G} {nc ns : Nat} {w0 : fw_W} {mo : Nat} {ar : Nat → Nat} (hA : fm_ad mo ar) {th so pl po : Int32} {us n : Nat} {F : fm_F} {Post : fw_O → fw_W → Prop} {hg : Nat → Nat → Bool} (h1 : ∀ i j, i < 24 → j < 24 → F 1 (24 * i + j) = bI (hg i j)) (hn : n ≤ 24) {i : Nat} {a c0 : Nat} (ha : a < n) : ∀ m b (f : Nat → Int32) (mr : Bool), b + m = n → fm_gi hg i f → fm_cl hg n a b f mr → fm_ct f ≤ c0 → (mr = true → fm_ct f < c0) → (∀ (f2 : Nat → Int32) (mr2 : Bool), fm_gi hg i f2 → fm_cl hg n a n f2 mr2 → fm_ct f2 ≤ c0 → (mr2 = true → fm_ct f2 < c0) → fw_R g m_MO_findGroups Post nc ns (fm_W g w0 mo ar (th, us, n, so, pl, po) (fm_s F 2 f2)) 110 [(0, .ref mo), (1, .int (nI i)), (2, .int (bI mr2)), (3, .int (nI a)), (4, .int (nI n))] []) → fw_R g m_MO_findGroups Post nc ns (fm_W g w0 mo ar (th, us, n, so, pl, po) (fm_s F 2 f)) 51 [(0, .ref mo), (1, .int (nI i)), (2, .int (bI mr)), (3, .int (nI a)), (4, .int (nI b))] [] := by
  intro m
  induction m with
  | zero =>
    intro b f mr hb hi hcl hc hc2 kk
    have hb2 : b = n := by omega
    subst hb2
    refine fr_iload (pc := 51) d_MO_findGroups_51 rfl ?_
    refine fr_aload_n (pc := 53) d_MO_findGroups_53 rfl rfl ?_
    refine fr_get (pc := 54) (v := .int (nI b)) d_MO_findGroups_54 fg_MO_66 fm_mo rfl ?_
    refine fr_icmp_geN (pc := 57) (tgt := 110) (a := b) (b := b) d_MO_findGroups_57 (by decide) (by omega) (by omega) (fun _ => ?_) (fun q => absurd q (by omega))
    exact kk f mr hi hcl hc hc2
  | succ m ih =>
    intro b f mr hb hi hcl hc hc2 kk
    have h1b := h1 a b (by omega) (by omega)
    refine fr_iload (pc := 51) d_MO_findGroups_51 rfl ?_
    refine fr_aload_n (pc := 53) d_MO_findGroups_53 rfl rfl ?_
    refine fr_get (pc := 54) (v := .int (nI n)) d_MO_findGroups_54 fg_MO_66 fm_mo rfl ?_
    refine fr_icmp_geN (pc := 57) (tgt := 110) (a := b) (b := n) d_MO_findGroups_57 (by decide) (by omega) (by omega) (fun q => absurd q (by omega)) (fun _ => ?_)
    refine fr_aload_n (pc := 60) d_MO_findGroups_60 rfl rfl ?_
    refine fr_get (pc := 61) (v := .ref (ar 2)) d_MO_findGroups_61 fg_MO_20 fm_mo rfl ?_
    refine fr_iload_n (pc := 64) d_MO_findGroups_64 rfl rfl ?_
    refine fr_mzld (pc := 65) (j := 2) (k := a) d_MO_findGroups_65 hA (by decide) rfl (by show a < 24; omega) ?_
    refine fr_st (st2 := [.int (f a)]) (by rw [fm_s_self]) ?_
    refine fr_if_eq (pc := 66) (tgt := 104) d_MO_findGroups_66 (by decide) (fun q1 => ?_) (fun q1 => ?_)
    · refine fr_iinc (pc := 104) (v := (nI (b + 1))) (L2 := [(0, .ref mo), (1, .int (nI i)), (2, .int (bI mr)), (3, .int (nI a)), (4, .int (nI (b + 1)))]) d_MO_findGroups_104 rfl (fi_1 _) (by decide) rfl ?_
      refine fr_goto (pc := 107) (tgt := 51) d_MO_findGroups_107 (by decide) ?_
      exact ih (b + 1) f mr (by omega) hi (fm_cl_s hcl (fun z => absurd z (by rw [q1]; decide))) hc hc2 kk
    · have e1 := i01 (hi.1 a) q1
      refine fr_aload_n (pc := 69) d_MO_findGroups_69 rfl rfl ?_
      refine fr_get (pc := 70) (v := .ref (ar 1)) d_MO_findGroups_70 fg_MO_17 fm_mo rfl ?_
      refine fr_bipush (pc := 73) (v := 24) d_MO_findGroups_73 (by decide) ?_
      refine fr_iload_n (pc := 75) d_MO_findGroups_75 rfl rfl ?_
      refine fr_imulN (pc := 76) (a := 24) (b := a) d_MO_findGroups_76 ?_
      refine fr_iload (pc := 77) d_MO_findGroups_77 rfl ?_
      refine fr_iaddN (pc := 79) (a := (24 * a)) (b := b) d_MO_findGroups_79 ?_
      refine fr_mzld (pc := 80) (j := 1) (k := ((24 * a) + b)) d_MO_findGroups_80 hA (by decide) rfl (by show ((24 * a) + b) < 576; omega) ?_
      refine fr_st (st2 := [.int (bI (hg a b))]) (by rw [fm_s_ne (by decide), h1b]) ?_
      refine fr_if_eq (pc := 81) (tgt := 104) d_MO_findGroups_81 (by decide) (fun q2 => ?_) (fun q2 => ?_)
      · refine fr_iinc (pc := 104) (v := (nI (b + 1))) (L2 := [(0, .ref mo), (1, .int (nI i)), (2, .int (bI mr)), (3, .int (nI a)), (4, .int (nI (b + 1)))]) d_MO_findGroups_104 rfl (fi_1 _) (by decide) rfl ?_
        refine fr_goto (pc := 107) (tgt := 51) d_MO_findGroups_107 (by decide) ?_
        exact ih (b + 1) f mr (by omega) hi (fm_cl_s hcl (fun _ z => absurd z (by rw [bI_0.mp q2]; decide))) hc hc2 kk
      · have e2 := ts_nf (fun x => q2 (bI_0.mpr x))
        refine fr_aload_n (pc := 84) d_MO_findGroups_84 rfl rfl ?_
        refine fr_get (pc := 85) (v := .ref (ar 2)) d_MO_findGroups_85 fg_MO_20 fm_mo rfl ?_
        refine fr_iload (pc := 88) d_MO_findGroups_88 rfl ?_
        refine fr_mzld (pc := 90) (j := 2) (k := b) d_MO_findGroups_90 hA (by decide) rfl (by show b < 24; omega) ?_
        refine fr_st (st2 := [.int (f b)]) (by rw [fm_s_self]) ?_
        refine fr_if_ne (pc := 91) (tgt := 104) d_MO_findGroups_91 (by decide) (fun q3 => ?_) (fun q3 => ?_)
        · refine fr_iinc (pc := 104) (v := (nI (b + 1))) (L2 := [(0, .ref mo), (1, .int (nI i)), (2, .int (bI mr)), (3, .int (nI a)), (4, .int (nI (b + 1)))]) d_MO_findGroups_104 rfl (fi_1 _) (by decide) rfl ?_
          refine fr_goto (pc := 107) (tgt := 51) d_MO_findGroups_107 (by decide) ?_
          exact ih (b + 1) f mr (by omega) hi (fm_cl_s hcl (fun _ _ => i01 (hi.1 b) q3)) hc hc2 kk
        · refine fr_aload_n (pc := 94) d_MO_findGroups_94 rfl rfl ?_
          refine fr_get (pc := 95) (v := .ref (ar 2)) d_MO_findGroups_95 fg_MO_20 fm_mo rfl ?_
          refine fr_iload (pc := 98) d_MO_findGroups_98 rfl ?_
          refine fr_iconst (pc := 100) (v := 1) d_MO_findGroups_100 (by decide) ?_
          refine fr_mzst (pc := 101) (j := 2) (k := b) (x := 1) d_MO_findGroups_101 hA (by decide) rfl (by show b < 24; omega) (Or.inr rfl) ?_
          refine fr_iconst (pc := 102) (v := 1) d_MO_findGroups_102 (by decide) ?_
          refine fr_istore_n (pc := 103) (L2 := [(0, .ref mo), (1, .int (nI i)), (2, .int 1), (3, .int (nI a)), (4, .int (nI b))]) d_MO_findGroups_103 rfl (by decide) rfl ?_
          refine fr_iinc (pc := 104) (v := (nI (b + 1))) (L2 := [(0, .ref mo), (1, .int (nI i)), (2, .int 1), (3, .int (nI a)), (4, .int (nI (b + 1)))]) d_MO_findGroups_104 rfl (fi_1 _) (by decide) rfl ?_
          refine fr_goto (pc := 107) (tgt := 51) d_MO_findGroups_107 (by decide) ?_
          rw [fm_e_s]
          have hlt := fm_ct_lt (f := f) (b := b) (by omega) q3
          exact ih (b + 1) (upd f b 1) true (by omega) (fm_gi_up hi (by omega) e1 e2) fm_cl_t (by omega) (fun _ => by omega) kk
theorem c_MO_fg3 {g : fw_G} {nc ns : Nat} {w0 : fw_W} {mo : Nat} {ar : Nat → Nat} (hA : fm_ad mo ar) {th so pl po : Int32} {us n : Nat} {F : fm_F} {Post : fw_O → fw_W → Prop} {hg : Nat → Nat → Bool} (h1 : ∀ i j, i < 24 → j < 24 → F 1 (24 * i + j) = bI (hg i j)) (hn : n ≤ 24) {i : Nat} {c0 : Nat} : ∀ m a (f : Nat → Int32) (mr : Bool), a + m = n → fm_gi hg i f → fm_cl hg n a 0 f mr → fm_ct f ≤ c0 → (mr = true → fm_ct f < c0) → (∀ (f2 : Nat → Int32) (mr2 : Bool), fm_gi hg i f2 → fm_cl hg n n 0 f2 mr2 → fm_ct f2 ≤ c0 → (mr2 = true → fm_ct f2 < c0) → fw_R g m_MO_findGroups Post nc ns (fm_W g w0 mo ar (th, us, n, so, pl, po) (fm_s F 2 f2)) 116 [(0, .ref mo), (1, .int (nI i)), (2, .int (bI mr2)), (3, .int (nI n))] []) → fw_R g m_MO_findGroups Post nc ns (fm_W g w0 mo ar (th, us, n, so, pl, po) (fm_s F 2 f)) 40 [(0, .ref mo), (1, .int (nI i)), (2, .int (bI mr)), (3, .int (nI a))] [] := by
  intro m
  induction m with
  | zero =>
    intro a f mr ha hi hcl hc hc2 kk
    have ha2 : a = n := by omega
    subst ha2
    refine fr_iload_n (pc := 40) d_MO_findGroups_40 rfl rfl ?_
    refine fr_aload_n (pc := 41) d_MO_findGroups_41 rfl rfl ?_
    refine fr_get (pc := 42) (v := .int (nI a)) d_MO_findGroups_42 fg_MO_66 fm_mo rfl ?_
    refine fr_icmp_geN (pc := 45) (tgt := 116) (a := a) (b := a) d_MO_findGroups_45 (by decide) (by omega) (by omega) (fun _ => ?_) (fun q => absurd q (by omega))
    exact kk f mr hi hcl hc hc2
  | succ m ih =>
    intro a f mr ha hi hcl hc hc2 kk
    refine fr_iload_n (pc := 40) d_MO_findGroups_40 rfl rfl ?_
    refine fr_aload_n (pc := 41) d_MO_findGroups_41 rfl rfl ?_
    refine fr_get (pc := 42) (v := .int (nI n)) d_MO_findGroups_42 fg_MO_66 fm_mo rfl ?_
    refine fr_icmp_geN (pc := 45) (tgt := 116) (a := a) (b := n) d_MO_findGroups_45 (by decide) (by omega) (by omega) (fun q => absurd q (by omega)) (fun _ => ?_)
    refine fr_iconst (pc := 48) (v := 0) d_MO_findGroups_48 (by decide) ?_
    refine fr_istore (pc := 49) (L2 := [(0, .ref mo), (1, .int (nI i)), (2, .int (bI mr)), (3, .int (nI a)), (4, .int 0)]) d_MO_findGroups_49 (by decide) rfl ?_
    refine c_MO_fg2 hA h1 hn (by omega) n 0 f mr (by omega) hi hcl hc hc2 (fun f2 mr2 hi2 hcl2 hc3 hc4 => ?_)
    refine fr_iinc (pc := 110) (v := (nI (a + 1))) (L2 := [(0, .ref mo), (1, .int (nI i)), (2, .int (bI mr2)), (3, .int (nI (a + 1))), (4, .int (nI n))]) d_MO_findGroups_110 rfl (fi_1 _) (by decide) rfl ?_
    refine fr_goto (pc := 113) (tgt := 40) d_MO_findGroups_113 (by decide) ?_
    exact fr_Ld (ih (a + 1) f2 mr2 (by omega) hi2 (fm_cl_n hcl2) hc3 hc4 kk)
theorem c_MO_fg4 {g : fw_G} {nc ns : Nat} {w0 : fw_W} {mo : Nat} {ar : Nat → Nat} (hA : fm_ad mo ar) {th so pl po : Int32} {us n : Nat} {F : fm_F} {Post : fw_O → fw_W → Prop} {hg : Nat → Nat → Bool} (h1 : ∀ i j, i < 24 → j < 24 → F 1 (24 * i + j) = bI (hg i j)) (hn : n ≤ 24) {i : Nat} : ∀ c (f : Nat → Int32), fm_ct f ≤ c → fm_gi hg i f → (∀ f2 : Nat → Int32, fm_gi hg i f2 → fm_cl hg n n 0 f2 false → fw_R g m_MO_findGroups Post nc ns (fm_W g w0 mo ar (th, us, n, so, pl, po) (fm_s F 2 f2)) 119 [(0, .ref mo), (1, .int (nI i)), (2, .int 0)] []) → fw_R g m_MO_findGroups Post nc ns (fm_W g w0 mo ar (th, us, n, so, pl, po) (fm_s F 2 f)) 32 [(0, .ref mo), (1, .int (nI i)), (2, .int 1)] [] := by
  intro c
  induction c with
  | zero =>
    intro f hc hi kk
    refine fr_iload_n (pc := 32) d_MO_findGroups_32 rfl rfl ?_
    refine fr_if_eq (pc := 33) (tgt := 119) d_MO_findGroups_33 (by decide) (fun q => absurd q (by decide)) (fun _ => ?_)
    refine fr_iconst (pc := 36) (v := 0) d_MO_findGroups_36 (by decide) ?_
    refine fr_istore_n (pc := 37) (L2 := [(0, .ref mo), (1, .int (nI i)), (2, .int 0)]) d_MO_findGroups_37 rfl (by decide) rfl ?_
    refine fr_iconst (pc := 38) (v := 0) d_MO_findGroups_38 (by decide) ?_
    refine fr_istore_n (pc := 39) (L2 := [(0, .ref mo), (1, .int (nI i)), (2, .int 0), (3, .int 0)]) d_MO_findGroups_39 rfl (by decide) rfl ?_
    refine c_MO_fg3 hA h1 hn (c0 := fm_ct f) n 0 f false (by omega) hi fm_cl_0 (Nat.le_refl _) (fun z => by cases z) (fun f2 mr2 hi2 hcl2 hc3 hc4 => ?_)
    refine fr_goto (pc := 116) (tgt := 32) d_MO_findGroups_116 (by decide) ?_
    cases mr2 with
    | false =>
      refine fr_iload_n (pc := 32) d_MO_findGroups_32 rfl rfl ?_
      refine fr_if_eq (pc := 33) (tgt := 119) d_MO_findGroups_33 (by decide) (fun _ => ?_) (fun q => absurd q (by decide))
      exact fr_Ld (kk f2 hi2 hcl2)
    | true =>
      exact absurd (hc4 rfl) (by omega)
  | succ c ih =>
    intro f hc hi kk
    refine fr_iload_n (pc := 32) d_MO_findGroups_32 rfl rfl ?_
    refine fr_if_eq (pc := 33) (tgt := 119) d_MO_findGroups_33 (by decide) (fun q => absurd q (by decide)) (fun _ => ?_)
    refine fr_iconst (pc := 36) (v := 0) d_MO_findGroups_36 (by decide) ?_
    refine fr_istore_n (pc := 37) (L2 := [(0, .ref mo), (1, .int (nI i)), (2, .int 0)]) d_MO_findGroups_37 rfl (by decide) rfl ?_
    refine fr_iconst (pc := 38) (v := 0) d_MO_findGroups_38 (by decide) ?_
    refine fr_istore_n (pc := 39) (L2 := [(0, .ref mo), (1, .int (nI i)), (2, .int 0), (3, .int 0)]) d_MO_findGroups_39 rfl (by decide) rfl ?_
    refine c_MO_fg3 hA h1 hn (c0 := fm_ct f) n 0 f false (by omega) hi fm_cl_0 (Nat.le_refl _) (fun z => by cases z) (fun f2 mr2 hi2 hcl2 hc3 hc4 => ?_)
    refine fr_goto (pc := 116) (tgt := 32) d_MO_findGroups_116 (by decide) ?_
    cases mr2 with
    | false =>
      refine fr_iload_n (pc := 32) d_MO_findGroups_32 rfl rfl ?_
      refine fr_if_eq (pc := 33) (tgt := 119) d_MO_findGroups_33 (by decide) (fun _ => ?_) (fun q => absurd q (by decide))
      exact fr_Ld (kk f2 hi2 hcl2)
    | true =>
      exact fr_Ld (ih f2 (by have := hc4 rfl; omega) hi2 kk)
theorem c_MO_findGroups {g : fw_G} {nc ns : Nat} {w0 : fw_W} {mo : Nat} {ar : Nat → Nat} (hA : fm_ad mo ar) {th so pl po : Int32} {us n : Nat} {F : fm_F} {hg : Nat → Nat → Bool} (h1 : ∀ i j, i < 24 → j < 24 → F 1 (24 * i + j) = bI (hg i j)) (hn : n ≤ 24) {i : Nat} (hi : i < 24) (hb : ∀ i k, hg i k = true → i < n ∧ k < n) (h2 : ∀ j, F 2 j = 0 ∨ F 2 j = 1) : fw_R g m_MO_findGroups ((fun r u => r = .inl none ∧ ∃ f : Nat → Int32, u = (fm_W g w0 mo ar (th, us, n, so, pl, po) (fm_s F 2 f)) ∧ (∀ j, f j = 0 ∨ f j = 1) ∧ ∀ j, j < 24 → (f j = 1 ↔ cl_rt hg i j))) nc ns (fm_W g w0 mo ar (th, us, n, so, pl, po) F) 0 [(0, .ref mo), (1, .int (nI i))] [] := by
  refine fr_iconst (pc := 0) (v := 0) d_MO_findGroups_0 (by decide) ?_
  refine fr_istore_n (pc := 1) (L2 := [(0, .ref mo), (1, .int (nI i)), (2, .int 0)]) d_MO_findGroups_1 rfl (by decide) rfl ?_
  have e0 : (fm_W g w0 mo ar (th, us, n, so, pl, po) F) = (fm_W g w0 mo ar (th, us, n, so, pl, po) (fm_s F 2 (F 2))) := by rw [fm_s_id]
  rw [e0]
  refine c_MO_fg1 hA hi 24 0 (F 2) rfl (fun j hj => absurd hj (Nat.not_lt_zero _)) h2 (fun f2 q1 q2 => ?_)
  refine fr_iconst (pc := 30) (v := 1) d_MO_findGroups_30 (by decide) ?_
  refine fr_istore_n (pc := 31) (L2 := [(0, .ref mo), (1, .int (nI i)), (2, .int 1)]) d_MO_findGroups_31 rfl (by decide) rfl ?_
  refine c_MO_fg4 hA h1 hn (fm_ct f2) f2 (Nat.le_refl _) ⟨q2, by rw [q1 i hi]; simp [bI], fun j hj hj2 => ?_⟩ (fun f3 q3 q4 => ?_)
  · rw [q1 j hj2] at hj
    have e := of_decide_eq_true (bI_1.mp hj)
    subst e; exact cl_rt_refl
  · exact fr_vret rfl d_MO_findGroups_119 ⟨rfl, f3, rfl, q3.1, fm_gi_end hn hi hb q3 q4⟩
theorem fm_s_23 {F : fm_F} {f f2 h : Nat → Int32} : fm_s (fm_s (fm_s F 2 f) 3 h) 2 f2 = fm_s (fm_s F 2 f2) 3 h := by
  funext i
  by_cases h2 : i = 2
  · subst h2; rw [fm_s_self, fm_s_ne (by decide), fm_s_self]
  · rw [fm_s_ne h2]
    by_cases h3 : i = 3
    · subst h3; rw [fm_s_self, fm_s_self]
    · rw [fm_s_ne h3, fm_s_ne h3, fm_s_ne h2, fm_s_ne h2]
theorem fs_in_iff {hu hg : Nat → Nat → Bool} {i u : Nat} : fs_in hu hg i u = true ↔ ∃ k, cl_rt hg i k ∧ hu k u = true := by
  unfold fs_in
  simp
theorem fs_in_no {hu hg : Nat → Nat → Bool} {us n : Nat} (hub : ∀ i u, hu i u = true → i < n ∧ u < us) (hgb : ∀ i k, hg i k = true → i < n ∧ k < n) {x y : Nat} (h : ¬ (x < n ∧ y < us)) : fs_in hu hg x y = false := by
  cases h9 : fs_in hu hg x y with
  | false => rfl
  | true =>
    obtain ⟨k, h1, h2⟩ := fs_in_iff.mp h9
    obtain ⟨h3, h4⟩ := hub k y h2
    rcases cl_rt_iff.mp h1 with rfl | h5
    · exact absurd ⟨h3, h4⟩ h
    · exact absurd ⟨(gr_tc_n hgb h5).1, h4⟩ h
def fm_ex (hu hg : Nat → Nat → Bool) (us : Nat) (f0 : Nat → Int32) (h : Nat → Int32) (i u : Nat) : Prop := (∀ j, h j = 0 ∨ h j = 1) ∧ ∀ x y, x < 24 → y < 60 → h (60 * x + y) = (if (x < i ∨ x = i ∧ y < u) ∧ y < us then bI (fs_in hu hg x y) else f0 (60 * x + y))
theorem fm_ex_s {hu hg : Nat → Nat → Bool} {us : Nat} {f0 h : Nat → Int32} {i u : Nat} (hx : fm_ex hu hg us f0 h i u) (hu2 : u < us) (hus : us ≤ 60) : fm_ex hu hg us f0 (upd h (60 * i + u) (bI (fs_in hu hg i u))) i (u + 1) := by
  refine ⟨fun j => ?_, fun x y h1 h2 => ?_⟩
  · unfold upd; split
    · exact bI_01 _
    · exact hx.1 j
  · unfold upd
    by_cases e : x = i ∧ y = u
    · obtain ⟨rfl, rfl⟩ := e
      rw [if_pos rfl, if_pos ⟨Or.inr ⟨rfl, by omega⟩, hu2⟩]
    · rw [if_neg (by omega), hx.2 x y h1 h2]
      by_cases q : (x < i ∨ x = i ∧ y < u) ∧ y < us
      · rw [if_pos q, if_pos (by omega)]
      · rw [if_neg q, if_neg (by omega)]
theorem fm_ex_n {hu hg : Nat → Nat → Bool} {us : Nat} {f0 h : Nat → Int32} {i : Nat} (hx : fm_ex hu hg us f0 h i us) : fm_ex hu hg us f0 h (i + 1) 0 := by
  refine ⟨hx.1, fun x y h1 h2 => ?_⟩
  rw [hx.2 x y h1 h2]
  by_cases q : (x < i ∨ x = i ∧ y < us) ∧ y < us
  · rw [if_pos q, if_pos (by omega)]
  · rw [if_neg q, if_neg (by omega)]
theorem fm_ex_0 {hu hg : Nat → Nat → Bool} {us : Nat} {f0 : Nat → Int32} (h : ∀ j, f0 j = 0 ∨ f0 j = 1) : fm_ex hu hg us f0 f0 0 0 := by
  refine ⟨h, fun x y h1 h2 => ?_⟩
  rw [if_neg (by omega)]
theorem c_MO_st1 {g : fw_G} {nc ns : Nat} {w0 : fw_W} {mo : Nat} {ar : Nat → Nat} (hA : fm_ad mo ar) {th so pl po : Int32} {us n : Nat} {F : fm_F} {Post : fw_O → fw_W → Prop} {hu : Nat → Nat → Bool} (h0 : ∀ i u, i < 24 → u < 60 → F 0 (60 * i + u) = bI (hu i u)) (hn : n ≤ 24) (hus : us ≤ 60) {i u : Nat} (hu2 : u < us) {f h : Nat → Int32} (hf : ∀ j, f j = 0 ∨ f j = 1) : ∀ m k (z : Bool), k + m = n → (∀ z2 : Bool, (z2 = true ↔ (z = true ∨ ∃ j, k ≤ j ∧ j < n ∧ f j = 1 ∧ hu j u = true)) → fw_R g m_MO_settle Post nc ns (fm_W g w0 mo ar (th, us, n, so, pl, po) (fm_s (fm_s F 2 f) 3 h)) 80 [(0, .ref mo), (1, .int (nI i)), (2, .int (nI u)), (3, .int (bI z2)), (4, .int (nI n))] []) → fw_R g m_MO_settle Post nc ns (fm_W g w0 mo ar (th, us, n, so, pl, po) (fm_s (fm_s F 2 f) 3 h)) 30 [(0, .ref mo), (1, .int (nI i)), (2, .int (nI u)), (3, .int (bI z)), (4, .int (nI k))] [] := by
  intro m
  induction m with
  | zero =>
    intro k z hk kk
    have hk2 : k = n := by omega
    subst hk2
    refine fr_iload (pc := 30) d_MO_settle_30 rfl ?_
    refine fr_aload_n (pc := 32) d_MO_settle_32 rfl rfl ?_
    refine fr_get (pc := 33) (v := .int (nI k)) d_MO_settle_33 fg_MO_66 fm_mo rfl ?_
    refine fr_icmp_geN (pc := 36) (tgt := 80) (a := k) (b := k) d_MO_settle_36 (by decide) (by omega) (by omega) (fun _ => ?_) (fun q => absurd q (by omega))
    refine kk z ⟨Or.inl, fun q => ?_⟩
    rcases q with q | ⟨j, q1, q2, -⟩
    · exact q
    · omega
  | succ m ih =>
    intro k z hk kk
    have h0k := h0 k u (by omega) (by omega)
    refine fr_iload (pc := 30) d_MO_settle_30 rfl ?_
    refine fr_aload_n (pc := 32) d_MO_settle_32 rfl rfl ?_
    refine fr_get (pc := 33) (v := .int (nI n)) d_MO_settle_33 fg_MO_66 fm_mo rfl ?_
    refine fr_icmp_geN (pc := 36) (tgt := 80) (a := k) (b := n) d_MO_settle_36 (by decide) (by omega) (by omega) (fun q => absurd q (by omega)) (fun _ => ?_)
    refine fr_iload_n (pc := 39) d_MO_settle_39 rfl rfl ?_
    refine fr_if_ne (pc := 40) (tgt := 68) d_MO_settle_40 (by decide) (fun q1 => ?_) (fun q1 => ?_)
    · have e1 := ts_nf (fun x => q1 (bI_0.mpr x))
      refine fr_iconst (pc := 68) (v := 1) d_MO_settle_68 (by decide) ?_
      refine fr_goto (pc := 69) (tgt := 73) d_MO_settle_69 (by decide) ?_
      refine fr_istore_n (pc := 73) (L2 := [(0, .ref mo), (1, .int (nI i)), (2, .int (nI u)), (3, .int 1), (4, .int (nI k))]) d_MO_settle_73 rfl (by decide) rfl ?_
      refine fr_iinc (pc := 74) (v := (nI (k + 1))) (L2 := [(0, .ref mo), (1, .int (nI i)), (2, .int (nI u)), (3, .int 1), (4, .int (nI (k + 1)))]) d_MO_settle_74 rfl (fi_1 _) (by decide) rfl ?_
      refine fr_goto (pc := 77) (tgt := 30) d_MO_settle_77 (by decide) ?_
      refine ih (k + 1) true (by omega) (fun z2 h2 => kk z2 ?_)
      rw [h2]
      exact ⟨fun _ => Or.inl e1, fun _ => Or.inl rfl⟩
    · have e1 := bI_0.mp q1
      refine fr_aload_n (pc := 43) d_MO_settle_43 rfl rfl ?_
      refine fr_get (pc := 44) (v := .ref (ar 2)) d_MO_settle_44 fg_MO_20 fm_mo rfl ?_
      refine fr_iload (pc := 47) d_MO_settle_47 rfl ?_
      refine fr_mzld (pc := 49) (j := 2) (k := k) d_MO_settle_49 hA (by decide) rfl (by show k < 24; omega) ?_
      refine fr_st (st2 := [.int (f k)]) (by rw [fm_s_ne (by decide), fm_s_self]) ?_
      refine fr_if_eq (pc := 50) (tgt := 72) d_MO_settle_50 (by decide) (fun q2 => ?_) (fun q2 => ?_)
      · refine fr_iconst (pc := 72) (v := 0) d_MO_settle_72 (by decide) ?_
        refine fr_istore_n (pc := 73) (L2 := [(0, .ref mo), (1, .int (nI i)), (2, .int (nI u)), (3, .int 0), (4, .int (nI k))]) d_MO_settle_73 rfl (by decide) rfl ?_
        refine fr_iinc (pc := 74) (v := (nI (k + 1))) (L2 := [(0, .ref mo), (1, .int (nI i)), (2, .int (nI u)), (3, .int 0), (4, .int (nI (k + 1)))]) d_MO_settle_74 rfl (fi_1 _) (by decide) rfl ?_
        refine fr_goto (pc := 77) (tgt := 30) d_MO_settle_77 (by decide) ?_
        refine ih (k + 1) false (by omega) (fun z2 h2 => kk z2 ?_)
        rw [h2]
        constructor
        · rintro (q | ⟨j, r1, r2, r3, r4⟩)
          · cases q
          · exact Or.inr ⟨j, by omega, r2, r3, r4⟩
        · rintro (q | ⟨j, r1, r2, r3, r4⟩)
          · rw [e1] at q; cases q
          · refine Or.inr ⟨j, ?_, r2, r3, r4⟩
            by_cases e : j = k
            · subst e; rw [q2] at r3; exact absurd r3 (by decide)
            · omega
      · have e2 := i01 (hf k) q2
        refine fr_aload_n (pc := 53) d_MO_settle_53 rfl rfl ?_
        refine fr_get (pc := 54) (v := .ref (ar 0)) d_MO_settle_54 fg_MO_13 fm_mo rfl ?_
        refine fr_bipush (pc := 57) (v := 60) d_MO_settle_57 (by decide) ?_
        refine fr_iload (pc := 59) d_MO_settle_59 rfl ?_
        refine fr_imulN (pc := 61) (a := 60) (b := k) d_MO_settle_61 ?_
        refine fr_iload_n (pc := 62) d_MO_settle_62 rfl rfl ?_
        refine fr_iaddN (pc := 63) (a := (60 * k)) (b := u) d_MO_settle_63 ?_
        refine fr_mzld (pc := 64) (j := 0) (k := ((60 * k) + u)) d_MO_settle_64 hA (by decide) rfl (by show ((60 * k) + u) < 1440; omega) ?_
        refine fr_st (st2 := [.int (bI (hu k u))]) (by rw [fm_s_ne (by decide), fm_s_ne (by decide), h0k]) ?_
        refine fr_if_eq (pc := 65) (tgt := 72) d_MO_settle_65 (by decide) (fun q3 => ?_) (fun q3 => ?_)
        · refine fr_iconst (pc := 72) (v := 0) d_MO_settle_72 (by decide) ?_
          refine fr_istore_n (pc := 73) (L2 := [(0, .ref mo), (1, .int (nI i)), (2, .int (nI u)), (3, .int 0), (4, .int (nI k))]) d_MO_settle_73 rfl (by decide) rfl ?_
          refine fr_iinc (pc := 74) (v := (nI (k + 1))) (L2 := [(0, .ref mo), (1, .int (nI i)), (2, .int (nI u)), (3, .int 0), (4, .int (nI (k + 1)))]) d_MO_settle_74 rfl (fi_1 _) (by decide) rfl ?_
          refine fr_goto (pc := 77) (tgt := 30) d_MO_settle_77 (by decide) ?_
          refine ih (k + 1) false (by omega) (fun z2 h2 => kk z2 ?_)
          rw [h2]
          constructor
          · rintro (q | ⟨j, r1, r2, r3, r4⟩)
            · cases q
            · exact Or.inr ⟨j, by omega, r2, r3, r4⟩
          · rintro (q | ⟨j, r1, r2, r3, r4⟩)
            · rw [e1] at q; cases q
            · refine Or.inr ⟨j, ?_, r2, r3, r4⟩
              by_cases e : j = k
              · subst e; rw [bI_0.mp q3] at r4; cases r4
              · omega
        · have e3 := ts_nf (fun x => q3 (bI_0.mpr x))
          refine fr_iconst (pc := 68) (v := 1) d_MO_settle_68 (by decide) ?_
          refine fr_goto (pc := 69) (tgt := 73) d_MO_settle_69 (by decide) ?_
          refine fr_istore_n (pc := 73) (L2 := [(0, .ref mo), (1, .int (nI i)), (2, .int (nI u)), (3, .int 1), (4, .int (nI k))]) d_MO_settle_73 rfl (by decide) rfl ?_
          refine fr_iinc (pc := 74) (v := (nI (k + 1))) (L2 := [(0, .ref mo), (1, .int (nI i)), (2, .int (nI u)), (3, .int 1), (4, .int (nI (k + 1)))]) d_MO_settle_74 rfl (fi_1 _) (by decide) rfl ?_
          refine fr_goto (pc := 77) (tgt := 30) d_MO_settle_77 (by decide) ?_
          refine ih (k + 1) true (by omega) (fun z2 h2 => kk z2 ?_)
          rw [h2]
          exact ⟨fun _ => Or.inr ⟨k, Nat.le_refl _, by omega, e2, e3⟩, fun _ => Or.inl rfl⟩
theorem fm_L5 {q a b c d e : Nat × Value} (h : q ∈ [a, b, c]) : q ∈ [a, b, c, d, e] := by
  rcases List.mem_cons.mp h with h | h
  · subst h; exact List.mem_cons_self
  · rcases List.mem_cons.mp h with h | h
    · subst h; exact List.mem_cons_of_mem _ List.mem_cons_self
    · rcases List.mem_cons.mp h with h | h
      · subst h; exact List.mem_cons_of_mem _ (List.mem_cons_of_mem _ List.mem_cons_self)
      · cases h
theorem c_MO_st2 {g : fw_G} {nc ns : Nat} {w0 : fw_W} {mo : Nat} {ar : Nat → Nat} (hA : fm_ad mo ar) {th so pl po : Int32} {us n : Nat} {F : fm_F} {Post : fw_O → fw_W → Prop} {hu : Nat → Nat → Bool} (h0 : ∀ i u, i < 24 → u < 60 → F 0 (60 * i + u) = bI (hu i u)) (hn : n ≤ 24) (hus : us ≤ 60) {hg : Nat → Nat → Bool} (hub : ∀ i u, hu i u = true → i < n ∧ u < us) {i : Nat} (hi : i < n) {f f0 : Nat → Int32} (hf : ∀ j, f j = 0 ∨ f j = 1) (hfi : ∀ j, j < 24 → (f j = 1 ↔ cl_rt hg i j)) : ∀ m u (h : Nat → Int32), u + m = us → fm_ex hu hg us f0 h i u → (∀ h2 : Nat → Int32, fm_ex hu hg us f0 h2 i us → fw_R g m_MO_settle Post nc ns (fm_W g w0 mo ar (th, us, n, so, pl, po) (fm_s (fm_s F 2 f) 3 h2)) 98 [(0, .ref mo), (1, .int (nI i)), (2, .int (nI us))] []) → ∀ L : List (Nat × Value), (∀ q ∈ [(0, .ref mo), (1, .int (nI i)), (2, .int (nI u))], q ∈ L) → fw_R g m_MO_settle Post nc ns (fm_W g w0 mo ar (th, us, n, so, pl, po) (fm_s (fm_s F 2 f) 3 h)) 17 L [] := by
  intro m
  induction m with
  | zero =>
    intro u h hu2 hx kk L hL
    have hu3 : u = us := by omega
    subst hu3
    refine fr_L hL ?_
    refine fr_iload_n (pc := 17) d_MO_settle_17 rfl rfl ?_
    refine fr_aload_n (pc := 18) d_MO_settle_18 rfl rfl ?_
    refine fr_get (pc := 19) (v := .int (nI u)) d_MO_settle_19 fg_MO_7 fm_mo rfl ?_
    refine fr_icmp_geN (pc := 22) (tgt := 98) (a := u) (b := u) d_MO_settle_22 (by decide) (by omega) (by omega) (fun _ => ?_) (fun q => absurd q (by omega))
    exact kk h hx
  | succ m ih =>
    intro u h hu2 hx kk L hL
    refine fr_L hL ?_
    refine fr_iload_n (pc := 17) d_MO_settle_17 rfl rfl ?_
    refine fr_aload_n (pc := 18) d_MO_settle_18 rfl rfl ?_
    refine fr_get (pc := 19) (v := .int (nI us)) d_MO_settle_19 fg_MO_7 fm_mo rfl ?_
    refine fr_icmp_geN (pc := 22) (tgt := 98) (a := u) (b := us) d_MO_settle_22 (by decide) (by omega) (by omega) (fun q => absurd q (by omega)) (fun _ => ?_)
    refine fr_iconst (pc := 25) (v := 0) d_MO_settle_25 (by decide) ?_
    refine fr_istore_n (pc := 26) (L2 := [(0, .ref mo), (1, .int (nI i)), (2, .int (nI u)), (3, .int 0)]) d_MO_settle_26 rfl (by decide) rfl ?_
    refine fr_iconst (pc := 27) (v := 0) d_MO_settle_27 (by decide) ?_
    refine fr_istore (pc := 28) (L2 := [(0, .ref mo), (1, .int (nI i)), (2, .int (nI u)), (3, .int 0), (4, .int 0)]) d_MO_settle_28 (by decide) rfl ?_
    refine c_MO_st1 hA h0 hn hus (by omega) hf n 0 false (by omega) (fun z2 hz => ?_)
    have e : z2 = fs_in hu hg i u := by
      have e2 : fs_in hu hg i u = true ↔ z2 = true := by
        rw [hz]
        rw [fs_in_iff]
        constructor
        · rintro ⟨k, r1, r2⟩
          have r3 := (hub k u r2).1
          exact Or.inr ⟨k, by omega, r3, (hfi k (by omega)).mpr r1, r2⟩
        · rintro (q | ⟨k, r1, r2, r3, r4⟩)
          · cases q
          · exact ⟨k, (hfi k (by omega)).mp r3, r4⟩
      cases h1 : z2 <;> cases h2 : fs_in hu hg i u <;> simp_all
    subst e
    refine fr_aload_n (pc := 80) d_MO_settle_80 rfl rfl ?_
    refine fr_get (pc := 81) (v := .ref (ar 3)) d_MO_settle_81 fg_MO_23 fm_mo rfl ?_
    refine fr_bipush (pc := 84) (v := 60) d_MO_settle_84 (by decide) ?_
    refine fr_iload_n (pc := 86) d_MO_settle_86 rfl rfl ?_
    refine fr_imulN (pc := 87) (a := 60) (b := i) d_MO_settle_87 ?_
    refine fr_iload_n (pc := 88) d_MO_settle_88 rfl rfl ?_
    refine fr_iaddN (pc := 89) (a := (60 * i)) (b := u) d_MO_settle_89 ?_
    refine fr_iload_n (pc := 90) d_MO_settle_90 rfl rfl ?_
    refine fr_mzst (pc := 91) (j := 3) (k := ((60 * i) + u)) (x := (bI (fs_in hu hg i u))) d_MO_settle_91 hA (by decide) rfl (by show ((60 * i) + u) < 1440; omega) (bI_01 _) ?_
    refine fr_iinc (pc := 92) (v := (nI (u + 1))) (L2 := [(0, .ref mo), (1, .int (nI i)), (2, .int (nI (u + 1))), (3, .int (bI (fs_in hu hg i u))), (4, .int (nI n))]) d_MO_settle_92 rfl (fi_1 _) (by decide) rfl ?_
    refine fr_goto (pc := 95) (tgt := 17) d_MO_settle_95 (by decide) ?_
    rw [fm_e_s]
    exact ih (u + 1) _ (by omega) (fm_ex_s hx (by omega) hus) kk _ (fun q hq => fm_L5 hq)
theorem c_MO_st3 {g : fw_G} {nc ns : Nat} {w0 : fw_W} {mo : Nat} {ar : Nat → Nat} (hA : fm_ad mo ar) {th so pl po : Int32} {us n : Nat} {F : fm_F} {Post : fw_O → fw_W → Prop} {hu : Nat → Nat → Bool} (h0 : ∀ i u, i < 24 → u < 60 → F 0 (60 * i + u) = bI (hu i u)) (hn : n ≤ 24) (hus : us ≤ 60) {hg : Nat → Nat → Bool} (hub : ∀ i u, hu i u = true → i < n ∧ u < us) (h1 : ∀ i j, i < 24 → j < 24 → F 1 (24 * i + j) = bI (hg i j)) (hgb : ∀ i k, hg i k = true → i < n ∧ k < n) {f0 : Nat → Int32} : ∀ m i (f h : Nat → Int32), i + m = n → (∀ j, f j = 0 ∨ f j = 1) → fm_ex hu hg us f0 h i 0 → (∀ f2 h2 : Nat → Int32, (∀ j, f2 j = 0 ∨ f2 j = 1) → fm_ex hu hg us f0 h2 n 0 → fw_R g m_MO_settle Post nc ns (fm_W g w0 mo ar (th, us, n, so, pl, po) (fm_s (fm_s F 2 f2) 3 h2)) 104 [(0, .ref mo), (1, .int (nI n))] []) → fw_R g m_MO_settle Post nc ns (fm_W g w0 mo ar (th, us, n, so, pl, po) (fm_s (fm_s F 2 f) 3 h)) 2 [(0, .ref mo), (1, .int (nI i))] [] := by
  intro m
  induction m with
  | zero =>
    intro i f h hi hf hx kk
    have hi2 : i = n := by omega
    subst hi2
    refine fr_iload_n (pc := 2) d_MO_settle_2 rfl rfl ?_
    refine fr_aload_n (pc := 3) d_MO_settle_3 rfl rfl ?_
    refine fr_get (pc := 4) (v := .int (nI i)) d_MO_settle_4 fg_MO_66 fm_mo rfl ?_
    refine fr_icmp_geN (pc := 7) (tgt := 104) (a := i) (b := i) d_MO_settle_7 (by decide) (by omega) (by omega) (fun _ => ?_) (fun q => absurd q (by omega))
    exact kk f h hf hx
  | succ m ih =>
    intro i f h hi hf hx kk
    refine fr_iload_n (pc := 2) d_MO_settle_2 rfl rfl ?_
    refine fr_aload_n (pc := 3) d_MO_settle_3 rfl rfl ?_
    refine fr_get (pc := 4) (v := .int (nI n)) d_MO_settle_4 fg_MO_66 fm_mo rfl ?_
    refine fr_icmp_geN (pc := 7) (tgt := 104) (a := i) (b := n) d_MO_settle_7 (by decide) (by omega) (by omega) (fun q => absurd q (by omega)) (fun _ => ?_)
    refine fr_aload_n (pc := 10) d_MO_settle_10 rfl rfl ?_
    refine fr_iload_n (pc := 11) d_MO_settle_11 rfl rfl ?_
    refine fr_callV (pc := 12) (nc := nc) (ns := ns) (N := m_MO_findGroups) (rest := []) (as := [.int (nI i)]) d_MO_settle_12 vc_MO_84 ⟨by decide, by decide, Nat.le_of_ble_eq_true rfl⟩ (Nat.le_of_ble_eq_true rfl) fm_mo (c_MO_findGroups hA (F := fm_s (fm_s F 2 f) 3 h) (hg := hg) (fun x y hx hy => by rw [fm_s_ne (by decide), fm_s_ne (by decide)]; exact h1 x y hx hy) hn (i := i) (by omega) hgb (fun j => by rw [fm_s_ne (by decide), fm_s_self]; exact hf j)) rfl (fun v1 u h => ?_) (fun C u h => by obtain ⟨h1, -⟩ := h; cases h1)
    obtain ⟨hv, f2, rfl, hf2, hfi⟩ := h
    cases hv
    rw [fm_s_23]
    refine fr_iconst (pc := 15) (v := 0) d_MO_settle_15 (by decide) ?_
    refine fr_istore_n (pc := 16) (L2 := [(0, .ref mo), (1, .int (nI i)), (2, .int 0)]) d_MO_settle_16 rfl (by decide) rfl ?_
    refine c_MO_st2 hA h0 hn hus hub (by omega) hf2 hfi us 0 h (by omega) hx (fun h2 hx2 => ?_) _ (fun q hq => hq)
    refine fr_iinc (pc := 98) (v := (nI (i + 1))) (L2 := [(0, .ref mo), (1, .int (nI (i + 1))), (2, .int (nI us))]) d_MO_settle_98 rfl (fi_1 _) (by decide) rfl ?_
    refine fr_goto (pc := 101) (tgt := 2) d_MO_settle_101 (by decide) ?_
    exact fr_Ld (ih (i + 1) f2 h2 (by omega) hf2 (fm_ex_n hx2) kk)
theorem c_MO_settle {g : fw_G} {nc ns : Nat} {w0 : fw_W} {mo : Nat} {ar : Nat → Nat} (hA : fm_ad mo ar) {th so pl po : Int32} {us n : Nat} {F : fm_F} {hu : Nat → Nat → Bool} (h0 : ∀ i u, i < 24 → u < 60 → F 0 (60 * i + u) = bI (hu i u)) (hn : n ≤ 24) (hus : us ≤ 60) {hg : Nat → Nat → Bool} (hub : ∀ i u, hu i u = true → i < n ∧ u < us) (h1 : ∀ i j, i < 24 → j < 24 → F 1 (24 * i + j) = bI (hg i j)) (hgb : ∀ i k, hg i k = true → i < n ∧ k < n) (h2 : ∀ j, F 2 j = 0 ∨ F 2 j = 1) (h3 : ∀ j, F 3 j = 0 ∨ F 3 j = 1) (h4 : ∀ x y, x < 24 → y < 60 → ¬ (x < n ∧ y < us) → F 3 (60 * x + y) = 0) : fw_R g m_MO_settle ((fun r u => r = .inl none ∧ ∃ f h : Nat → Int32, u = (fm_W g w0 mo ar (th, us, n, so, pl, po) (fm_s (fm_s F 2 f) 3 h)) ∧ (∀ j, f j = 0 ∨ f j = 1) ∧ (∀ j, h j = 0 ∨ h j = 1) ∧ ∀ x y, x < 24 → y < 60 → h (60 * x + y) = bI (fs_in hu hg x y))) nc ns (fm_W g w0 mo ar (th, us, n, so, pl, po) F) 0 [(0, .ref mo)] [] := by
  refine fr_iconst (pc := 0) (v := 0) d_MO_settle_0 (by decide) ?_
  refine fr_istore_n (pc := 1) (L2 := [(0, .ref mo), (1, .int 0)]) d_MO_settle_1 rfl (by decide) rfl ?_
  have e0 : (fm_W g w0 mo ar (th, us, n, so, pl, po) F) = (fm_W g w0 mo ar (th, us, n, so, pl, po) (fm_s (fm_s F 2 (F 2)) 3 (F 3))) := by rw [fm_s_id, fm_s_id]
  rw [e0]
  refine c_MO_st3 hA h0 hn hus hub h1 hgb (f0 := F 3) n 0 (F 2) (F 3) (by omega) h2 (fm_ex_0 h3) (fun f2 h5 hf hx => ?_)
  refine fr_vret rfl d_MO_settle_104 ⟨rfl, f2, h5, rfl, hf, hx.1, fun x y hx1 hy1 => ?_⟩
  rw [hx.2 x y hx1 hy1]
  by_cases q : (x < n ∨ x = n ∧ y < 0) ∧ y < us
  · rw [if_pos q]
  · rw [if_neg q, h4 x y hx1 hy1 (by omega), fs_in_no hub hgb (by omega)]; rfl

def gr_rep (hu hg : Nat → Nat → Bool) (n us : Nat) (f1 f2 f3 f4 : Nat → Int64) : Prop :=
  (∀ i u, bb (f1 i) u = hu i u) ∧ (∀ i k, bb (f2 i) k = hg i k) ∧ (∀ i k, bb (f3 i) k = true ↔ cl_tc hg i k) ∧ (∀ i u, bb (f4 i) u = true ↔ ∃ k, cl_rt hg i k ∧ hu k u = true) ∧
  (∀ i u, hu i u = true → i < n ∧ u < us) ∧ (∀ i k, hg i k = true → i < n ∧ k < n) ∧ n ≤ 24 ∧ us ≤ 60
theorem gr_wr_b {F : Nat → Int64} {n t : Nat} (h0 : ∀ i k, n ≤ i → bb (F i) k = false) (a b : Nat) : bb (gr_wr F t n a) b = (bb (F a) b || (bb (F a) t && bb (F t) b)) := by
  unfold gr_wr
  by_cases ha : a < n
  · by_cases hb : bb (F a) t = true
    · rw [if_pos ⟨ha, hb⟩, bb_or, hb, Bool.true_and]
    · rw [if_neg (fun h => hb h.2)]
      have : bb (F a) t = false := by cases h : bb (F a) t; rfl; exact absurd h hb
      rw [this, Bool.false_and, Bool.or_false]
  · rw [if_neg (fun h => ha h.1), h0 a t (by omega), Bool.false_and, Bool.or_false]
theorem gr_tc_n {hg : Nat → Nat → Bool} {n : Nat} (hbd : ∀ i k, hg i k = true → i < n ∧ k < n) {i k : Nat} (h : cl_tc hg i k) : i < n ∧ k < n := by
  obtain ⟨c, hc, r⟩ := h
  refine ⟨(hbd _ _ hc).1, ?_⟩
  exact r (fun x => x < n) (hbd _ _ hc).2 (fun x y _ hxy => (hbd _ _ hxy).2)
theorem gr_it_spec {f2 f3 : Nat → Int64} {n : Nat} {hg : Nat → Nat → Bool} (hb : ∀ i k, bb (f2 i) k = hg i k) (hbd : ∀ i k, hg i k = true → i < n ∧ k < n) (h3 : ∀ i k, n ≤ i → bb (f3 i) k = false) :
    ∀ t, (∀ i k, n ≤ i → bb (gr_it (gr_cp f2 f3 n) n t i) k = false) ∧ (∀ a b, hg a b = true → bb (gr_it (gr_cp f2 f3 n) n t a) b = true) ∧ (∀ a b, bb (gr_it (gr_cp f2 f3 n) n t a) b = true → cl_tc hg a b) ∧
      (∀ i, i < t → ∀ a b, bb (gr_it (gr_cp f2 f3 n) n t a) i = true → bb (gr_it (gr_cp f2 f3 n) n t i) b = true → bb (gr_it (gr_cp f2 f3 n) n t a) b = true) := by
  intro t
  induction t with
  | zero =>
    refine ⟨fun i k hi => ?_, fun a b h => ?_, fun a b h => ?_, fun i hi => absurd hi (Nat.not_lt_zero _)⟩
    · show bb (gr_cp f2 f3 n i) k = false
      unfold gr_cp
      rw [if_neg (by omega)]
      exact h3 i k hi
    · show bb (gr_cp f2 f3 n a) b = true
      unfold gr_cp
      rw [if_pos (hbd a b h).1, hb, h]
    · have h' : bb (gr_cp f2 f3 n a) b = true := h
      unfold gr_cp at h'
      by_cases ha : a < n
      · rw [if_pos ha, hb] at h'
        exact cl_tc_one h'
      · rw [if_neg ha, h3 a b (by omega)] at h'
        cases h'
  | succ t ih =>
    obtain ⟨i0, i1, i2, i3⟩ := ih
    have e : ∀ a b, bb (gr_it (gr_cp f2 f3 n) n (t + 1) a) b = (bb (gr_it (gr_cp f2 f3 n) n t a) b || (bb (gr_it (gr_cp f2 f3 n) n t a) t && bb (gr_it (gr_cp f2 f3 n) n t t) b)) := fun a b => gr_wr_b i0 a b
    refine ⟨fun i k hi => ?_, fun a b h => ?_, fun a b h => ?_, ?_⟩
    · rw [e, i0 i k hi, i0 i t hi]; rfl
    · rw [e, i1 a b h]; rfl
    · rw [e, Bool.or_eq_true, Bool.and_eq_true] at h
      rcases h with h | ⟨u, v⟩
      · exact i2 a b h
      · exact cl_tc_trans (i2 _ _ u) (i2 _ _ v)
    · exact cl_war (W := fun a b => bb (gr_it (gr_cp f2 f3 n) n t a) b) (W2 := fun a b => bb (gr_it (gr_cp f2 f3 n) n (t + 1) a) b) i3 e
theorem gr_f3_spec {f2 f3 : Nat → Int64} {n : Nat} {hg : Nat → Nat → Bool} (hb : ∀ i k, bb (f2 i) k = hg i k) (hbd : ∀ i k, hg i k = true → i < n ∧ k < n) (h3 : ∀ i k, n ≤ i → bb (f3 i) k = false) (i k : Nat) : bb (gr_f3 f2 f3 n i) k = true ↔ cl_tc hg i k := by
  obtain ⟨-, i1, i2, i3⟩ := gr_it_spec hb hbd h3 n
  exact cl_end (W := fun a b => bb (gr_it (gr_cp f2 f3 n) n n a) b) i1 i2 i3 hbd
theorem gr_gu_spec (x y : Int64) (f1 : Nat → Int64) (u : Nat) : ∀ j, bb (gr_gu x y f1 j) u = true ↔ (bb x u = true ∨ ∃ k, k < j ∧ bb y k = true ∧ bb (f1 k) u = true) := by
  intro j
  induction j with
  | zero =>
    constructor
    · exact Or.inl
    · rintro (h | ⟨k, hk, -⟩)
      · exact h
      · exact absurd hk (Nat.not_lt_zero _)
  | succ j ih =>
    rw [gr_gu]
    by_cases hj : bb y j = true
    · rw [if_pos hj, bb_or, Bool.or_eq_true, ih]
      constructor
      · rintro ((h | ⟨k, hk, h1, h2⟩) | h)
        · exact Or.inl h
        · exact Or.inr ⟨k, by omega, h1, h2⟩
        · exact Or.inr ⟨j, by omega, hj, h⟩
      · rintro (h | ⟨k, hk, h1, h2⟩)
        · exact Or.inl (Or.inl h)
        · by_cases e : k = j
          · subst e; exact Or.inr h2
          · exact Or.inl (Or.inr ⟨k, by omega, h1, h2⟩)
    · rw [if_neg hj, ih]
      constructor
      · rintro (h | ⟨k, hk, h1, h2⟩)
        · exact Or.inl h
        · exact Or.inr ⟨k, by omega, h1, h2⟩
      · rintro (h | ⟨k, hk, h1, h2⟩)
        · exact Or.inl h
        · by_cases e : k = j
          · subst e; exact absurd h1 hj
          · exact Or.inr ⟨k, by omega, h1, h2⟩
theorem gr_f4_spec {f1 f2 f3 f4 : Nat → Int64} {n us : Nat} {hu hg : Nat → Nat → Bool} (h1 : ∀ i u, bb (f1 i) u = hu i u) (hb : ∀ i k, bb (f2 i) k = hg i k) (hbu : ∀ i u, hu i u = true → i < n ∧ u < us) (hbd : ∀ i k, hg i k = true → i < n ∧ k < n) (h3 : ∀ i k, n ≤ i → bb (f3 i) k = false) (h4 : ∀ i k, n ≤ i → bb (f4 i) k = false) (i u : Nat) :
    bb (gr_f4 f1 f2 f3 f4 n i) u = true ↔ ∃ k, cl_rt hg i k ∧ hu k u = true := by
  unfold gr_f4 gr_us
  by_cases hi : i < n
  · rw [if_pos hi, gr_gu_spec]
    constructor
    · rintro (h | ⟨k, hk, h5, h6⟩)
      · exact ⟨i, cl_rt_refl, by rw [← h1]; exact h⟩
      · exact ⟨k, cl_rt_iff.mpr (Or.inr ((gr_f3_spec hb hbd h3 i k).mp h5)), by rw [← h1]; exact h6⟩
    · rintro ⟨k, hr, hk⟩
      rcases cl_rt_iff.mp hr with rfl | hr
      · exact Or.inl (by rw [h1]; exact hk)
      · exact Or.inr ⟨k, (hbu _ _ hk).1, (gr_f3_spec hb hbd h3 i k).mpr hr, by rw [h1]; exact hk⟩
  · rw [if_neg hi, h4 i u (by omega)]
    constructor
    · intro h; cases h
    · rintro ⟨k, hr, hk⟩
      rcases cl_rt_iff.mp hr with rfl | hr
      · exact absurd (hbu _ _ hk).1 hi
      · exact absurd (gr_tc_n hbd hr).1 hi
theorem gr_rep3 {hu hg : Nat → Nat → Bool} {n us : Nat} {f1 f2 f3 f4 : Nat → Int64} (h : gr_rep hu hg n us f1 f2 f3 f4) (i k : Nat) (hi : n ≤ i) : bb (f3 i) k = false := by
  cases e : bb (f3 i) k with
  | false => rfl
  | true => exact absurd (gr_tc_n h.2.2.2.2.2.1 ((h.2.2.1 i k).mp e)).1 (by omega)
theorem gr_rep4 {hu hg : Nat → Nat → Bool} {n us : Nat} {f1 f2 f3 f4 : Nat → Int64} (h : gr_rep hu hg n us f1 f2 f3 f4) (i u : Nat) (hi : n ≤ i) : bb (f4 i) u = false := by
  cases e : bb (f4 i) u with
  | false => rfl
  | true =>
    obtain ⟨k, hr, hk⟩ := (h.2.2.2.1 i u).mp e
    rcases cl_rt_iff.mp hr with rfl | hr
    · exact absurd (h.2.2.2.2.1 _ _ hk).1 (by omega)
    · exact absurd (gr_tc_n h.2.2.2.2.2.1 hr).1 (by omega)
def gr_tg (h : Nat → Nat → Bool) (i j : Nat) : Nat → Nat → Bool := fun x y => if x = i ∧ y = j then !h x y else h x y
theorem gr_tw_b {f : Nat → Int64} {h : Nat → Nat → Bool} (hb : ∀ i k, bb (f i) k = h i k) {i j : Nat} (hj : j < 64) (x y : Nat) : bb (gr_tw f i j x) y = gr_tg h i j x y := by
  unfold gr_tw gr_tg vp_updL
  by_cases hy : y < 64
  · by_cases hx : x = i
    · subst hx
      rw [if_pos rfl, bb_xor, bb_shl hj hy, hb]
      by_cases e : y = j
      · subst e; simp
      · simp [e]
    · rw [if_neg hx, if_neg (fun q => hx q.1), hb]
  · have e1 : ∀ z : Int64, bb z y = false := fun z => bb_big (by omega)
    rw [e1, if_neg (fun q => hy (by omega)), ← hb, e1]
theorem gr_rep_u {hu hg : Nat → Nat → Bool} {n us : Nat} {f1 f2 f3 f4 : Nat → Int64} (h : gr_rep hu hg n us f1 f2 f3 f4) {i j : Nat} (hi : i < n) (hj : j < us) : gr_rep (gr_tg hu i j) hg n us (gr_tw f1 i j) f2 (gr_f3 f2 f3 n) (gr_f4 (gr_tw f1 i j) f2 f3 f4 n) := by
  have h3 := gr_rep3 h
  have h4 := gr_rep4 h
  obtain ⟨e1, e2, -, -, e5, e6, e7, e8⟩ := h
  have hb := gr_tw_b e1 (i := i) (j := j) (by omega)
  have hbu : ∀ x u, gr_tg hu i j x u = true → x < n ∧ u < us := by
    intro x u hx
    unfold gr_tg at hx
    split at hx
    · rename_i q; obtain ⟨rfl, rfl⟩ := q; exact ⟨hi, hj⟩
    · exact e5 x u hx
  exact ⟨hb, e2, gr_f3_spec e2 e6 h3, gr_f4_spec hb e2 hbu e6 h3 h4, hbu, e6, e7, e8⟩
theorem gr_rep_g {hu hg : Nat → Nat → Bool} {n us : Nat} {f1 f2 f3 f4 : Nat → Int64} (h : gr_rep hu hg n us f1 f2 f3 f4) {i j : Nat} (hi : i < n) (hj : j < n) : gr_rep hu (gr_tg hg i j) n us f1 (gr_tw f2 i j) (gr_f3 (gr_tw f2 i j) f3 n) (gr_f4 f1 (gr_tw f2 i j) f3 f4 n) := by
  have h3 := gr_rep3 h
  have h4 := gr_rep4 h
  obtain ⟨e1, e2, -, -, e5, e6, e7, e8⟩ := h
  have hb := gr_tw_b e2 (i := i) (j := j) (by omega)
  have hbd : ∀ x u, gr_tg hg i j x u = true → x < n ∧ u < n := by
    intro x u hx
    unfold gr_tg at hx
    split at hx
    · rename_i q; obtain ⟨rfl, rfl⟩ := q; exact ⟨hi, hj⟩
    · exact e6 x u hx
  exact ⟨e1, hb, gr_f3_spec hb hbd h3, gr_f4_spec e1 hb e5 hbd h3 h4, e5, hbd, e7, e8⟩
theorem gr_rep_0 : gr_rep (fun _ _ => false) (fun _ _ => false) 0 1 (fun _ => 0) (fun _ => 0) (fun _ => 0) (fun _ => 0) := by
  refine ⟨fun _ _ => bb_0 _, fun _ _ => bb_0 _, fun i k => ?_, fun i u => ?_, fun _ _ h => (by cases h), fun _ _ h => (by cases h), by omega, by omega⟩
  · rw [bb_0]
    constructor
    · intro h; cases h
    · rintro ⟨c, hc, -⟩; cases hc
  · rw [bb_0]
    constructor
    · intro h; cases h
    · rintro ⟨k, -, hk⟩; cases hk
theorem gr_rep_n {hu hg : Nat → Nat → Bool} {n us n2 us2 : Nat} {f1 f2 f3 f4 : Nat → Int64} (h : gr_rep hu hg n us f1 f2 f3 f4) (h1 : n ≤ n2) (h2 : n2 ≤ 24) (h3 : us ≤ us2) (h4 : us2 ≤ 60) : gr_rep hu hg n2 us2 f1 f2 f3 f4 := by
  obtain ⟨e1, e2, e3, e4, e5, e6, e7, e8⟩ := h
  exact ⟨e1, e2, e3, e4, fun i u q => ⟨by have := (e5 i u q).1; omega, by have := (e5 i u q).2; omega⟩, fun i k q => ⟨by have := (e6 i k q).1; omega, by have := (e6 i k q).2; omega⟩, h2, h4⟩

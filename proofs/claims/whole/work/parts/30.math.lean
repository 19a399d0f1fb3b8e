def cl_rt (h : Nat → Nat → Bool) (a b : Nat) : Prop := ∀ P : Nat → Prop, P a → (∀ x y, P x → h x y = true → P y) → P b
def cl_tc (h : Nat → Nat → Bool) (a b : Nat) : Prop := ∃ c, h a c = true ∧ cl_rt h c b
section CL
variable {h : Nat → Nat → Bool} {a b c : Nat}
theorem cl_rt_refl : cl_rt h a a := fun _ h0 _ => h0
theorem cl_rt_step (h1 : cl_rt h a b) (h2 : h b c = true) : cl_rt h a c := fun P h0 hs => hs b c (h1 P h0 hs) h2
theorem cl_rt_trans (h1 : cl_rt h a b) (h2 : cl_rt h b c) : cl_rt h a c := h2 (fun x => cl_rt h a x) h1 (fun _ _ hx hxy => cl_rt_step hx hxy)
theorem cl_tc_one (e : h a b = true) : cl_tc h a b := ⟨b, e, cl_rt_refl⟩
theorem cl_tc_trans (h1 : cl_tc h a b) (h2 : cl_tc h b c) : cl_tc h a c := by
  obtain ⟨x, hx, r1⟩ := h1
  obtain ⟨y, hy, r2⟩ := h2
  exact ⟨x, hx, cl_rt_trans (cl_rt_step r1 hy) r2⟩
theorem cl_rt_iff : cl_rt h a b ↔ a = b ∨ cl_tc h a b := by
  constructor
  · intro r
    refine r (fun x => a = x ∨ cl_tc h a x) (Or.inl rfl) ?_
    rintro x y (rfl | hx) hxy
    · exact Or.inr (cl_tc_one hxy)
    · exact Or.inr (cl_tc_trans hx (cl_tc_one hxy))
  · rintro (rfl | ⟨c, hc, r⟩)
    · exact cl_rt_refl
    · exact cl_rt_trans (cl_rt_step cl_rt_refl hc) r
theorem cl_war {W W2 : Nat → Nat → Bool} {t : Nat} (hI : ∀ i, i < t → ∀ a b, W a i = true → W i b = true → W a b = true) (h2 : ∀ a b, W2 a b = (W a b || (W a t && W t b))) :
    ∀ i, i < t + 1 → ∀ a b, W2 a i = true → W2 i b = true → W2 a b = true := by
  intro i hi a b h1 h3
  rw [h2, Bool.or_eq_true, Bool.and_eq_true] at h1 h3 ⊢
  by_cases e : i = t
  · subst e
    have u1 : W a i = true := by rcases h1 with u | ⟨u, -⟩ <;> exact u
    have u2 : W i b = true := by rcases h3 with u | ⟨-, u⟩ <;> exact u
    exact Or.inr ⟨u1, u2⟩
  · have hlt : i < t := by omega
    rcases h1 with u | ⟨u, v⟩
    · rcases h3 with x | ⟨x, y⟩
      · exact Or.inl (hI i hlt a b u x)
      · exact Or.inr ⟨hI i hlt a t u x, y⟩
    · rcases h3 with x | ⟨x, y⟩
      · exact Or.inr ⟨u, hI i hlt t b v x⟩
      · exact Or.inr ⟨u, y⟩
theorem cl_end {W : Nat → Nat → Bool} {n : Nat} (hin : ∀ a b, h a b = true → W a b = true) (hso : ∀ a b, W a b = true → cl_tc h a b) (htr : ∀ i, i < n → ∀ a b, W a i = true → W i b = true → W a b = true) (hb : ∀ a b, h a b = true → a < n ∧ b < n) :
    W a b = true ↔ cl_tc h a b := by
  constructor
  · exact hso a b
  · rintro ⟨c, hc, r⟩
    exact r (fun x => W a x = true) (hin a c hc) (fun x y hx hxy => htr x (hb x y hxy).1 a y hx (hin x y hxy))
theorem cl_fix {F : Nat → Bool} (h0 : F a = true) (hc : ∀ x y, F x = true → h x y = true → F y = true) (hs : ∀ x, F x = true → cl_rt h a x) : F b = true ↔ cl_rt h a b :=
  ⟨hs b, fun r => r (fun x => F x = true) h0 hc⟩
end CL

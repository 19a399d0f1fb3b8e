theorem pc_and (a c : Nat) {b d : Nat} (hb : b < 256) (hd : d < 256) : (256 * a + b) &&& (256 * c + d) = 256 * (a &&& c) + (b &&& d) := by
  have hbd : b &&& d < 2 ^ 8 := Nat.and_lt_two_pow b (by omega)
  apply Nat.eq_of_testBit_eq
  intro j
  rw [Nat.testBit_and]
  have e1 := Nat.testBit_two_pow_mul_add a (b := b) (i := 8) (by omega) j
  have e2 := Nat.testBit_two_pow_mul_add c (b := d) (i := 8) (by omega) j
  have e3 := Nat.testBit_two_pow_mul_add (a &&& c) (b := b &&& d) (i := 8) hbd j
  rw [show (256 : Nat) = 2 ^ 8 from rfl, e1, e2, e3]
  split
  · rw [Nat.testBit_and]
  · rw [Nat.testBit_and]
def pc_5 : Nat → Nat
  | 0 => 0
  | k + 1 => 256 * pc_5 k + 85
def pc_3 : Nat → Nat
  | 0 => 0
  | k + 1 => 256 * pc_3 k + 51
def pc_f : Nat → Nat
  | 0 => 0
  | k + 1 => 256 * pc_f k + 15
def pc_A (k x : Nat) : Nat := x - ((x / 2) &&& pc_5 k)
def pc_B (k y : Nat) : Nat := (y &&& pc_3 k) + ((y / 4) &&& pc_3 k)
def pc_C (k z : Nat) : Nat := (z + z / 16) &&& pc_f k
def pc_a (l : Nat) : Nat := l - ((l / 2) &&& 85)
def pc_b (l : Nat) : Nat := (l &&& 51) + ((l / 4) &&& 51)
def pc_c (l : Nat) : Nat := (l + l / 16) &&& 15
theorem pc_dA : ∀ l, l < 256 → ∀ h, h < 2 → (h * 128 + l / 2) &&& 85 = (l / 2) &&& 85 := by decide +kernel
theorem pc_dA2 : ∀ l, l < 256 → (l / 2) &&& 85 ≤ l := by decide +kernel
theorem pc_dB : ∀ l, l < 256 → ∀ h, h < 4 → (h * 64 + l / 4) &&& 51 = (l / 4) &&& 51 := by decide +kernel
theorem pc_dC : ∀ l, l < 256 → pc_a l < 256 ∧ pc_b (pc_a l) ≤ 68 ∧ pc_b (pc_a l) % 16 ≤ 4 ∧ pc_c (pc_b (pc_a l)) ≤ 8 := by decide +kernel
theorem pc_dD : ∀ l, l < 69 → ∀ h, h < 5 → (l + (h * 16 + l / 16)) &&& 15 = pc_c l := by decide +kernel
theorem pc_A_s (k hi : Nat) {l : Nat} (hl : l < 256) : pc_A (k + 1) (256 * hi + l) = 256 * pc_A k hi + pc_a l := by
  unfold pc_A pc_a
  have e : (256 * hi + l) / 2 = 256 * (hi / 2) + ((hi % 2) * 128 + l / 2) := by omega
  rw [e, pc_5, pc_and _ _ (by omega) (by omega), pc_dA l hl _ (by omega)]
  have h1 : (hi / 2) &&& pc_5 k ≤ hi / 2 := Nat.and_le_left
  have h2 := pc_dA2 l hl
  omega
theorem pc_B_s (k hi : Nat) {l : Nat} (hl : l < 256) : pc_B (k + 1) (256 * hi + l) = 256 * pc_B k hi + pc_b l := by
  unfold pc_B pc_b
  have e : (256 * hi + l) / 4 = 256 * (hi / 4) + ((hi % 4) * 64 + l / 4) := by omega
  rw [e, pc_3, pc_and _ _ hl (by omega), pc_and _ _ (by omega) (by omega), pc_dB l hl _ (by omega)]
  omega
theorem pc_C_s (k hi : Nat) {l : Nat} (hl : l < 69) (hh : hi % 16 < 5) : pc_C (k + 1) (256 * hi + l) = 256 * pc_C k hi + pc_c l := by
  have e : 256 * hi + l + (256 * hi + l) / 16 = 256 * (hi + hi / 16) + (l + ((hi % 16) * 16 + l / 16)) := by omega
  unfold pc_C
  rw [e, pc_f, pc_and _ _ (by omega) (by omega), pc_dD l hl _ hh]
def pc_G (k x : Nat) : Nat := pc_C k (pc_B k (pc_A k x))
def pc_p (l : Nat) : Nat := pc_c (pc_b (pc_a l))
theorem pc_nib : ∀ k x, x < 256 ^ k → pc_B k (pc_A k x) % 16 < 5 := by
  intro k x hx
  cases k with
  | zero =>
    have : x = 0 := by simpa using hx
    subst this
    decide
  | succ k =>
    have hl : x % 256 < 256 := Nat.mod_lt _ (by omega)
    obtain ⟨d1, d2, d3, -⟩ := pc_dC (x % 256) hl
    have e : x = 256 * (x / 256) + x % 256 := by omega
    rw [e, pc_A_s _ _ hl, pc_B_s _ _ d1]
    omega
theorem pc_G_s (k hi : Nat) {l : Nat} (hl : l < 256) (hh : hi < 256 ^ k) : pc_G (k + 1) (256 * hi + l) = 256 * pc_G k hi + pc_p l := by
  obtain ⟨d1, d2, d3, -⟩ := pc_dC l hl
  unfold pc_G pc_p
  rw [pc_A_s _ _ hl, pc_B_s _ _ d1, pc_C_s _ _ (by omega) (pc_nib k hi hh)]
def pc_n : Nat → Nat → Nat
  | 0, _ => 0
  | k + 1, x => pc_n k (x / 256) + pc_p (x % 256)

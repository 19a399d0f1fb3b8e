theorem pc_p8 : ∀ l, l < 256 → pc_p l ≤ 8 := fun l hl => (pc_dC l hl).2.2.2
theorem pc_G0 : pc_G 0 0 = 0 := by decide
theorem pc_sum {p0 p1 p2 p3 p4 p5 p6 p7 : Nat} (h0 : p0 ≤ 8) (h1 : p1 ≤ 8) (h2 : p2 ≤ 8) (h3 : p3 ≤ 8) (h4 : p4 ≤ 8) (h5 : p5 ≤ 8) (h6 : p6 ≤ 8) (h7 : p7 ≤ 8) {G a b c : Nat} (hG : G = 256 * (256 * (256 * (256 * (256 * (256 * (256 * p7 + p6) + p5) + p4) + p3) + p2) + p1) + p0) (ha : a = G + G / 256) (hb : b = a + a / 65536) (hc : c = b + b / 4294967296) : c < 2 ^ 63 ∧ c % 128 = p0 + p1 + p2 + p3 + p4 + p5 + p6 + p7 := by
  have e1 : G / 256 = 256 * (256 * (256 * (256 * (256 * (256 * p7 + p6) + p5) + p4) + p3) + p2) + p1 := by omega
  have e2 : a = 256 * (256 * (256 * (256 * (256 * (256 * (256 * p7 + (p6 + p7)) + (p5 + p6)) + (p4 + p5)) + (p3 + p4)) + (p2 + p3)) + (p1 + p2)) + (p0 + p1) := by omega
  have e3 : a / 65536 = 256 * (256 * (256 * (256 * (256 * p7 + (p6 + p7)) + (p5 + p6)) + (p4 + p5)) + (p3 + p4)) + (p2 + p3) := by omega
  have e4 : b = 256 * (256 * (256 * (256 * (256 * (256 * (256 * p7 + (p6 + p7)) + (p5 + p6 + p7)) + (p4 + p5 + p6 + p7)) + (p3 + p4 + p5 + p6)) + (p2 + p3 + p4 + p5)) + (p1 + p2 + p3 + p4)) + (p0 + p1 + p2 + p3) := by omega
  have e5 : b / 4294967296 = 256 * (256 * (256 * p7 + (p6 + p7)) + (p5 + p6 + p7)) + (p4 + p5 + p6 + p7) := by omega
  obtain ⟨B, eB⟩ : ∃ B, b = 256 * B + (p0 + p1 + p2 + p3) := ⟨_, e4⟩
  obtain ⟨D, eD⟩ : ∃ D, b / 4294967296 = 256 * D + (p4 + p5 + p6 + p7) := ⟨_, e5⟩
  have hGb : G < 2 ^ 60 := by clear e1 e2 e3 e4 e5 eB eD ha hb hc; omega
  clear e1 e2 e3 e4 e5 hG
  constructor
  · have i1 : G / 256 ≤ G := Nat.div_le_self _ _
    have i2 : a / 65536 ≤ a := Nat.div_le_self _ _
    have i3 : b / 4294967296 ≤ b := Nat.div_le_self _ _
    clear eB eD
    omega
  · rw [hc, eD]
    clear hc ha hb
    omega
theorem pc_G8 {x : Nat} (hx : x < 2 ^ 64) : ∃ p0 p1 p2 p3 p4 p5 p6 p7, p0 ≤ 8 ∧ p1 ≤ 8 ∧ p2 ≤ 8 ∧ p3 ≤ 8 ∧ p4 ≤ 8 ∧ p5 ≤ 8 ∧ p6 ≤ 8 ∧ p7 ≤ 8 ∧ pc_G 8 x = 256 * (256 * (256 * (256 * (256 * (256 * (256 * p7 + p6) + p5) + p4) + p3) + p2) + p1) + p0 ∧ pc_n 8 x = p0 + p1 + p2 + p3 + p4 + p5 + p6 + p7 := by
  have st : ∀ k y, y < 256 ^ (k + 1) → pc_G (k + 1) y = 256 * pc_G k (y / 256) + pc_p (y % 256) ∧ y / 256 < 256 ^ k := by
    intro k y hy
    have h1 : y / 256 < 256 ^ k := by
      rw [Nat.div_lt_iff_lt_mul (by omega)]
      rw [Nat.pow_succ] at hy; exact hy
    refine ⟨?_, h1⟩
    have e : y = 256 * (y / 256) + y % 256 := by omega
    have h2 := pc_G_s k (y / 256) (l := y % 256) (Nat.mod_lt _ (by omega)) h1
    rw [← e] at h2; exact h2
  have hm : ∀ y, pc_p (y % 256) ≤ 8 := fun y => pc_p8 _ (Nat.mod_lt _ (by omega))
  obtain ⟨g7, b7⟩ := st 7 x (by simpa using hx)
  obtain ⟨g6, b6⟩ := st 6 _ b7
  obtain ⟨g5, b5⟩ := st 5 _ b6
  obtain ⟨g4, b4⟩ := st 4 _ b5
  obtain ⟨g3, b3⟩ := st 3 _ b4
  obtain ⟨g2, b2⟩ := st 2 _ b3
  obtain ⟨g1, b1⟩ := st 1 _ b2
  obtain ⟨g0, b0⟩ := st 0 _ b1
  have z : x / 256 / 256 / 256 / 256 / 256 / 256 / 256 / 256 = 0 := by simpa using b0
  rw [z, pc_G0] at g0
  refine ⟨pc_p (x % 256), pc_p (x / 256 % 256), pc_p (x / 256 / 256 % 256), pc_p (x / 256 / 256 / 256 % 256), pc_p (x / 256 / 256 / 256 / 256 % 256), pc_p (x / 256 / 256 / 256 / 256 / 256 % 256), pc_p (x / 256 / 256 / 256 / 256 / 256 / 256 % 256), pc_p (x / 256 / 256 / 256 / 256 / 256 / 256 / 256 % 256), hm _, hm _, hm _, hm _, hm _, hm _, hm _, hm _, ?_, ?_⟩
  · rw [g7, g6, g5, g4, g3, g2, g1, g0, Nat.mul_zero, Nat.zero_add]
  · simp only [pc_n, Nat.zero_add]
    omega
def pc_t (x i : Nat) : Nat := if x.testBit i = true then 1 else 0
theorem pc_dE : ∀ l, l < 256 → fs_sum (pc_t l) 8 0 = pc_p l := by decide +kernel
theorem fs_sum_ext {f h : Nat → Nat} : ∀ m k, (∀ j, k ≤ j → j < k + m → f j = h j) → fs_sum f m k = fs_sum h m k := by
  intro m
  induction m with
  | zero => intro k _; rfl
  | succ m ih => intro k hh; rw [fs_sum, fs_sum, hh k (Nat.le_refl _) (by omega), ih (k + 1) (fun j h1 h2 => hh j (by omega) (by omega))]
theorem fs_sum_sh {f h : Nat → Nat} {d : Nat} (hh : ∀ j, f (d + j) = h j) : ∀ m k, fs_sum f m (d + k) = fs_sum h m k := by
  intro m
  induction m with
  | zero => intro k; rfl
  | succ m ih => intro k; rw [fs_sum, fs_sum, hh k, show d + k + 1 = d + (k + 1) by omega, ih]
theorem fs_sum_ap {f : Nat → Nat} : ∀ a b k, fs_sum f (a + b) k = fs_sum f a k + fs_sum f b (k + a) := by
  intro a
  induction a with
  | zero => intro b k; rw [Nat.zero_add, Nat.add_zero]; simp [fs_sum]
  | succ a ih => intro b k; rw [show a + 1 + b = (a + b) + 1 by omega, fs_sum, fs_sum, ih, show k + 1 + a = k + (a + 1) by omega]; omega
theorem pc_n_t : ∀ k x, pc_n k x = fs_sum (pc_t x) (8 * k) 0 := by
  intro k
  induction k with
  | zero => intro x; rfl
  | succ k ih =>
    intro x
    rw [pc_n, ih, show 8 * (k + 1) = 8 + 8 * k by omega, fs_sum_ap]
    have h1 : fs_sum (pc_t x) 8 0 = pc_p (x % 256) := by
      rw [← pc_dE (x % 256) (Nat.mod_lt _ (by omega))]
      refine fs_sum_ext 8 0 (fun j _ hj => ?_)
      unfold pc_t
      rw [show (256 : Nat) = 2 ^ 8 from rfl, Nat.testBit_mod_two_pow]
      simp [show j < 8 by omega]
    have h2 : fs_sum (pc_t x) (8 * k) (0 + 8) = fs_sum (pc_t (x / 256)) (8 * k) 0 := by
      rw [show (0 : Nat) + 8 = 8 + 0 from rfl]
      refine fs_sum_sh (fun j => ?_) _ _
      unfold pc_t
      rw [show (256 : Nat) = 2 ^ 8 from rfl, Nat.testBit_div_two_pow, Nat.add_comm]
    rw [h1, h2]; omega
theorem pc_sr {X k : Nat} (hX : X < 2 ^ 64) (hk : k < 64) : ((lN X).toUInt64 >>> ((nI k).toInt64.toUInt64 &&& Int64.toUInt64 63)).toInt64 = lN (X / 2 ^ k) := by
  rw [wb_cu k hk]
  apply wb_inj
  apply BitVec.eq_of_toNat_eq
  have h1 : X / 2 ^ k < 2 ^ 64 := Nat.lt_of_le_of_lt (Nat.div_le_self _ _) hX
  rw [wb_tn h1]
  show ((lN X).toUInt64 >>> UInt64.ofNat k).toNat = _
  rw [UInt64.toNat_shiftRight]
  have h2 : (lN X).toUInt64.toNat = X := wb_tn hX
  have h3 : (UInt64.ofNat k).toNat = k := by rw [UInt64.toNat_ofNat']; exact Nat.mod_eq_of_lt (by omega)
  rw [h2, h3, Nat.mod_eq_of_lt hk, Nat.shiftRight_eq_div_pow]
theorem pc_an {X Y : Nat} (hX : X < 2 ^ 64) (hY : Y < 2 ^ 64) : lN X &&& lN Y = lN (X &&& Y) := by
  apply wb_inj
  apply BitVec.eq_of_toNat_eq
  rw [Int64.toBitVec_and, BitVec.toNat_and, wb_tn hX, wb_tn hY, wb_tn (Nat.lt_of_le_of_lt Nat.and_le_left hX)]
theorem pc_ad (X Y : Nat) : lN X + lN Y = lN (X + Y) := (Int64.ofNat_add X Y).symm
theorem pc_su {X Y : Nat} (h : Y ≤ X) : lN X - lN Y = lN (X - Y) := by
  have e : lN X = lN (X - Y) + lN Y := by rw [pc_ad]; congr 1; omega
  rw [e]; exact Int64.add_sub_cancel _ _
theorem pc_en {X : Nat} (hX : X < 2 ^ 64) : (lN X).toInt32 &&& 127 = nI (X % 128) := by
  apply Int32.toBitVec_inj.mp
  apply BitVec.eq_of_toNat_eq
  rw [Int32.toBitVec_and, BitVec.toNat_and]
  have h1 : (lN X).toInt32.toBitVec.toNat = X % 2 ^ 32 := by
    show ((lN X).toBitVec.signExtend 32).toNat = _
    rw [BitVec.signExtend_eq_setWidth_of_le _ (by omega), BitVec.toNat_setWidth, wb_tn hX]
  have h2 : (127 : Int32).toBitVec.toNat = 2 ^ 7 - 1 := rfl
  have h3 : (nI (X % 128)).toBitVec.toNat = X % 128 := by
    show (BitVec.ofNat 32 (X % 128)).toNat = _
    rw [BitVec.toNat_ofNat]; omega
  rw [h1, h2, h3, Nat.and_two_pow_sub_one_eq_mod]
  omega

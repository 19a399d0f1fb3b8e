theorem ts_nf {x : Bool} (h : ¬ x = false) : x = true := by cases x <;> first | rfl | exact absurd rfl h
theorem ts_bit {w : Int64} {s : UInt64} {j : Nat} (hj : j < 64) (hs : s.toNat = j) : ((w.toUInt64 >>> s).toInt64 &&& 1) = 0 ↔ w.toBitVec.getLsbD j = false := by
  have e : (w.toUInt64 >>> s).toInt64.toBitVec = w.toBitVec >>> j := by
    apply BitVec.eq_of_toNat_eq
    show (w.toUInt64 >>> s).toNat = _
    rw [UInt64.toNat_shiftRight, hs, Nat.mod_eq_of_lt hj, BitVec.toNat_ushiftRight]
    rfl
  rw [← Int64.toBitVec_inj, Int64.toBitVec_and, e]
  show w.toBitVec >>> j &&& 1#64 = 0#64 ↔ _
  constructor
  · intro h
    have t := congrArg (fun x => x.getLsbD 0) h
    simpa using t
  · intro h
    apply BitVec.eq_of_getLsbD_eq
    intro i hi
    cases i with
    | zero => simp [h]
    | succ i => simp
theorem wb_tb (n : Nat) : (lN n).toBitVec = BitVec.ofNat 64 n := rfl
theorem wb_inj {a b : Int64} (h : a.toBitVec = b.toBitVec) : a = b := Int64.toBitVec_inj.mp h
theorem wb_tn {n : Nat} (h : n < 2 ^ 64) : (lN n).toBitVec.toNat = n := by rw [wb_tb, BitVec.toNat_ofNat, Nat.mod_eq_of_lt h]
theorem wb_of (x : Int64) : ∃ n, n < 2 ^ 64 ∧ x = lN n := ⟨x.toBitVec.toNat, x.toBitVec.isLt, wb_inj (by rw [wb_tb]; simp)⟩
theorem wb_c : ∀ k, k < 64 → ((nI k).toInt64 &&& 63) = lN k := by decide +kernel
theorem wb_cu : ∀ k, k < 64 → ((nI k).toInt64.toUInt64 &&& Int64.toUInt64 63) = UInt64.ofNat k := by decide +kernel
theorem wb_sm : ∀ k, k < 64 → (BitVec.ofNat 64 k).smod 64 = BitVec.ofNat 64 k := by decide +kernel
theorem wb_shl (n : Nat) {k : Nat} (hk : k < 64) : lN n <<< ((nI k).toInt64 &&& 63) = lN (n * 2 ^ k) := by
  rw [wb_c k hk]
  apply wb_inj
  rw [Int64.toBitVec_shiftLeft, wb_tb, wb_tb, wb_tb, wb_sm k hk]
  apply BitVec.eq_of_toNat_eq
  rw [BitVec.shiftLeft_eq', BitVec.toNat_shiftLeft, BitVec.toNat_ofNat, BitVec.toNat_ofNat, BitVec.toNat_ofNat, Nat.mod_eq_of_lt (show k < 2 ^ 64 by omega), Nat.shiftLeft_eq, Nat.mul_mod, Nat.mod_mod, ← Nat.mul_mod]
def bb (x : Int64) (i : Nat) : Bool := x.toBitVec.getLsbD i
theorem bb_or (x y : Int64) (i : Nat) : bb (x ||| y) i = (bb x i || bb y i) := by unfold bb; rw [Int64.toBitVec_or, BitVec.getLsbD_or]
theorem bb_and (x y : Int64) (i : Nat) : bb (x &&& y) i = (bb x i && bb y i) := by unfold bb; rw [Int64.toBitVec_and, BitVec.getLsbD_and]
theorem bb_xor (x y : Int64) (i : Nat) : bb (x ^^^ y) i = (bb x i ^^ bb y i) := by unfold bb; rw [Int64.toBitVec_xor, BitVec.getLsbD_xor]
theorem bb_0 (i : Nat) : bb 0 i = false := by unfold bb; show (0#64).getLsbD i = false; simp
theorem bb_big {x : Int64} {i : Nat} (h : 64 ≤ i) : bb x i = false := by unfold bb; exact BitVec.getLsbD_of_ge _ _ h
theorem bb_m1 {i : Nat} (h : i < 64) : bb (-1) i = true := by
  unfold bb
  rw [show (-1 : Int64).toBitVec = BitVec.allOnes 64 from by decide, BitVec.getLsbD_allOnes]
  exact decide_eq_true h
theorem bb_not {x : Int64} {i : Nat} (h : i < 64) : bb (x ^^^ (-1)) i = !bb x i := by rw [bb_xor, bb_m1 h]; cases bb x i <;> rfl
theorem bb_ext {x y : Int64} (h : ∀ i, i < 64 → bb x i = bb y i) : x = y := by
  apply wb_inj
  apply BitVec.eq_of_getLsbD_eq
  intro i hi
  exact h i hi
theorem bb_N (n i : Nat) (hi : i < 64) : bb (lN n) i = n.testBit i := by
  unfold bb
  rw [wb_tb, BitVec.getLsbD_ofNat]
  simp [hi]
theorem bb_shl {k i : Nat} (hk : k < 64) (hi : i < 64) : bb ((1 : Int64) <<< ((nI k).toInt64 &&& 63)) i = decide (i = k) := by
  have h := wb_shl 1 hk
  rw [show lN 1 = (1 : Int64) from rfl, Nat.one_mul] at h
  rw [h, bb_N _ _ hi, Nat.testBit_two_pow]
  by_cases e : k = i
  · subst e; simp
  · have e2 : ¬ i = k := fun q => e q.symm
    simp [e, e2]
theorem bb_cmp (z : Int64) : lg_cmp z 0 = 0 ↔ z = 0 := by
  unfold lg_cmp
  by_cases h1 : z > 0
  · rw [if_pos h1]
    constructor
    · intro h; cases h
    · intro h; subst h; exact absurd h1 (by decide)
  · rw [if_neg h1]
    by_cases h2 : z = 0
    · rw [if_pos h2]; simp [h2]
    · rw [if_neg h2]
      constructor
      · intro h; cases h
      · intro h; exact absurd h h2
theorem bb_set (x : Int64) {k : Nat} (hk : k < 64) : lg_cmp ((x.toUInt64 >>> ((nI k).toInt64.toUInt64 &&& Int64.toUInt64 63)).toInt64 &&& 1) 0 = 0 ↔ bb x k = false := by
  rw [bb_cmp, wb_cu k hk]
  exact ts_bit hk (by show (BitVec.ofNat 64 k).toNat = k; rw [BitVec.toNat_ofNat, Nat.mod_eq_of_lt (by omega)])
theorem bb_i2l {b r : Nat} (hb : b < 2 ^ 31) (hr : r < 64) : bb ((nI b).toInt64) r = b.testBit r := by rw [nI_l hb, bb_N _ _ hr]

def fm_t (j : Nat) : Nat := if j < 8 ∨ j = 11 ∨ j = 12 then 0 else 1
def fm_n (j : Nat) : Nat := [1440, 576, 24, 1440, 150, 150, 150, 150, 150, 150, 150, 1800, 1800, 1800, 1800, 1800].getD j 0
abbrev fm_ob (us n : Nat) (ar : Nat → Nat) (th so pl po : Int32) : va_E := .inr (5, [.int th, .int (nI us), .int (nI n), .ref (ar 0), .ref (ar 1), .ref (ar 2), .ref (ar 3), .ref (ar 4), .ref (ar 5), .ref (ar 6), .ref (ar 7), .ref (ar 8), .ref (ar 9), .ref (ar 10), .ref (ar 11), .ref (ar 12), .ref (ar 13), .ref (ar 14), .ref (ar 15), .int so, .int pl, .int po])
abbrev fm_ar (g : fw_G) (j : Nat) (f : Nat → Int32) : va_E := .inl (fw_c g (fm_t j), fm_n j, .inl f)
def fm_w (g : fw_G) (w : fw_W) (mo : Nat) (ar : Nat → Nat) (us n : Nat) (F : Nat → Nat → Int32) (th so pl po : Int32) : Prop :=
  w mo = some (fm_ob us n ar th so pl po) ∧ (∀ j, j < 16 → w (ar j) = some (fm_ar g j (F j))) ∧ ∀ i j, i < 16 → j < 16 → ar i = ar j → i = j
def fm_sl (nd : fs_D) (k : Nat) : Bool := match nd k with
  | some N => N.2.2.2.2.1
  | none => false
def fm_c (us n : Nat) (hu hg : Nat → Nat → Bool) (nd : fs_D) (F : Nat → Nat → Int32) : Prop :=
  (∀ i u, i < 24 → u < 60 → F 0 (60 * i + u) = bI (hu i u)) ∧ (∀ i j, i < 24 → j < 24 → F 1 (24 * i + j) = bI (hg i j)) ∧ (∀ i u, i < 24 → u < 60 → F 3 (60 * i + u) = bI (fs_in hu hg i u)) ∧
  (∀ k, k < 150 → F 4 k = bI (nd k).isSome) ∧ (∀ k, k < 150 → F 7 k = bI (fm_sl nd k)) ∧
  (∀ k N, nd k = some N → F 5 k = bI N.1 ∧ F 6 k = bI N.2.2.2.1 ∧ F 8 k = fs_ov N.2.1 ∧ F 9 k = nI N.2.2.1 ∧ F 10 k = nI N.2.2.2.2.2.length) ∧
  (∀ k N (i : Nat) E, nd k = some N → N.2.2.2.2.2[i]? = some E → F 11 (12 * k + i) = bI E.1 ∧ F 12 (12 * k + i) = bI E.2.2.1 ∧ F 13 (12 * k + i) = nI E.2.1 ∧ F 14 (12 * k + i) = nI E.2.2.2.1 ∧ F 15 (12 * k + i) = nI E.2.2.2.2) ∧
  (∀ j i, j < 8 ∨ j = 11 ∨ j = 12 → F j i = 0 ∨ F j i = 1)

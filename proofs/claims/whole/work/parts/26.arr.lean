section FA
variable {g : fw_G} {M : fw_M} {Post : fw_O → fw_W → Prop} {nc ns : Nat} {w : fw_W} {pc : Nat} {L : List (Nat × Value)} {rest : List Value}
theorem fr_laldN {a n k : Nat} {f : Nat → Int64} (hd : decode M.2.1 pc = .ok (.laload, 1)) (ha : w a = some (.inl (fw_c g 2, n, .inr (.inl f)))) (hk : k < n) (hn : n < 2 ^ 31) (kk : fw_R g M Post nc ns w (pc + 1) L (.long (f k) :: rest)) : fw_R g M Post nc ns w pc L (.int (nI k) :: .ref a :: rest) :=
  fr_lald (t := 2) hd rfl ha (vp_in_nI hk hn) (by rw [nI_clamp (by omega)]; exact kk)
theorem fr_lastN {a n k : Nat} {f : Nat → Int64} {x : Int64} (hd : decode M.2.1 pc = .ok (.lastore, 1)) (ha : w a = some (.inl (fw_c g 2, n, .inr (.inl f)))) (hk : k < n) (hn : n < 2 ^ 31) (kk : fw_R g M Post nc ns (fw_up w a (.inl (fw_c g 2, n, .inr (.inl (vp_updL f k x))))) (pc + 1) L rest) : fw_R g M Post nc ns w pc L (.long x :: .int (nI k) :: .ref a :: rest) :=
  fr_last (t := 2) hd rfl ha (vp_in_nI hk hn) (by rw [nI_clamp (by omega)]; exact kk)
theorem fr_ialdN {a n k : Nat} {f : Nat → Int32} (hd : decode M.2.1 pc = .ok (.iaload, 1)) (ha : w a = some (.inl (fw_c g 1, n, .inl f))) (hk : k < n) (hn : n < 2 ^ 31) (kk : fw_R g M Post nc ns w (pc + 1) L (.int (f k) :: rest)) : fw_R g M Post nc ns w pc L (.int (nI k) :: .ref a :: rest) :=
  fr_iald (t := 1) hd rfl ha (vp_in_nI hk hn) (by rw [nI_clamp (by omega)]; exact kk)
theorem fr_iastN {a n k : Nat} {f : Nat → Int32} {x : Int32} (hd : decode M.2.1 pc = .ok (.iastore, 1)) (ha : w a = some (.inl (fw_c g 1, n, .inl f))) (hk : k < n) (hn : n < 2 ^ 31) (kk : fw_R g M Post nc ns (fw_up w a (.inl (fw_c g 1, n, .inl (upd f k x)))) (pc + 1) L rest) : fw_R g M Post nc ns w pc L (.int x :: .int (nI k) :: .ref a :: rest) :=
  fr_iast (t := 1) hd rfl ha (vp_in_nI hk hn) (by rw [nI_clamp (by omega)]; exact kk)
theorem fr_zaldN {a n k : Nat} {f : Nat → Int32} (hd : decode M.2.1 pc = .ok (.baload, 1)) (ha : w a = some (.inl (fw_c g 0, n, .inl f))) (hk : k < n) (hn : n < 2 ^ 31) (kk : fw_R g M Post nc ns w (pc + 1) L (.int (f k) :: rest)) : fw_R g M Post nc ns w pc L (.int (nI k) :: .ref a :: rest) :=
  fr_zald (t := 0) hd rfl ha (vp_in_nI hk hn) (by rw [nI_clamp (by omega)]; exact kk)
theorem fr_zastN {a n k : Nat} {f : Nat → Int32} {x : Int32} (hd : decode M.2.1 pc = .ok (.bastore, 1)) (ha : w a = some (.inl (fw_c g 0, n, .inl f))) (hk : k < n) (hn : n < 2 ^ 31) (hx : x = 0 ∨ x = 1) (kk : fw_R g M Post nc ns (fw_up w a (.inl (fw_c g 0, n, .inl (upd f k x)))) (pc + 1) L rest) : fw_R g M Post nc ns w pc L (.int x :: .int (nI k) :: .ref a :: rest) :=
  fr_zast (t := 0) hd rfl ha (vp_in_nI hk hn) hx (by rw [nI_clamp (by omega)]; exact kk)
theorem fr_aaldN {a n k t : Nat} {C : String} {f : Nat → Option Nat} (hd : decode M.2.1 pc = .ok (.aaload, 1)) (ht : fw_kd t (.object C)) (ha : w a = some (.inl (fw_c g t, n, .inr (.inr (.inr (.inr f)))))) (hk : k < n) (hn : n < 2 ^ 31) (kk : fw_R g M Post nc ns w (pc + 1) L (va_rf (f k) :: rest)) : fw_R g M Post nc ns w pc L (.int (nI k) :: .ref a :: rest) :=
  fr_aald (t := t) hd ht ha (vp_in_nI hk hn) (by rw [nI_clamp (by omega)]; exact kk)
end FA
theorem ni_le {a b : Nat} (ha : a < 2 ^ 31) (hb : b < 2 ^ 31) : nI a ≤ nI b ↔ a ≤ b := nI_leI ha hb
theorem ni_lt {a b : Nat} (ha : a < 2 ^ 31) (hb : b < 2 ^ 31) : nI a < nI b ↔ a < b := nI_ltI ha hb
theorem ni_eq {a b : Nat} (ha : a < 2 ^ 31) (hb : b < 2 ^ 31) : nI a = nI b ↔ a = b := nI_eq ha hb
theorem fw_up_at {w : fw_W} {a b : Nat} {x y : va_E} (h : w b = some y) (hne : b ≠ a) : fw_up w a x b = some y := by rw [fw_up_ne hne]; exact h
theorem fw_uc {w : fw_W} {a b : Nat} {x y z : va_E} (h : a ≠ b) : fw_up (fw_up (fw_up (fw_up w a x) b y) a z) b y = fw_up (fw_up (fw_up (fw_up w a x) a z) b y) b y := by
  funext c
  by_cases h1 : c = a
  · subst h1; rw [fw_up_ne h, fw_up_self, fw_up_ne h, fw_up_ne h, fw_up_self]
  · by_cases h2 : c = b
    · subst h2; rw [fw_up_self, fw_up_self]
    · rw [fw_up_ne h2, fw_up_ne h1, fw_up_ne h2, fw_up_ne h1, fw_up_ne h2, fw_up_ne h2, fw_up_ne h1, fw_up_ne h1]

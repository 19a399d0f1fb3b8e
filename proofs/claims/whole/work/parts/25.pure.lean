def fw_pv (v : Value) (w : fw_W) : fw_O → fw_W → Prop := fun r u => r = .inl (some v) ∧ u = w
def fw_pn (w : fw_W) : fw_O → fw_W → Prop := fun r u => r = .inl none ∧ u = w
def fw_px (C : String) (w : fw_W) : fw_O → fw_W → Prop := fun r u => r = .inr C ∧ u = w
section FP
variable {g : fw_G} {M N : fw_M} {Post : fw_O → fw_W → Prop} {nc ns : Nat} {w : fw_W} {pc : Nat} {L : List (Nat × Value)} {rest : List Value}
theorem fr_st {st st2 : List Value} (h : st = st2) (kk : fw_R g M Post nc ns w pc L st2) : fw_R g M Post nc ns w pc L st := h ▸ kk
theorem fr_w {w2 : fw_W} (h : w = w2) (kk : fw_R g M Post nc ns w2 pc L rest) : fw_R g M Post nc ns w pc L rest := h ▸ kk
theorem fr_ldc2 {idx : Nat} {v : Int64} (hd : decode M.2.1 pc = .ok (.ldc2_w idx, 3)) (hx : Cond.constantLong M.1.cls idx v ∈ lw_tbl) (kk : fw_R g M Post nc ns w (pc + 3) L (.long v :: rest)) : fw_R g M Post nc ns w pc L rest := by
  intro hg s m args below meth c H locs cells slots ls cx hB hH hS e1 e2 hl
  exact lv_ldc2 hg.1 cx.2.2.2.2.1 cx.own (fw_word hg cx.1 hx rfl) hd (kk hg s m args below meth c H locs cells slots ls cx hB hH hS e1 e2 hl)
theorem fr_ldc {idx : Nat} {v : Int32} (hd : decode M.2.1 pc = .ok (.ldc idx, 2)) (hx : Cond.constant M.1.cls idx v ∈ lw_tbl) (kk : fw_R g M Post nc ns w (pc + 2) L (.int v :: rest)) : fw_R g M Post nc ns w pc L rest := by
  intro hg s m args below meth c H locs cells slots ls cx hB hH hS e1 e2 hl
  exact lv_ldc hg.1 cx.2.2.2.2.1 cx.own (fw_word hg cx.1 hx rfl) hd (kk hg s m args below meth c H locs cells slots ls cx hB hH hS e1 e2 hl)
theorem fr_objInit {idx a : Nat} (hd : decode M.2.1 pc = .ok (.invokespecial idx, 3)) (hx : Cond.methodLink M.1.cls idx objectInit ∈ lw_tbl) (hi : Cond.instanceMethod objectInit ∈ lw_tbl) (hc : Cond.code objectInit ⟨#[0xb1]⟩ 1 none ∈ lw_tbl) (hfr : 1 ≤ M.2.2.2.2.1.frames) (hlo : (rest.map fun v => v.category).sum + 12 ≤ M.2.2.2.2.1.locals)
    (kk : fw_R g M Post nc ns w (pc + 3) L rest) : fw_R g M Post nc ns w pc L (.ref a :: rest) := by
  intro hg s m args below meth c H locs cells slots ls cx hB hH hS e1 e2 hl
  exact W.objInit hg.1 cx.2.2.2.2.1 cx.own (fw_word hg cx.1 hx rfl) (fw_word hg cx.1 hi rfl) (fw_word hg cx.1 hc rfl) rfl (by rw [cx.2.2.2.2.2.1]; exact hl.1) rfl hd hfr (by show 2 * 0 + _ + 12 ≤ _; omega) (kk hg s m args below meth c H locs cells slots ls cx hB hH hS e1 e2 hl)
theorem fr_calls_p {w2 : fw_W} {idx : Nat} {as : List Value} {v : Value} (hd : decode M.2.1 pc = .ok (.invokestatic idx, 3)) (hcal : fw_cal N) (hlk : fw_lk M.1.cls idx N.1) (hst : Cond.static N.1 ∈ lw_tbl) (hnp : fw_np N.1 as.length) (hrm : fw_rm M N as) (hrest : (rest.map fun v => v.category).sum ≤ 8)
    (hN : fw_R g N (fw_pv v w2) N.2.2.2.2.1.cells N.2.2.2.2.1.slots w 0 (lv_args 0 as) []) {st : List Value} (he : st = as.reverse ++ rest) (kk : fw_R g M Post nc ns w2 (pc + 3) L (v :: rest)) : fw_R g M Post (nc + N.2.2.2.2.1.cells) (ns + N.2.2.2.2.1.slots) w pc L st :=
  fr_calls hd hcal hlk hst hnp hrm hrest hN (fun v1 w1 h => by obtain ⟨h1, h2⟩ := h; cases h1; subst h2; exact kk) (fun C w1 h => by obtain ⟨h1, -⟩ := h; cases h1) he
theorem fr_calls_n {w2 : fw_W} {idx : Nat} {as : List Value} (hd : decode M.2.1 pc = .ok (.invokestatic idx, 3)) (hcal : fw_cal N) (hlk : fw_lk M.1.cls idx N.1) (hst : Cond.static N.1 ∈ lw_tbl) (hnp : fw_np N.1 as.length) (hrm : fw_rm M N as) (hrest : (rest.map fun v => v.category).sum ≤ 8)
    (hN : fw_R g N (fw_pn w2) N.2.2.2.2.1.cells N.2.2.2.2.1.slots w 0 (lv_args 0 as) []) {st : List Value} (he : st = as.reverse ++ rest) (kk : fw_R g M Post nc ns w2 (pc + 3) L rest) : fw_R g M Post (nc + N.2.2.2.2.1.cells) (ns + N.2.2.2.2.1.slots) w pc L st :=
  fr_calls hd hcal hlk hst hnp hrm hrest hN (fun v1 w1 h => by obtain ⟨h1, h2⟩ := h; cases h1; subst h2; exact kk) (fun C w1 h => by obtain ⟨h1, -⟩ := h; cases h1) he
theorem fr_calls_x {idx : Nat} {as : List Value} {C : String} (hd : decode M.2.1 pc = .ok (.invokestatic idx, 3)) (hcal : fw_cal N) (hlk : fw_lk M.1.cls idx N.1) (hst : Cond.static N.1 ∈ lw_tbl) (hnp : fw_np N.1 as.length) (hrm : fw_rm M N as) (hrest : (rest.map fun v => v.category).sum ≤ 8)
    (hN : fw_R g N (fw_px C w) N.2.2.2.2.1.cells N.2.2.2.2.1.slots w 0 (lv_args 0 as) []) {st : List Value} (he : st = as.reverse ++ rest) (kx : fw_X g M Post nc ns w pc L C) : fw_R g M Post (nc + N.2.2.2.2.1.cells) (ns + N.2.2.2.2.1.slots) w pc L st :=
  fr_calls hd hcal hlk hst hnp hrm hrest hN (fun v1 w1 h => by obtain ⟨h1, -⟩ := h; cases h1) (fun C w1 h => by obtain ⟨h1, h2⟩ := h; cases h1; subst h2; exact kx) he
def fw_vc (own : String) (idx ci : Nat) (N : fw_M) (n : Nat) : Prop := fw_cal N ∧ fw_lk own idx N.1 ∧ Cond.instanceMethod N.1 ∈ lw_tbl ∧ (∃ (C : String) (T0 : u_T) (N0 : Nat), fw_cl[ci]? = some (C, T0, N0) ∧ Cond.selects C N.1 N.1 ∈ lw_tbl) ∧ fw_np N.1 n
theorem fr_callV {Post2 : fw_O → fw_W → Prop} {idx ci a : Nat} {fs : List Value} {as : List Value} (hd : decode M.2.1 pc = .ok (.invokevirtual idx, 3)) (hv : fw_vc M.1.cls idx ci N as.length) (hrm : fw_rm M N (.ref a :: as)) (hrest : (rest.map fun v => v.category).sum ≤ 8)
    (ha : w a = some (.inr (ci, fs))) (hN : fw_R g N Post2 N.2.2.2.2.1.cells N.2.2.2.2.1.slots w 0 (lv_args 0 (.ref a :: as)) []) {st : List Value} (he : st = as.reverse ++ .ref a :: rest) (kk : ∀ v w1, Post2 (.inl v) w1 → fw_R g M Post nc ns w1 (pc + 3) L (v.toList ++ rest)) (kx : ∀ C w1, Post2 (.inr C) w1 → fw_X g M Post nc ns w1 pc L C) :
    fw_R g M Post (nc + N.2.2.2.2.1.cells) (ns + N.2.2.2.2.1.slots) w pc L st := by
  obtain ⟨h1, h2, h3, ⟨C, T0, N0, h4, h5⟩, h6⟩ := hv
  exact fr_callv hd h1 h2 h3 h4 h5 h6 hrm hrest ha hN kk kx he
theorem fr_callv_p {w2 : fw_W} {idx ci a : Nat} {fs : List Value} {as : List Value} {v : Value} (hd : decode M.2.1 pc = .ok (.invokevirtual idx, 3)) (hv : fw_vc M.1.cls idx ci N as.length) (hrm : fw_rm M N (.ref a :: as)) (hrest : (rest.map fun v => v.category).sum ≤ 8)
    (ha : w a = some (.inr (ci, fs))) (hN : fw_R g N (fw_pv v w2) N.2.2.2.2.1.cells N.2.2.2.2.1.slots w 0 (lv_args 0 (.ref a :: as)) []) {st : List Value} (he : st = as.reverse ++ .ref a :: rest) (kk : fw_R g M Post nc ns w2 (pc + 3) L (v :: rest)) : fw_R g M Post (nc + N.2.2.2.2.1.cells) (ns + N.2.2.2.2.1.slots) w pc L st :=
  fr_callV hd hv hrm hrest ha hN he (fun v1 w1 h => by obtain ⟨h1, h2⟩ := h; cases h1; subst h2; exact kk) (fun C w1 h => by obtain ⟨h1, -⟩ := h; cases h1)
theorem fr_callv_n {w2 : fw_W} {idx ci a : Nat} {fs : List Value} {as : List Value} (hd : decode M.2.1 pc = .ok (.invokevirtual idx, 3)) (hv : fw_vc M.1.cls idx ci N as.length) (hrm : fw_rm M N (.ref a :: as)) (hrest : (rest.map fun v => v.category).sum ≤ 8)
    (ha : w a = some (.inr (ci, fs))) (hN : fw_R g N (fw_pn w2) N.2.2.2.2.1.cells N.2.2.2.2.1.slots w 0 (lv_args 0 (.ref a :: as)) []) {st : List Value} (he : st = as.reverse ++ .ref a :: rest) (kk : fw_R g M Post nc ns w2 (pc + 3) L rest) : fw_R g M Post (nc + N.2.2.2.2.1.cells) (ns + N.2.2.2.2.1.slots) w pc L st :=
  fr_callV hd hv hrm hrest ha hN he (fun v1 w1 h => by obtain ⟨h1, h2⟩ := h; cases h1; subst h2; exact kk) (fun C w1 h => by obtain ⟨h1, -⟩ := h; cases h1)
theorem fr_callv_x {idx ci a : Nat} {fs : List Value} {as : List Value} {C : String} (hd : decode M.2.1 pc = .ok (.invokevirtual idx, 3)) (hv : fw_vc M.1.cls idx ci N as.length) (hrm : fw_rm M N (.ref a :: as)) (hrest : (rest.map fun v => v.category).sum ≤ 8)
    (ha : w a = some (.inr (ci, fs))) (hN : fw_R g N (fw_px C w) N.2.2.2.2.1.cells N.2.2.2.2.1.slots w 0 (lv_args 0 (.ref a :: as)) []) {st : List Value} (he : st = as.reverse ++ .ref a :: rest) (kx : fw_X g M Post nc ns w pc L C) : fw_R g M Post (nc + N.2.2.2.2.1.cells) (ns + N.2.2.2.2.1.slots) w pc L st :=
  fr_callV hd hv hrm hrest ha hN he (fun v1 w1 h => by obtain ⟨h1, -⟩ := h; cases h1) (fun C w1 h => by obtain ⟨h1, h2⟩ := h; cases h1; subst h2; exact kx)
end FP
theorem fi_1 (k : Nat) : nI k + Int32.ofInt 1 = nI (k + 1) := by rw [nI_succ]; rfl
def bI (b : Bool) : Int32 := if b then 1 else 0
theorem bI_t : bI true = 1 := rfl
theorem bI_f : bI false = 0 := rfl
theorem bI_01 (b : Bool) : bI b = 0 ∨ bI b = 1 := by cases b <;> simp [bI]
theorem bI_0 {b : Bool} : bI b = 0 ↔ b = false := by cases b <;> simp [bI]
theorem bI_nar (b : Bool) : narrow .boolean (.int (bI b)) = .int (bI b) := by cases b <;> rfl
theorem bI_fit (b : Bool) : fits .boolean (.int (bI b)) = true := by cases b <;> rfl
theorem rf_cat (r : Option Nat) : (va_rf r).category = 1 := by cases r <;> rfl
theorem fw_up_id {w : fw_W} {a : Nat} {x : va_E} (h : w a = some x) : fw_up w a x = w := by
  funext b
  by_cases e : b = a
  · subst e; rw [fw_up_self, h]
  · rw [fw_up_ne e]
theorem fw_uu {w : fw_W} {a : Nat} {x y : va_E} : fw_up (fw_up w a x) a y = fw_up w a y := by
  funext b
  by_cases h : b = a <;> simp [fw_up, h]

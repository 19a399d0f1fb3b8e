abbrev fw_W : Type := Nat → Option va_E
abbrev fw_O : Type := Option Value ⊕ String
abbrev fw_G : Type := Program × Launch × Env × State × va_G × List (ClassId × FieldType) × Nat × Nat
abbrev fw_M : Type := MethodName × ByteArray × Nat × Option FieldType × Room × List (Nat × Nat × Nat × Nat)
def fw_is (ws : va_W) (w : fw_W) : Prop := ∀ (a : Nat) (x : va_E), (a, x) ∈ ws ↔ w a = some x
def fw_up (w : fw_W) (a : Nat) (x : va_E) : fw_W := fun b => if b = a then some x else w b
theorem fw_up_self {w : fw_W} {a : Nat} {x : va_E} : fw_up w a x a = some x := by simp [fw_up]
theorem fw_up_ne {w : fw_W} {a b : Nat} {x : va_E} (h : b ≠ a) : fw_up w a x b = w b := by simp [fw_up, h]
theorem fw_is.at {ws : va_W} {w : fw_W} {a : Nat} {x : va_E} (h : fw_is ws w) (hw : w a = some x) : ∃ k : Nat, ws[k]? = some (a, x) := List.getElem?_of_mem ((h a x).mpr hw)
theorem fw_is.set {A : Nat → Prop} {ws : va_W} {w : fw_W} {k a : Nat} {x0 x : va_E} (h : fw_is ws w) (hD : va_D A ws) (hk : ws[k]? = some (a, x0)) : fw_is (ws.set k (a, x)) (fw_up w a x) := by
  have hlt : k < ws.length := (List.getElem?_eq_some_iff.mp hk).1
  intro b y
  constructor
  · intro hm
    obtain ⟨i, hi⟩ := List.getElem?_of_mem hm
    rw [List.getElem?_set] at hi
    by_cases hki : k = i
    · subst hki
      rw [if_pos rfl, if_pos hlt] at hi
      cases hi
      exact fw_up_self
    · rw [if_neg hki] at hi
      have hb : b ≠ a := fun e => by
        subst e
        exact hki (hD.1 k i _ _ hk hi rfl)
      rw [fw_up_ne hb]
      exact (h b y).mp (List.mem_of_getElem? hi)
  · intro hw
    by_cases hb : b = a
    · subst hb
      rw [fw_up_self] at hw
      cases hw
      exact List.mem_of_getElem? (i := k) (by rw [List.getElem?_set, if_pos rfl, if_pos hlt])
    · rw [fw_up_ne hb] at hw
      obtain ⟨i, hi⟩ := h.at hw
      refine List.mem_of_getElem? (i := i) ?_
      rw [List.getElem?_set, if_neg]
      · exact hi
      · intro e
        subst e
        rw [hk] at hi
        cases hi
        exact hb rfl
theorem fw_is.push {A : Nat → Prop} {ws : va_W} {w : fw_W} {q : Nat} {x : va_E} (h : fw_is ws w) (hD : va_D A (ws ++ [(q, x)])) : w q = none ∧ fw_is (ws ++ [(q, x)]) (fw_up w q x) := by
  have hq : w q = none := by
    cases hw : w q with
    | none => rfl
    | some y =>
      obtain ⟨i, hi⟩ := h.at hw
      have hl : i < ws.length := (List.getElem?_eq_some_iff.mp hi).1
      have h1 : (ws ++ [(q, x)])[i]? = some (q, y) := by rw [List.getElem?_append_left hl]; exact hi
      have h2 : (ws ++ [(q, x)])[ws.length]? = some (q, x) := by simp
      have h3 := hD.1 i ws.length _ _ h1 h2 rfl
      omega
  refine ⟨hq, fun b y => ?_⟩
  rw [List.mem_append, List.mem_singleton, h b y]
  by_cases hb : b = q
  · subst hb
    rw [fw_up_self, hq]
    constructor
    · rintro (h1 | h1)
      · cases h1
      · cases h1; rfl
    · intro h1
      cases h1
      exact Or.inr rfl
  · rw [fw_up_ne hb]
    constructor
    · rintro (h1 | h1)
      · exact h1
      · cases h1; exact absurd rfl hb
    · exact Or.inl
def fw_A (g : fw_G) : Nat → Prop := fun q => g.2.2.2.1.heap.size ≤ q
def fw_H (g : fw_G) (w : fw_W) (H : Heap) : Prop := ∃ ws : va_W, va_P g.2.2.2.2.1 fw_cl ws H ∧ va_D (fw_A g) ws ∧ fw_is ws w
def fw_ts : List FieldType := [.boolean, .int, .long, .object "FolderRights$Node", .object "java/lang/Object"]
def fw_xp : List (String × String) := [("java/util/NoSuchElementException", "java/lang/IllegalStateException"), ("java/lang/IllegalArgumentException", "java/lang/IllegalStateException"), ("java/lang/IllegalStateException", "java/util/NoSuchElementException"), ("java/lang/IllegalArgumentException", "java/util/NoSuchElementException"), ("java/lang/IllegalStateException", "java/lang/IllegalArgumentException"), ("java/util/NoSuchElementException", "java/lang/IllegalArgumentException")]
def fw_df (g : fw_G) : Nat := g.2.2.2.2.2.2.1
def fw_mi (g : fw_G) : Nat := g.2.2.2.2.2.2.2
def fw_g (g : fw_G) : Prop := g.1.tables.exec = Jvm.exec ∧ (∃ a0 : Array Value, ∀ x ∈ lw_tbl, x.before a0 g.2.2.2.1 = true) ∧ va_K g.2.2.2.2.1 fw_cl g.2.2.2.2.2.1 g.2.2.2.1 ∧ g.2.1.stackTraces = false ∧ g.2.2.2.2.2.1.map (fun q => q.2) = fw_ts ∧
  vx_Zq Bundle.tN "UNASSIGNED_STACK" Bundle.steD (fw_A g) g.2.2.2.1 g.2.2.2.1.heap ∧ vx_Zq Bundle.tN "SUPPRESSED_SENTINEL" Bundle.listD (fw_A g) g.2.2.2.1 g.2.2.2.1.heap ∧ (∀ q ∈ fw_xp, va_Nc q.1 q.2 g.2.2.2.1) ∧
  va_Z "java/util/ArrayList" "DEFAULTCAPACITY_EMPTY_ELEMENTDATA" "[Ljava/lang/Object;" (.ref (fw_df g)) (fw_A g) g.2.2.2.1 g.2.2.2.1.heap ∧ va_T (.object "java/lang/Object") (fw_df g) 0 (fun _ => .null) (fw_A g) g.2.2.2.1 g.2.2.2.1.heap ∧ va_Mi "[Ljava/lang/Object;" (fw_mi g) g.2.2.2.1
def fw_cx (g : fw_G) (M : fw_M) (s : State) (m : MethodId) (meth : Method) (c : Code) : Prop :=
  g.2.2.2.1.WarmedH s.vm ∧ s.methodNamed? M.1 = some m ∧ s.vm.method? m = some meth ∧ meth.code = some c ∧ c.code = M.2.1 ∧ c.maxLocals = M.2.2.1 ∧ meth.sig.returnType = M.2.2.2.1 ∧ meth.locks = false ∧
  c.exceptionTable.toList.map (fun h => (h.startPc, h.endPc, h.handlerPc, h.catchType)) = M.2.2.2.2.2
def fw_oc (g : fw_G) (t : State) (o : Outcome) (r : fw_O) : Prop :=
  (∃ v, o = .returned v ∧ r = .inl v) ∨ ∃ (a : Addr) (C : String) (cell : Cell), o = .threw a ∧ r = .inr C ∧ t.heap[a]? = some cell ∧ cell.vm.isStatics = false ∧ g.2.2.2.1.vm.findClass C = some cell.cls
def fw_E (g : fw_G) (M : fw_M) (s : State) (below : List Frame) (Post : fw_O → fw_W → Prop) : State → Prop := fun t =>
  ∃ (o : Outcome) (r : fw_O) (w : fw_W) (L : List Loc), t.status = .running ∧ Ended t below o ∧ s.WarmedH t.vm ∧ s.sameButNew ({ t with vm := s.vm } : State) L M.2.2.2.2.1.cells M.2.2.2.2.1.slots ∧
    (∀ q ∈ L, fw_A g q.base) ∧ fw_H g w t.heap ∧ va_S (fw_A g) g.2.2.2.1.heap t.heap [] ∧ fw_oc g t o r ∧ Post r w
def fw_R (g : fw_G) (M : fw_M) (Post : fw_O → fw_W → Prop) (nc ns : Nat) (w : fw_W) (pc : Nat) (L : List (Nat × Value)) (st : List Value) : Prop :=
  fw_g g → ∀ (s : State) (m : MethodId) (args : Array Value) (below : List Frame) (meth : Method) (c : Code) (H : Heap) (locs : List Loc) (cells slots : Nat) (ls : Array Slot),
    fw_cx g M s m meth c → va_S (fw_A g) g.2.2.2.1.heap s.heap [] → fw_H g w H → va_S (fw_A g) g.2.2.2.1.heap H locs → cells + nc ≤ M.2.2.2.2.1.cells → slots + ns ≤ M.2.2.2.2.1.slots → lv_has ls M.2.2.1 L →
    W g.1 g.2.1 g.2.2.1 M.2.2.2.2.1 s m args below meth c H locs cells slots (fw_E g M s below Post) (F0 m pc ls st)
theorem fw_mono {p : Program} {l : Launch} {e : Env} {R : Room} {s : State} {m : MethodId} {args : Array Value} {below : List Frame} {meth : Method} {c : Code} {H : Heap} {locs : List Loc} {cells slots : Nat} {Q Q' : State → Prop} {f : JFrame}
    (h : ∀ t, Q t → Q' t) (k : W p l e R s m args below meth c H locs cells slots Q f) : W p l e R s m args below meth c H locs cells slots Q' f := by
  intro T hT X
  obtain ⟨t, a, b⟩ := k T hT X
  exact ⟨t, a, h t b⟩
theorem fw_word {g : fw_G} (hg : fw_g g) {s : State} (hW : g.2.2.2.1.WarmedH s.vm) {args : Array Value} {x : Cond} (hx : x ∈ lw_tbl) (hc : (x.onTables && x.keeps) = true) : x.before args s = true := by
  obtain ⟨a0, h⟩ := hg.2.1
  exact word_at hW (Or.inl hc) (h x hx)
theorem fw_wordA {g : fw_G} (hg : fw_g g) {s : State} (hW : g.2.2.2.1.WarmedH s.vm) {args : Array Value} {ty : FieldType} (hx : Cond.arrayClass ty ∈ lw_tbl) : (Cond.arrayClass ty).before args s = true := by
  obtain ⟨a0, h⟩ := hg.2.1
  exact word_at hW (Or.inr ⟨ty, rfl⟩) (h _ hx)
theorem fw_wordF {g : fw_G} (hg : fw_g g) {s : State} (hW : g.2.2.2.1.WarmedH s.vm) {args : Array Value} {a : String} {i : Nat} {b n d h : String} (hx : Cond.fieldLinkNest a i b n d h ∈ lw_tbl) : (Cond.fieldLinkNest a i b n d h).before args s = true := by
  obtain ⟨a0, h⟩ := hg.2.1
  exact va_Nw.use rfl (va_Nw.warmF hW (va_Nw.of rfl (h _ hx)))
theorem fw_wordM {g : fw_G} (hg : fw_g g) {s : State} (hW : g.2.2.2.1.WarmedH s.vm) {args : Array Value} {a : String} {i : Nat} {x : MethodName} {h : String} (hx : Cond.methodLinkNest a i x h ∈ lw_tbl) : (Cond.methodLinkNest a i x h).before args s = true := by
  obtain ⟨a0, h⟩ := hg.2.1
  exact va_Nw.use rfl (va_Nw.warmM hW (va_Nw.of rfl (h _ hx)))
theorem fw_wordC {g : fw_G} (hg : fw_g g) {s : State} (hW : g.2.2.2.1.WarmedH s.vm) {C T : String} (hx : Cond.castable C T ∈ lw_tbl) : va_Nw (.castable C T) s := by
  obtain ⟨a0, h⟩ := hg.2.1
  exact va_Nw.warmC hW (va_Nw.of rfl (h _ hx))
theorem fw_cx.own {g : fw_G} {M : fw_M} {s : State} {m : MethodId} {meth : Method} {c : Code} (h : fw_cx g M s m meth c) : s.vm.findClass M.1.cls = some m.cls := findClass_of_methodNamed h.2.1
theorem fw_cx.K {g : fw_G} (hg : fw_g g) {M : fw_M} {s : State} {m : MethodId} {meth : Method} {c : Code} (h : fw_cx g M s m meth c) : va_K g.2.2.2.2.1 fw_cl g.2.2.2.2.2.1 s := va_K.moved h.1.alike hg.2.2.1

theorem fw_within {s : State} {mid below : List Frame} (h : Within s (mid ++ below)) (hm : mid ≠ []) : Within s below := by
  obtain ⟨above, e, h1, h2⟩ := h
  refine ⟨above ++ mid, by rw [e, List.append_assoc], fun h => hm (List.append_eq_nil_iff.mp h).2, fun a h => ?_⟩
  cases above with
  | nil => exact h1 rfl
  | cons x t =>
    rw [List.cons_append, List.cons.injEq] at h
    exact hm (List.append_eq_nil_iff.mp h.2).2
theorem fw_weaken {tb : Tables} {e : Env} {f : Frame} {below : List Frame} {a b : State} (h : Steps tb e (f :: below) a b) : Steps tb e below a b := by
  obtain ⟨n, hn, w⟩ := h
  exact ⟨n, hn, fun k hk => fw_within (mid := [f]) (w k hk) (by simp)⟩
def fw_cal (N : fw_M) : Prop := plainFor N.1 = true ∧ (N.1.cls ≠ "java/lang/invoke/MethodHandle" ∧ N.1.cls ≠ "java/lang/invoke/VarHandle") ∧ Cond.initialized N.1.cls ∈ lw_tbl ∧
  ((N.2.2.2.2.2 = [] ∧ Cond.code N.1 N.2.1 N.2.2.1 N.2.2.2.1 ∈ lw_tbl) ∨ Cond.codeWith N.1 N.2.1 N.2.2.1 N.2.2.2.1 N.2.2.2.2.2 ∈ lw_tbl)
theorem fw_cal.spec {g : fw_G} (hg : fw_g g) {N : fw_M} (h : fw_cal N) {s : State} (hW : g.2.2.2.1.WarmedH s.vm) :
    ∃ (m : MethodId) (meth : Method) (c : Code), fw_cx g N s m meth c ∧ parseMethodDescriptor N.1.desc = some meth.sig := by
  rcases h.2.2.2 with ⟨he, h⟩ | h
  · have hb := fw_word hg hW (args := #[]) h rfl
    obtain ⟨m, hn⟩ := Cond.code_named hb
    obtain ⟨meth, c, q1, q2, q3, q4, q5, q6, q7, q8⟩ := Cond.code_spec hn hb
    refine ⟨m, meth, c, ⟨hW, hn, q1, q2, q3, q4, q5, q6, ?_⟩, q8⟩
    rw [he, Array.isEmpty_iff.mp q7]
    rfl
  · have hb := fw_word hg hW (args := #[]) h rfl
    obtain ⟨m, meth, c, hn, q1, q2, q3, q4, q5, q6, q7, q8⟩ := Cond.codeWith_spec hb
    exact ⟨m, meth, c, ⟨hW, hn, q1, q2, q3, q4, q6, q7, q5⟩, q8⟩
def fw_rm (M N : fw_M) (av : List Value) : Prop := N.2.2.2.2.1.frames + 1 ≤ M.2.2.2.2.1.frames ∧ 8 + (N.2.2.1 + 11) + N.2.2.2.2.1.locals ≤ M.2.2.2.2.1.locals ∧ (lg_sl av).length ≤ N.2.2.1
section FC
variable {g : fw_G} {M N : fw_M} {Post PN : fw_O → fw_W → Prop} {nc ns : Nat} {w : fw_W} {pc : Nat} {L : List (Nat × Value)} {rest : List Value}
set_option maxHeartbeats 1000000 in
theorem fw_call (hg : fw_g g) {av : List Value} (hcal : fw_cal N) (hrm : fw_rm M N av) (hN : fw_R g N PN N.2.2.2.2.1.cells N.2.2.2.2.1.slots w 0 (lv_args 0 av) [])
    {s : State} {m : MethodId} {args : Array Value} {below : List Frame} {meth : Method} {c : Code} {T : State} {locs : List Loc} {cells slots : Nat}
    (X : Stand g.1 g.2.1 g.2.2.1 M.2.2.2.2.1 s m args below meth c T locs cells slots) (cx : fw_cx g M s m meth c) (hB : va_S (fw_A g) g.2.2.2.1.heap s.heap []) (hH : fw_H g w T.heap) (hS : va_S (fw_A g) g.2.2.2.1.heap T.heap locs)
    {f : JFrame} (hf : f.method = m) (hsize : f.locals.size = c.maxLocals) {ig : Instr} (hdg : decode c.code f.pc = .ok (ig, 3)) {mk : MethodId} (hn : s.methodNamed? N.1 = some mk)
    (hst : 2 * f.monitorRoom + (f.stack.map fun v => v.category).sum ≤ 8) (hc : cells + N.2.2.2.2.1.cells ≤ M.2.2.2.2.1.cells) (hs : slots + N.2.2.2.2.1.slots ≤ M.2.2.2.2.1.slots) :
    ∃ (r : fw_O) (w1 : fw_W) (T1 : State) (L1 : List Loc), Stand g.1 g.2.1 g.2.2.1 M.2.2.2.2.1 s m args below meth c T1 (locs ++ L1) (cells + N.2.2.2.2.1.cells) (slots + N.2.2.2.2.1.slots) ∧ fw_H g w1 T1.heap ∧ va_S (fw_A g) g.2.2.2.1.heap T1.heap (locs ++ L1) ∧ PN r w1 ∧
      ((∃ v, r = .inl v ∧ ∀ acts, Steps g.1.tables g.2.2.1 below (doInvoke g.2.2.1 (T.setTop f) acts mk av.toArray).1 (T1.setTop { f with pc := f.pc + 3, stack := v.toList ++ f.stack })) ∨
       (∃ (a : Addr) (C : String) (cell : Cell), r = .inr C ∧ T1.heap[a]? = some cell ∧ cell.vm.isStatics = false ∧ g.2.2.2.1.vm.findClass C = some cell.cls ∧
          ∀ acts, Steps g.1.tables g.2.2.1 below (doInvoke g.2.2.1 (T.setTop f) acts mk av.toArray).1 ((T1.setTop f).pushFrame (.throwing a)))) := by
  have hWT : g.2.2.2.1.WarmedH T.vm := State.WarmedH.trans cx.1 X.warmed
  obtain ⟨mk2, methN, cN, cxN, hsig⟩ := hcal.spec hg hWT
  have hnT : T.methodNamed? N.1 = some mk := X.named hn
  have hmm : mk2 = mk := Option.some.inj (cxN.2.1.symm.trans hnT)
  subst hmm
  have hpk : T.plainMethod mk2 := State.plainMethod.of_named hcal.1 hnT cxN.2.2.1
  obtain ⟨Y, hin⟩ := X.into hf hsize hdg av.toArray (R' := N.2.2.2.2.1) cxN.2.2.1 cxN.2.2.2.1 cxN.2.2.2.2.2.2.2.1 hpk hrm.1 (by rw [cxN.2.2.2.2.2.1]; have := hrm.2.1; omega) hc hs
  have hcx2 : fw_cx g N (T.calling f mk2 av.toArray) mk2 methN cN := cxN
  have hl := lv_entry av (n := N.2.2.1) hrm.2.2
  have hW := hN hg (T.calling f mk2 av.toArray) mk2 av.toArray (.java f :: below) methN cN T.heap [] 0 0 _ hcx2 ⟨hS.1, hS.2.1, fun _ h => by cases h⟩ hH ⟨hS.1, hS.2.1, fun _ h => by cases h⟩ (by omega) (by omega) hl
  obtain ⟨t, hst2, o, r, w1, L1, hrun, hend, hWt, hsame, hL, hH2, hS2, hoc, hpost⟩ := hW ((T.setTop f).pushFrame (.java (entryFrame mk2 av.toArray cN.maxLocals))) rfl Y
  rw [← lg_entry_eq, ← cxN.2.2.2.2.2.1] at hst2
  have hst3 := fw_weaken hst2
  rcases hoc with ⟨v, rfl, rfl⟩ | ⟨a, C, cell, rfl, rfl, hca, hcb, hcc⟩
  · obtain ⟨T1, X1, hW1, hB, ht⟩ := X.outOf hf hdg hend hWt hsame
    have hh : t.heap = T1.heap := by rw [ht]; rfl
    rw [hh] at hH2 hS2
    refine ⟨.inl v, w1, T1, L1, X1, hH2, ⟨hS2.1, hS2.2.1, fun q hq => ?_⟩, hpost, Or.inl ⟨v, rfl, fun acts => ?_⟩⟩
    · rcases List.mem_append.mp hq with h | h
      · exact hS.2.2 q h
      · exact hL q h
    · rw [hin acts, ← ht]; exact hst3
  · obtain ⟨T1, X1, hW1, hB, ht⟩ := X.outOfThrown hf hend hWt hsame
    have hh : t.heap = T1.heap := by rw [ht]; rfl
    rw [hh] at hH2 hS2 hca
    refine ⟨.inr C, w1, T1, L1, X1, hH2, ⟨hS2.1, hS2.2.1, fun q hq => ?_⟩, hpost, Or.inr ⟨a, C, cell, rfl, hca, hcb, hcc, fun acts => ?_⟩⟩
    · rcases List.mem_append.mp hq with h | h
      · exact hS.2.2 q h
      · exact hL q h
    · rw [hin acts, ← ht]; exact hst3
def fw_X (g : fw_G) (M : fw_M) (Post : fw_O → fw_W → Prop) (nc ns : Nat) (w : fw_W) (pc : Nat) (L : List (Nat × Value)) (C : String) : Prop :=
  fw_g g → ∀ (s : State) (m : MethodId) (args : Array Value) (below : List Frame) (meth : Method) (c : Code) (T : State) (locs : List Loc) (cells slots : Nat) (ls : Array Slot) (st : List Value) (a : Addr) (cell : Cell),
    fw_cx g M s m meth c → va_S (fw_A g) g.2.2.2.1.heap s.heap [] → fw_H g w T.heap → va_S (fw_A g) g.2.2.2.1.heap T.heap locs → cells + nc ≤ M.2.2.2.2.1.cells → slots + ns ≤ M.2.2.2.2.1.slots → lv_has ls M.2.2.1 L →
    T.heap[a]? = some cell → cell.vm.isStatics = false → g.2.2.2.1.vm.findClass C = some cell.cls → Stand g.1 g.2.1 g.2.2.1 M.2.2.2.2.1 s m args below meth c T locs cells slots →
    ∃ t, Steps g.1.tables g.2.2.1 below ((T.setTop (F0 m pc ls st)).pushFrame (.throwing a)) t ∧ fw_E g M s below Post t
theorem fx_out (hh : ∀ q ∈ M.2.2.2.2.2, ¬ (q.1 ≤ pc ∧ pc < q.2.1)) {C : String} (hp : Post (.inr C) w) : fw_X g M Post nc ns w pc L C := by
  intro hg s m args below meth c T locs cells slots ls st a cell cx hB hH hS h1 h2 hl ha hb hc X
  have hout : ∀ x ∈ c.exceptionTable.toList, covers x pc = false := by
    intro x hx
    have hq : (x.startPc, x.endPc, x.handlerPc, x.catchType) ∈ M.2.2.2.2.2 := by
      rw [← cx.2.2.2.2.2.2.2.2]
      exact List.mem_map.mpr ⟨x, hx, rfl⟩
    have := hh _ hq
    simp only [covers, Bool.and_eq_false_iff, decide_eq_false_iff_not]
    by_cases hle : x.startPc ≤ pc
    · right; exact fun h => this ⟨hle, h⟩
    · left; exact hle
  obtain ⟨hwalk, hrun, hended, hWU, hsame⟩ := X.leaveThrown a (g := F0 m pc ls st) rfl rfl rfl hout cx.2.2.2.2.2.2.2.1
  exact ⟨_, hwalk, .threw a, .inr C, w, locs, hrun, hended, hWU, State.sameButNew.mono hsame (by omega) (by omega), hS.2.2, hH, ⟨hS.1, hS.2.1, fun _ h => by cases h⟩, Or.inr ⟨a, C, cell, rfl, rfl, ha, hb, hc⟩, hp⟩
theorem fw_goon (hg : fw_g g) {av : List Value} (hcal : fw_cal N) (hrm : fw_rm M N av) (hN : fw_R g N PN N.2.2.2.2.1.cells N.2.2.2.2.1.slots w 0 (lv_args 0 av) [])
    (kk : ∀ v w1, PN (.inl v) w1 → fw_R g M Post nc ns w1 (pc + 3) L (v.toList ++ rest)) (kx : ∀ C w1, PN (.inr C) w1 → fw_X g M Post nc ns w1 pc L C)
    {s : State} {m : MethodId} {args : Array Value} {below : List Frame} {meth : Method} {c : Code} {T : State} {vm : Vm} {locs : List Loc} {cells slots : Nat} {ls : Array Slot} {st : List Value}
    (X : Stand g.1 g.2.1 g.2.2.1 M.2.2.2.2.1 s m args below meth c (T.setVm vm) locs cells slots) (cx : fw_cx g M s m meth c) (hB : va_S (fw_A g) g.2.2.2.1.heap s.heap []) (hH : fw_H g w T.heap) (hS : va_S (fw_A g) g.2.2.2.1.heap T.heap locs) (hl : lv_has ls M.2.2.1 L)
    {ig : Instr} (hdg : decode M.2.1 pc = .ok (ig, 3)) {mk : MethodId} (hn : s.methodNamed? N.1 = some mk) (hst : (rest.map fun v => v.category).sum ≤ 8)
    (h1 : cells + (nc + N.2.2.2.2.1.cells) ≤ M.2.2.2.2.1.cells) (h2 : slots + (ns + N.2.2.2.2.1.slots) ≤ M.2.2.2.2.1.slots)
    (hstep : ∀ target, (∀ acts, Steps g.1.tables g.2.2.1 below (doInvoke g.2.2.1 ((T.setVm vm).setTop { F0 m pc ls st with stack := rest }) acts mk av.toArray).1 target) → Steps g.1.tables g.2.2.1 below (T.setTop (F0 m pc ls st)) target) :
    ∃ t, Steps g.1.tables g.2.2.1 below (T.setTop (F0 m pc ls st)) t ∧ fw_E g M s below Post t := by
  obtain ⟨r, w1, T1, L1, X1, hH1, hS1, hp, h⟩ := fw_call hg hcal hrm hN X cx hB hH hS (f := { F0 m pc ls st with stack := rest }) rfl (hl.1.trans cx.2.2.2.2.2.1.symm) (ig := ig) (by rw [cx.2.2.2.2.1]; exact hdg) hn (lv_room hst) (by omega) (by omega)
  rcases h with ⟨v, rfl, hsv⟩ | ⟨a, C, cell, rfl, ha, hb, hc, hsa⟩
  · obtain ⟨t, a1, b1⟩ := kk v w1 hp hg s m args below meth c T1.heap (locs ++ L1) (cells + N.2.2.2.2.1.cells) (slots + N.2.2.2.2.1.slots) ls cx hB hH1 hS1 (by omega) (by omega) hl T1 rfl X1
    exact ⟨t, hstep t (fun acts => (hsv acts).trans a1), b1⟩
  · obtain ⟨t, a1, b1⟩ := kx C w1 hp hg s m args below meth c T1 (locs ++ L1) (cells + N.2.2.2.2.1.cells) (slots + N.2.2.2.2.1.slots) ls rest a cell cx hB hH1 hS1 (by omega) (by omega) hl ha hb hc X1
    exact ⟨t, hstep t (fun acts => (hsa acts).trans a1), b1⟩
def fw_lk (own : String) (idx : Nat) (y : MethodName) : Prop := Cond.methodLink own idx y ∈ lw_tbl ∨ ∃ host, Cond.methodLinkNest own idx y host ∈ lw_tbl
def fw_np (y : MethodName) (n : Nat) : Prop := (parseMethodDescriptor y.desc).map (fun d => d.parameters.length) = some n
theorem fr_calls {idx : Nat} {as : List Value} (hd : decode M.2.1 pc = .ok (.invokestatic idx, 3)) (hcal : fw_cal N) (hlk : fw_lk M.1.cls idx N.1) (hst : Cond.static N.1 ∈ lw_tbl) (hnp : fw_np N.1 as.length) (hrm : fw_rm M N as) (hrest : (rest.map fun v => v.category).sum ≤ 8)
    (hN : fw_R g N PN N.2.2.2.2.1.cells N.2.2.2.2.1.slots w 0 (lv_args 0 as) []) (kk : ∀ v w1, PN (.inl v) w1 → fw_R g M Post nc ns w1 (pc + 3) L (v.toList ++ rest)) (kx : ∀ C w1, PN (.inr C) w1 → fw_X g M Post nc ns w1 pc L C) {st : List Value} (he : st = as.reverse ++ rest) :
    fw_R g M Post (nc + N.2.2.2.2.1.cells) (ns + N.2.2.2.2.1.slots) w pc L st := by
  intro hg s m args below meth c H locs cells slots ls cx hB hH hS h1 h2 hl T hT X
  subst hT
  obtain ⟨mk, methN, cN, cxN, hsig⟩ := hcal.spec hg cx.1
  have hstat : methN.isStatic = true := Cond.static_spec cxN.2.1 cxN.2.2.1 (fw_word hg cx.1 (args := args) hst rfl)
  obtain ⟨kP, hkP, -⟩ := className_of_methodNamed cxN.2.1
  have hinitP : kP.init = .initialized := Cond.initialized_spec (findClass_of_methodNamed cxN.2.1) hkP (fw_word hg cx.1 (args := args) hcal.2.2.1 rfl)
  have hlen : as.length = methN.sig.parameters.length := by
    unfold fw_np at hnp
    rw [hsig] at hnp
    exact (Option.some.inj hnp).symm
  have hdg : decode c.code (F0 m pc ls st).pc = .ok (.invokestatic idx, 3) := by rw [cx.2.2.2.2.1]; exact hd
  rcases hlk with h | ⟨host, h⟩
  · obtain ⟨vm, X1, hstep⟩ := X.invokestatic hg.1 cx.own (fw_word hg cx.1 h rfl) cxN.2.1 cxN.2.2.1 hstat hkP hinitP hcal.2.1 (g := F0 m pc ls st) rfl (argsL := as) (rest := rest) hlen he hdg
    exact fw_goon hg hcal hrm hN kk kx X1 cx hB hH hS hl hd cxN.2.1 hrest h1 h2 hstep
  · obtain ⟨vm, X1, hstep⟩ := X.invokestaticNest hg.1 cx.own (fw_wordM hg cx.1 h) cxN.2.1 cxN.2.2.1 hstat hkP hinitP hcal.2.1 (g := F0 m pc ls st) rfl (argsL := as) (rest := rest) hlen he hdg
    exact fw_goon hg hcal hrm hN kk kx X1 cx hB hH hS hl hd cxN.2.1 hrest h1 h2 hstep
theorem fr_callv {idx ci a : Nat} {C : String} {T0 : u_T} {N0 : Nat} {fs : List Value} {as : List Value} (hd : decode M.2.1 pc = .ok (.invokevirtual idx, 3)) (hcal : fw_cal N) (hlk : fw_lk M.1.cls idx N.1) (hin : Cond.instanceMethod N.1 ∈ lw_tbl) (hcl : fw_cl[ci]? = some (C, T0, N0)) (hsel : Cond.selects C N.1 N.1 ∈ lw_tbl) (hnp : fw_np N.1 as.length) (hrm : fw_rm M N (.ref a :: as)) (hrest : (rest.map fun v => v.category).sum ≤ 8)
    (ha : w a = some (.inr (ci, fs))) (hN : fw_R g N PN N.2.2.2.2.1.cells N.2.2.2.2.1.slots w 0 (lv_args 0 (.ref a :: as)) []) (kk : ∀ v w1, PN (.inl v) w1 → fw_R g M Post nc ns w1 (pc + 3) L (v.toList ++ rest)) (kx : ∀ C w1, PN (.inr C) w1 → fw_X g M Post nc ns w1 pc L C) {st : List Value} (he : st = as.reverse ++ .ref a :: rest) :
    fw_R g M Post (nc + N.2.2.2.2.1.cells) (ns + N.2.2.2.2.1.slots) w pc L st := by
  intro hg s m args below meth c H locs cells slots ls cx hB hH hS h1 h2 hl T hT X
  subst hT
  obtain ⟨mk, methN, cN, cxN, hsig⟩ := hcal.spec hg cx.1
  obtain ⟨mk2, methN2, hn2, hm2, hst2, hab2⟩ := Cond.instanceMethod_spec (fw_word hg cx.1 (args := args) hin rfl)
  cases Option.some.inj (cxN.2.1.symm.trans hn2)
  cases Option.some.inj (cxN.2.2.1.symm.trans hm2)
  obtain ⟨c2, r2, m2, q1, q2, q3, q4, kP, hkP, hkPi⟩ := Cond.selects_spec (fw_word hg cx.1 (args := args) hsel rfl)
  obtain ⟨ws, hP, hD, hw⟩ := id hH
  obtain ⟨q0, hq0⟩ := hw.at ha
  obtain ⟨cellB, hcB, hoB, hclB⟩ := va_recv (cx.K hg) hP hcl hq0
  cases Option.some.inj (hclB.symm.trans q1)
  cases Option.some.inj ((State.methodFound?_of_named cxN.2.1 hcal.2.1).symm.trans q2)
  cases Option.some.inj (cxN.2.1.symm.trans q3)
  have hselP : selectMethod g.2.2.1.platform s.vm cellB.cls mk = .method mk := by rw [Launch.admits_selectMethod X.admits]; exact q4
  have hlen : as.length = methN.sig.parameters.length := by
    unfold fw_np at hnp
    rw [hsig] at hnp
    exact (Option.some.inj hnp).symm
  have hdg : decode c.code (F0 m pc ls st).pc = .ok (.invokevirtual idx, 3) := by rw [cx.2.2.2.2.1]; exact hd
  rcases hlk with h | ⟨host, h⟩
  · obtain ⟨vm, X1, hstep⟩ := X.invokevirtual hg.1 cx.own (fw_word hg cx.1 h rfl) cxN.2.1 cxN.2.2.1 hst2 hkP hkPi hcal.2.1 (a := a) (cell := cellB) hcB (fun z h => by rw [h] at hoB; cases hoB) hselP cxN.2.2.1 hab2 hkP hkPi (g := F0 m pc ls st) rfl (argsL := as) (rest := rest) hlen he hdg
    exact fw_goon hg hcal hrm hN kk kx X1 cx hB hH hS hl hd cxN.2.1 hrest h1 h2 hstep
  · obtain ⟨vm, X1, hstep⟩ := X.invokevirtualNest hg.1 cx.own (fw_wordM hg cx.1 h) cxN.2.1 cxN.2.2.1 hst2 hkP hkPi hcal.2.1 (a := a) (cell := cellB) hcB (fun z h => by rw [h] at hoB; cases hoB) hselP cxN.2.2.1 hab2 hkP hkPi (g := F0 m pc ls st) rfl (argsL := as) (rest := rest) hlen he hdg
    exact fw_goon hg hcal hrm hN kk kx X1 cx hB hH hS hl hd cxN.2.1 hrest h1 h2 hstep
theorem fr_calli {idx a : Nat} {as : List Value} (hd : decode M.2.1 pc = .ok (.invokespecial idx, 3)) (hcal : fw_cal N) (hini : N.1.name = "<init>") (hh : N.2.2.2.2.2 = []) (hret : N.2.2.2.1 = none) (hcode : Cond.code N.1 N.2.1 N.2.2.1 N.2.2.2.1 ∈ lw_tbl) (hlk : fw_lk M.1.cls idx N.1) (hin : Cond.instanceMethod N.1 ∈ lw_tbl) (hnp : fw_np N.1 as.length) (hrm : fw_rm M N (.ref a :: as)) (hrest : (rest.map fun v => v.category).sum ≤ 8)
    (hN : fw_R g N PN N.2.2.2.2.1.cells N.2.2.2.2.1.slots w 0 (lv_args 0 (.ref a :: as)) []) (kk : ∀ v w1, PN (.inl v) w1 → fw_R g M Post nc ns w1 (pc + 3) L (v.toList ++ rest)) (kx : ∀ C w1, PN (.inr C) w1 → fw_X g M Post nc ns w1 pc L C) {st : List Value} (he : st = as.reverse ++ .ref a :: rest) :
    fw_R g M Post (nc + N.2.2.2.2.1.cells) (ns + N.2.2.2.2.1.slots) w pc L st := by
  intro hg s m args below meth c H locs cells slots ls cx hB hH hS h1 h2 hl T hT X
  subst hT
  have hpl : g.2.2.1.platform.magicAccessors = ({} : Platform).magicAccessors := by rw [X.admits.platform]
  have hlen : ∀ sig, parseMethodDescriptor N.1.desc = some sig → as.length = sig.parameters.length := by
    intro sig h
    unfold fw_np at hnp
    rw [h] at hnp
    exact (Option.some.inj hnp).symm
  have hdg : decode c.code (F0 m pc ls st).pc = .ok (.invokespecial idx, 3) := by rw [cx.2.2.2.2.1]; exact hd
  rw [hret] at hcode
  rcases hlk with h | ⟨host, h⟩
  · obtain ⟨mk, methM, cM, kP, vm, hnamed, hmethM, hcodeM, -, hlocalsM, -, hkP, -, hW1, hstep⟩ := Steps.initColdArgs (e := g.2.2.1) X.here hg.1 X.warmed hpl cx.own hini hcal.2.1 (fw_word hg cx.1 h rfl) (fw_word hg cx.1 hin rfl) (fw_word hg cx.1 (args := args) hcode rfl) (f := F0 m pc ls st) rfl hlen he hdg
    exact fw_goon hg hcal hrm hN kk kx (X.noted hW1) cx hB hH hS hl hd hnamed hrest h1 h2 hstep
  · obtain ⟨mk, methM, cM, kP, vm, hnamed, hmethM, hcodeM, -, hlocalsM, -, hkP, -, hW1, hstep⟩ := Steps.initColdArgsNest (e := g.2.2.1) X.here hg.1 X.warmed hpl cx.own hini hcal.2.1 (fw_wordM hg cx.1 h) (fw_word hg cx.1 hin rfl) (fw_word hg cx.1 (args := args) hcode rfl) (f := F0 m pc ls st) rfl hlen he hdg
    exact fw_goon hg hcal hrm hN kk kx (X.noted hW1) cx hB hH hS hl hd hnamed hrest h1 h2 hstep
end FC

def fw_wk (w : Cond) : Bool := (w.onTables && w.keeps) || (match w with
  | .castable _ _ => true
  | .declares _ => true
  | _ => false)
theorem fw_wordK {g : fw_G} (hg : fw_g g) {s : State} (hW : g.2.2.2.1.WarmedH s.vm) {args : Array Value} {x : Cond} (hx : x ∈ lw_tbl) (hk : fw_wk x = true) : x.before args s = true := by
  unfold fw_wk at hk
  rw [Bool.or_eq_true] at hk
  rcases hk with hk | hk
  · exact fw_word hg hW hx hk
  · obtain ⟨a0, h⟩ := hg.2.1
    cases x with
    | castable C T => exact va_Nw.use rfl (va_Nw.warmC hW (va_Nw.of rfl (h _ hx)))
    | declares y => exact va_Nw.use rfl (va_Nw.warmD hW (va_Nw.of rfl (h _ hx)))
    | _ => cases hk
theorem fw_str {g : fw_G} (hg : fw_g g) {s : State} (hW : g.2.2.2.1.WarmedH s.vm) {own text : String} {k : Nat} {c : ClassId} (hown : s.vm.findClass own = some c) (hx : Cond.stringRef own k text ∈ lw_tbl) : ∃ a, vk_R own k text a s := by
  obtain ⟨a0, h⟩ := hg.2.1
  have h1 := h _ hx
  have hown0 : g.2.2.2.1.vm.findClass own = some c := by rw [← hW.alike.findClass]; exact hown
  obtain ⟨-, -, -, sa, -, -, -, -, -, hev⟩ := Cond.stringRef_spec hown0 h1
  exact ⟨sa, vk_R.warm hW (vk_R.of h1 hev)⟩
def fw_thr (own : String) (ik is ic : Nat) (cls text : String) (names : List String) : Prop := Bundle.fit cls = true ∧ (∀ n ∈ names, Bundle.fit n = true) ∧ Cond.classLink own ik cls ∈ lw_tbl ∧ Cond.initialized cls ∈ lw_tbl ∧ Cond.stringRef own is text ∈ lw_tbl ∧
  (∀ w ∈ vx_atS own ic cls names, w ∈ lw_tbl ∧ fw_wk w = true) ∧ ∀ w ∈ Cond.classLink own ik cls :: Cond.initialized cls :: vx_atS own ic cls names, vx_ot w = true
section FT
variable {g : fw_G} {M : fw_M} {Post : fw_O → fw_W → Prop} {nc ns : Nat} {w : fw_W} {pc : Nat} {L : List (Nat × Value)} {rest : List Value}
theorem fw_cov {meth : Method} {c : Code} {s : State} {m : MethodId} (cx : fw_cx g M s m meth c) (hh : ∀ q ∈ M.2.2.2.2.2, ¬ (q.1 ≤ pc ∧ pc < q.2.1)) : ∀ x ∈ c.exceptionTable.toList, covers x pc = false := by
  intro x hx
  have hq : (x.startPc, x.endPc, x.handlerPc, x.catchType) ∈ M.2.2.2.2.2 := by
    rw [← cx.2.2.2.2.2.2.2.2]
    exact List.mem_map.mpr ⟨x, hx, rfl⟩
  have := hh _ hq
  simp only [covers, Bool.and_eq_false_iff, decide_eq_false_iff_not]
  by_cases hle : x.startPc ≤ pc
  · right; exact fun h => this ⟨hle, h⟩
  · left; exact hle
theorem fw_Sb {s : State} {H : Heap} {locs : List Loc} (hB : va_S (fw_A g) g.2.2.2.1.heap s.heap []) (hS : va_S (fw_A g) g.2.2.2.1.heap H locs) (hz : s.heap.size ≤ H.size) : va_S (fw_A g) s.heap H locs := by
  refine ⟨hz, fun q _ hq => ?_, hS.2.2⟩
  have hlt : q < g.2.2.2.1.heap.size := Nat.not_le.mp hq
  rw [hS.2.1 q hlt hq, hB.2.1 q hlt hq]
theorem fw_thrown {P2 : Unit → Prop} {s : State} {H : Heap} {locs : List Loc} {below : List Frame} {args : Array Value} {cls : String} (hH : fw_H g w H) (hS : va_S (fw_A g) g.2.2.2.1.heap H locs) (hW : g.2.2.2.1.WarmedH s.vm) (hp : Post (.inr cls) w) :
    ∀ t, vx_MQ below (fun _ _ _ _ => False) (fun E _ t => E = cls ∧ H.size ≤ t.heap.size ∧ ∀ q : Nat, q < H.size → t.heap[q]? = H[q]?) args s M.2.2.2.2.1.cells M.2.2.2.2.1.slots (fw_A g) t → fw_E g M s below Post t := by
  rintro t ⟨o, hrun, hend, ⟨hf, -⟩ | ⟨q, rfl, E, ce, Lc, ⟨rfl, hz, hk⟩, hce, hv, hcl, hWt, hsame, hL⟩⟩
  · exact absurd hf id
  · obtain ⟨ws, hP, hD, hw⟩ := hH
    refine ⟨_, .inr E, w, Lc, hrun, hend, hWt, hsame, hL, ⟨ws, hP.kept (fun k x hx => hk _ (hP k x hx).lt), hD, hw⟩, ⟨Nat.le_trans hS.1 hz, fun z h1 h2 => (hk z (Nat.lt_of_lt_of_le h1 hS.1)).trans (hS.2.1 z h1 h2), fun _ h => by cases h⟩, Or.inr ⟨q, E, ce, rfl, rfl, hce, by rw [hv]; rfl, ?_⟩, hp⟩
    rw [← hW.alike.findClass]; exact hcl
theorem fr_throw {ik is ic : Nat} {cls text : String} {names : List String} (hth : fw_thr M.1.cls ik is ic cls text names) (d0 : decode M.2.1 pc = .ok (.new ik, 3)) (d3 : decode M.2.1 (pc + 3) = .ok (.dup, 1)) (d4 : decode M.2.1 (pc + 4) = .ok (.ldc is, 2)) (d6 : decode M.2.1 (pc + 6) = .ok (.invokespecial ic, 3)) (d9 : decode M.2.1 (pc + 9) = .ok (.athrow, 1))
    (hout : ∀ q ∈ M.2.2.2.2.2, ¬ (q.1 ≤ pc + 9 ∧ pc + 9 < q.2.1)) (hfr : names.length + 3 < M.2.2.2.2.1.frames) (hlo : (rest.map fun v => v.category).sum + (13 * (names.length + 1) + 43) ≤ M.2.2.2.2.1.locals) (hp : Post (.inr cls) w) : fw_R g M Post (nc + 1) (ns + 6) w pc L rest := by
  intro hg s m args below meth c H locs cells slots ls cx hB hH hS h1 h2 hl T hT X
  obtain ⟨hfit, hnames, hk, hini, hstr, hat, hgood⟩ := hth
  obtain ⟨sa, hsa⟩ := fw_str hg cx.1 cx.own hstr
  have hz : s.heap.size ≤ H.size := by rw [← hT]; exact X.same.2.1
  exact fw_mono (fw_thrown (P2 := fun _ => True) hH hS cx.1 hp) (vx_throwS (Qc := fun _ _ _ _ => False) (XC := fun E _ t => E = cls ∧ H.size ≤ t.heap.size ∧ ∀ q : Nat, q < H.size → t.heap[q]? = H[q]?) (free := fw_A g) (A := fw_A g) hg.1 cx.2.2.2.2.1 hg.2.2.2.1 cx.own hfit hnames (fw_word hg cx.1 hk rfl) (fw_word hg cx.1 hini rfl) hsa (fun x hx => fw_wordK hg cx.1 (hat x hx).1 (hat x hx).2) hgood
    ((vx_Zq.moved cx.1.alike hg.2.2.2.2.2.1).kept (fun a h1 h2 => hB.2.1 a h1 h2)) ((vx_Zq.moved cx.1.alike hg.2.2.2.2.2.2.1).kept (fun a h1 h2 => hB.2.1 a h1 h2)) (fw_Sb hB hS hz) (hl.1.trans cx.2.2.2.2.2.1.symm) d0 d3 d4 d6 d9 (fw_cov cx hout) hfr hlo (by omega) (by omega) cx.2.2.2.2.2.2.2.1 (fun t _ a b => ⟨rfl, a, b⟩) hS.2.2 (by omega) (by omega)) T hT X
theorem fr_throwW {ik is ic : Nat} {cls text : String} {names : List String} (hth : fw_thr M.1.cls ik is ic cls text names) (d0 : decode M.2.1 pc = .ok (.new ik, 3)) (d3 : decode M.2.1 (pc + 3) = .ok (.dup, 1)) (d4 : decode M.2.1 (pc + 4) = .ok (.ldc_w is, 3)) (d7 : decode M.2.1 (pc + 7) = .ok (.invokespecial ic, 3)) (d10 : decode M.2.1 (pc + 10) = .ok (.athrow, 1))
    (hout : ∀ q ∈ M.2.2.2.2.2, ¬ (q.1 ≤ pc + 10 ∧ pc + 10 < q.2.1)) (hfr : names.length + 3 < M.2.2.2.2.1.frames) (hlo : (rest.map fun v => v.category).sum + (13 * (names.length + 1) + 43) ≤ M.2.2.2.2.1.locals) (hp : Post (.inr cls) w) : fw_R g M Post (nc + 1) (ns + 6) w pc L rest := by
  intro hg s m args below meth c H locs cells slots ls cx hB hH hS h1 h2 hl T hT X
  obtain ⟨hfit, hnames, hk, hini, hstr, hat, hgood⟩ := hth
  obtain ⟨sa, hsa⟩ := fw_str hg cx.1 cx.own hstr
  have hz : s.heap.size ≤ H.size := by rw [← hT]; exact X.same.2.1
  exact fw_mono (fw_thrown (P2 := fun _ => True) hH hS cx.1 hp) (vx_throwSW (Qc := fun _ _ _ _ => False) (XC := fun E _ t => E = cls ∧ H.size ≤ t.heap.size ∧ ∀ q : Nat, q < H.size → t.heap[q]? = H[q]?) (free := fw_A g) (A := fw_A g) hg.1 cx.2.2.2.2.1 hg.2.2.2.1 cx.own hfit hnames (fw_word hg cx.1 hk rfl) (fw_word hg cx.1 hini rfl) hsa (fun x hx => fw_wordK hg cx.1 (hat x hx).1 (hat x hx).2) hgood
    ((vx_Zq.moved cx.1.alike hg.2.2.2.2.2.1).kept (fun a h1 h2 => hB.2.1 a h1 h2)) ((vx_Zq.moved cx.1.alike hg.2.2.2.2.2.2.1).kept (fun a h1 h2 => hB.2.1 a h1 h2)) (fw_Sb hB hS hz) (hl.1.trans cx.2.2.2.2.2.1.symm) d0 d3 d4 d7 d10 (fw_cov cx hout) hfr hlo (by omega) (by omega) cx.2.2.2.2.2.2.2.1 (fun t _ a b => ⟨rfl, a, b⟩) hS.2.2 (by omega) (by omega)) T hT X
def fw_hd (M : fw_M) (pc : Nat) (E : String) (hpc : Nat) : Prop := ∃ (pre suf : List (Nat × Nat × Nat × Nat)) (x : Nat × Nat × Nat × Nat), M.2.2.2.2.2 = pre ++ x :: suf ∧
  (∀ z ∈ pre, z.2.2.2 ≠ 0 ∧ ∃ nm : String, Cond.classLink M.1.cls z.2.2.2 nm ∈ lw_tbl ∧ (E, nm) ∈ fw_xp) ∧ x.1 ≤ pc ∧ pc < x.2.1 ∧ x.2.2.1 = hpc ∧ x.2.2.2 ≠ 0 ∧ Cond.classLink M.1.cls x.2.2.2 E ∈ lw_tbl ∧ Cond.castable E E ∈ lw_tbl
theorem fw_split {α β : Type} (f : α → β) : ∀ (l : List α) (pre suf : List β) (x : β), l.map f = pre ++ x :: suf → ∃ (p2 s2 : List α) (y : α), l = p2 ++ y :: s2 ∧ p2.map f = pre ∧ f y = x ∧ s2.map f = suf := by
  intro l pre
  induction pre generalizing l with
  | nil =>
    intro suf x h
    cases l with
    | nil => cases h
    | cons a t =>
      rw [List.map_cons, List.nil_append, List.cons.injEq] at h
      exact ⟨[], t, a, rfl, rfl, h.1, h.2⟩
  | cons b pre ih =>
    intro suf x h
    cases l with
    | nil => cases h
    | cons a t =>
      rw [List.map_cons, List.cons_append, List.cons.injEq] at h
      obtain ⟨p2, s2, y, h1, h2, h3, h4⟩ := ih t suf x h.2
      exact ⟨a :: p2, s2, y, by rw [h1]; rfl, by rw [List.map_cons, h.1, h2], h3, h4⟩
theorem fx_catch {E : String} {hpc : Nat} (hh : fw_hd M pc E hpc) (kk : ∀ a : Nat, fw_R g M Post nc ns w hpc L [.ref a]) : fw_X g M Post nc ns w pc L E := by
  intro hg s m args below meth c T locs cells slots ls st a cell cx hB hH hS h1 h2 hl ha hb hc X
  obtain ⟨pre, suf, x, hsp, hpass, hx1, hx2, hx3, hx4, hlk, hcs⟩ := hh
  obtain ⟨p2, s2, y, e1, e2, e3, e4⟩ := fw_split _ _ _ _ _ (cx.2.2.2.2.2.2.2.2.trans hsp)
  subst e3
  have hcell : s.vm.findClass E = some cell.cls := by rw [cx.1.alike.findClass]; exact hc
  obtain ⟨c3, c4, hc3, hc4, hasg⟩ := Cond.castable_spec (fw_wordK hg cx.1 (args := args) hcs rfl)
  cases Option.some.inj (hc3.symm.trans hcell)
  cases Option.some.inj (hc4.symm.trans hcell)
  have hpl : g.2.2.1.platform.magicAccessors = ({} : Platform).magicAccessors := by rw [X.admits.platform]
  obtain ⟨c5, hc5, hcl5⟩ := Cond.classLink_spec cx.own (fw_word hg cx.1 (args := args) hlk rfl) g.2.2.1.platform hpl
  cases Option.some.inj (hcell.symm.trans hc5)
  obtain ⟨vm1, X1, st1⟩ := X.thenCaughtThrough a (g := F0 m pc ls st) rfl (Steps.refl _) ha hb (by obtain ⟨k9, h9, -⟩ := Vm.findClass_spec hcell; exact ⟨k9, h9⟩) p2 y s2 e1
    (fun z hz => by
      have hz2 : (z.startPc, z.endPc, z.handlerPc, z.catchType) ∈ pre := by rw [← e2]; exact List.mem_map.mpr ⟨z, hz, rfl⟩
      obtain ⟨hz0, nm, hl1, hn1⟩ := hpass _ hz2
      by_cases hcv : covers z pc = false
      · exact Or.inl hcv
      · obtain ⟨c6, hc6, hcl6⟩ := Cond.classLink_spec cx.own (fw_word hg cx.1 (args := args) hl1 rfl) g.2.2.1.platform hpl
        obtain ⟨a8, b8, q1, q2, q3⟩ := va_Nc.moved cx.1.alike (hg.2.2.2.2.2.2.2.1 _ hn1)
        cases Option.some.inj (q1.symm.trans hcell)
        cases Option.some.inj (q2.symm.trans hc6)
        exact Or.inr ⟨hz0, _, hcl6, q3⟩)
    (by simp only [covers, Bool.and_eq_true, decide_eq_true_eq]; exact ⟨hx1, hx2⟩) (Or.inr ⟨hx4, _, hcl5, hasg⟩)
  obtain ⟨t, a1, b1⟩ := kk a hg s m args below meth c T.heap locs cells slots ls cx hB hH hS h1 h2 hl (T.setVm vm1) rfl X1
  refine ⟨t, st1.trans ?_, b1⟩
  subst hx3
  exact a1
end FT

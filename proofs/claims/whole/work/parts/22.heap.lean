theorem fw_lay_ok {C : String} {T : u_T} {N : Nat} {x : Cond} (hx : x ∈ u_ws C T N) : (x.onTables && x.keeps) = true := by
  obtain ⟨k, -, rfl⟩ := List.mem_map.mp hx
  unfold u_lay
  split <;> rfl
def fw_fld (own : String) (idx ci k : Nat) : Prop := ∃ (C : String) (T : u_T) (N : Nat) (ref : String), fw_cl[ci]? = some (C, T, N) ∧ k < N ∧ (∀ x ∈ u_ws C T N, x ∈ lw_tbl) ∧
  ((T k).1 = ref ∨ Cond.sameField ref (T k).1 (T k).2.1 (T k).2.2.1 ∈ lw_tbl) ∧ (Cond.fieldLink own idx ref (T k).2.1 (T k).2.2.1 ∈ lw_tbl ∨ ∃ host, Cond.fieldLinkNest own idx ref (T k).2.1 (T k).2.2.1 host ∈ lw_tbl)
def fw_fpt (M : fw_M) (idx ci k : Nat) (ty : FieldType) : Prop := ∃ (C : String) (T : u_T) (N : Nat) (ref : String), fw_cl[ci]? = some (C, T, N) ∧ k < N ∧ (∀ x ∈ u_ws C T N, x ∈ lw_tbl) ∧
  ((T k).1 = ref ∨ Cond.sameField ref (T k).1 (T k).2.1 (T k).2.2.1 ∈ lw_tbl) ∧
  (∃ ty0 : Nat → FieldType, ∀ j, j < N → parseFieldDescriptor (T j).2.2.1 = some (ty0 j)) ∧ (∀ a, a < N → ∀ b, b < N → a ≠ b → (T a).2.1 ≠ (T b).2.1) ∧ parseFieldDescriptor (T k).2.2.1 = some ty ∧
  (((T k).2.2.2 = false ∧ (Cond.fieldLink M.1.cls idx ref (T k).2.1 (T k).2.2.1 ∈ lw_tbl ∨ ∃ host, Cond.fieldLinkNest M.1.cls idx ref (T k).2.1 (T k).2.2.1 host ∈ lw_tbl)) ∨
    ((T k).2.2.2 = true ∧ M.1.name = "<init>" ∧ (T k).1 = M.1.cls ∧ Cond.fieldLink M.1.cls idx ref (T k).2.1 (T k).2.2.1 ∈ lw_tbl))
def fw_c (g : fw_G) (t : Nat) : ClassId := (g.2.2.2.2.2.1.getD t (0, .int)).1
def fw_kd (t : Nat) (ty : FieldType) : Prop := fw_ts[t]? = some ty
theorem fw_tys {g : fw_G} (hg : fw_g g) {t : Nat} {ty : FieldType} (h : fw_kd t ty) : g.2.2.2.2.2.1[t]? = some (fw_c g t, ty) := by
  unfold fw_kd at h
  rw [← hg.2.2.2.2.1, List.getElem?_map] at h
  unfold fw_c
  cases hq : g.2.2.2.2.2.1[t]? with
  | none => rw [hq] at h; cases h
  | some q =>
    rw [hq] at h
    rw [List.getD_eq_getElem?_getD, hq]
    cases h
    rfl
theorem fw_fin {g : fw_G} {M : fw_M} {Post : fw_O → fw_W → Prop} {nc ns : Nat} {w : fw_W} {s : State} {args : Array Value} {below : List Frame} {H : Heap} {locs : List Loc} {cells slots : Nat} {o0 : Option Value} (hH : fw_H g w H) (hS : va_S (fw_A g) g.2.2.2.1.heap H locs) (h1 : cells + nc ≤ M.2.2.2.2.1.cells) (h2 : slots + ns ≤ M.2.2.2.2.1.slots) (hp : Post (.inl o0) w) :
    ∀ t, MQ below (fun _ _ o t => o = .returned o0 ∧ t.heap = H) args s cells slots (fw_A g) t → fw_E g M s below Post t := by
  rintro t ⟨o, hrun, hend, ⟨ho, hh⟩, L, ⟨hret, hW, hsame⟩, hL⟩
  subst ho
  exact ⟨_, .inl o0, w, L, hrun, hend, hW, State.sameButNew.mono hsame (by omega) (by omega), hL, by rw [hh]; exact hH, by rw [hh]; exact ⟨hS.1, hS.2.1, fun _ h => by cases h⟩, Or.inl ⟨_, rfl, rfl⟩, hp⟩
section FH
variable {g : fw_G} {M : fw_M} {Post : fw_O → fw_W → Prop} {nc ns : Nat} {w : fw_W} {pc : Nat} {L : List (Nat × Value)} {rest : List Value}
theorem fr_iret {v : Int32} (hr : M.2.2.2.1 = some .int) (hd : decode M.2.1 pc = .ok (.ireturn, 1)) (hp : Post (.inl (some (.int v))) w) : fw_R g M Post nc ns w pc L [.int v] := by
  intro hg s m args below meth c H locs cells slots ls cx hB hH hS h1 h2 hl
  exact fw_mono (fw_fin hH hS h1 h2 hp) (W.iret (v := v) hg.1 cx.2.2.2.2.1 (cx.2.2.2.2.2.2.1.trans hr) (fun t ht _ => ⟨rfl, ht⟩) hS.2.2 hd cx.2.2.2.2.2.2.2.1)
theorem fr_zret {v : Int32} (hr : M.2.2.2.1 = some .boolean) (hv : v = 0 ∨ v = 1) (hd : decode M.2.1 pc = .ok (.ireturn, 1)) (hp : Post (.inl (some (.int v))) w) : fw_R g M Post nc ns w pc L [.int v] := by
  intro hg s m args below meth c H locs cells slots ls cx hB hH hS h1 h2 hl
  exact fw_mono (fw_fin hH hS h1 h2 hp) (W.zret (v := v) hg.1 cx.2.2.2.2.1 (cx.2.2.2.2.2.2.1.trans hr) (by rcases hv with rfl | rfl <;> rfl) (fun t ht _ => ⟨rfl, ht⟩) hS.2.2 hd cx.2.2.2.2.2.2.2.1)
theorem fr_lret {v : Int64} (hr : M.2.2.2.1 = some .long) (hd : decode M.2.1 pc = .ok (.lreturn, 1)) (hp : Post (.inl (some (.long v))) w) : fw_R g M Post nc ns w pc L [.long v] := by
  intro hg s m args below meth c H locs cells slots ls cx hB hH hS h1 h2 hl
  exact fw_mono (fw_fin hH hS h1 h2 hp) (W.lret (v := v) hg.1 cx.2.2.2.2.1 (cx.2.2.2.2.2.2.1.trans hr) (fun t ht _ => ⟨rfl, ht⟩) hS.2.2 hd cx.2.2.2.2.2.2.2.1)
theorem fr_aret {v : Value} {rt : FieldType} (hr : M.2.2.2.1 = some rt) (hrt : (∃ n, rt = .object n) ∨ ∃ t, rt = .array t) (hv : v = .null ∨ ∃ a, v = .ref a) (hd : decode M.2.1 pc = .ok (.areturn, 1)) (hp : Post (.inl (some v)) w) : fw_R g M Post nc ns w pc L [v] := by
  intro hg s m args below meth c H locs cells slots ls cx hB hH hS h1 h2 hl
  exact fw_mono (fw_fin hH hS h1 h2 hp) (W.aret (v := v) hg.1 cx.2.2.2.2.1 (cx.2.2.2.2.2.2.1.trans hr) hrt hv (fun t ht _ => ⟨rfl, ht⟩) hS.2.2 hd cx.2.2.2.2.2.2.2.1)
theorem fr_vret (hr : M.2.2.2.1 = none) (hd : decode M.2.1 pc = .ok (.return_, 1)) (hp : Post (.inl none) w) : fw_R g M Post nc ns w pc L [] := by
  intro hg s m args below meth c H locs cells slots ls cx hB hH hS h1 h2 hl
  exact fw_mono (fw_fin hH hS h1 h2 hp) (W.vret hg.1 cx.2.2.2.2.1 (cx.2.2.2.2.2.2.1.trans hr) (fun t ht _ => ⟨rfl, ht⟩) hS.2.2 hd cx.2.2.2.2.2.2.2.1)
theorem fr_get {a idx ci k : Nat} {fs : List Value} {v : Value} (hd : decode M.2.1 pc = .ok (.getfield idx, 3)) (hf : fw_fld M.1.cls idx ci k) (ha : w a = some (.inr (ci, fs))) (hv : fs[k]? = some v) (kk : fw_R g M Post nc ns w (pc + 3) L (v :: rest)) : fw_R g M Post nc ns w pc L (.ref a :: rest) := by
  intro hg s m args below meth c H locs cells slots ls cx hB hH hS h1 h2 hl
  have kk := kk hg s m args below meth c H locs cells slots ls cx hB hH hS h1 h2 hl
  obtain ⟨ws, hP, hD, hw⟩ := hH
  obtain ⟨q0, he⟩ := hw.at ha
  obtain ⟨C, T, N, ref, hc, hk, hin, hsame, hlink⟩ := hf
  have hts : ∀ x ∈ u_ws C T N, x.before args s = true := fun x hx => fw_word hg cx.1 (hin x hx) (fw_lay_ok hx)
  have hs : ∀ x, s.fieldFound? (T k).1 (T k).2.1 (T k).2.2.1 = some x → s.fieldFound? ref (T k).2.1 (T k).2.2.1 = some x := by
    rcases hsame with h | h
    · subst h; exact fun x h => h
    · exact fun x h9 => u_same (fw_word hg cx.1 (args := args) h rfl) x h9
  rcases hlink with h | ⟨host, h⟩
  · exact va_get hg.1 cx.2.2.2.2.1 hts (fun x h => h) cx.own (cx.K hg) hP q0 he hc k hk (fw_word hg cx.1 h rfl) hs hv hd kk
  · exact va_getN hg.1 cx.2.2.2.2.1 hts (fun x h => h) cx.own (cx.K hg) hP q0 he hc k hk (fw_wordF hg cx.1 h) hs hv hd kk
theorem fr_put {a idx ci k : Nat} {ty : FieldType} {fs fs2 : List Value} {v : Value} (hd : decode M.2.1 pc = .ok (.putfield idx, 3)) (hf : fw_fpt M idx ci k ty) (ha : w a = some (.inr (ci, fs))) (hl0 : k < fs.length) (hn : narrow ty v = v) (hfit : fits ty v = true) (h2s : fs.set k v = fs2) (kk : fw_R g M Post nc ns (fw_up w a (.inr (ci, fs2))) (pc + 3) L rest) : fw_R g M Post nc ns w pc L (v :: .ref a :: rest) := by
  intro hg s m args below meth c H locs cells slots ls cx hB hH hS h1 h2 hl
  subst h2s
  obtain ⟨ws, hP, hD, hw⟩ := hH
  obtain ⟨q0, he⟩ := hw.at ha
  obtain ⟨C, T, N, ref, hc, hk, hin, hsame, ⟨ty0, hty⟩, hnm, hdt, hlink⟩ := hf
  have hts : ∀ x ∈ u_ws C T N, x.before args s = true := fun x hx => fw_word hg cx.1 (hin x hx) (fw_lay_ok hx)
  have hs : ∀ x, s.fieldFound? (T k).1 (T k).2.1 (T k).2.2.1 = some x → s.fieldFound? ref (T k).2.1 (T k).2.2.1 = some x := by
    rcases hsame with h | h
    · subst h; exact fun x h => h
    · exact fun x h9 => u_same (fw_word hg cx.1 (args := args) h rfl) x h9
  rcases hlink with ⟨hfin, h | ⟨host, h⟩⟩ | ⟨hfin, hnm2, hdecl, h⟩
  · exact va_put hg.1 cx.2.2.2.2.1 hts (fun x h => h) ty0 hty hnm cx.own (cx.K hg) hP hD hS q0 he hc k hk (fw_word hg cx.1 h rfl) hs hfin hdt hn hfit hl0 hd (fun H1 locs1 hP1 hD1 hS1 => kk hg s m args below meth c H1 locs1 cells slots ls cx hB ⟨_, hP1, hD1, hw.set hD he⟩ hS1 h1 h2 hl)
  · exact va_putN hg.1 cx.2.2.2.2.1 hts (fun x h => h) ty0 hty hnm cx.own (cx.K hg) hP hD hS q0 he hc k hk (fw_wordF hg cx.1 h) hs hfin hdt hn hfit hl0 hd (fun H1 locs1 hP1 hD1 hS1 => kk hg s m args below meth c H1 locs1 cells slots ls cx hB ⟨_, hP1, hD1, hw.set hD he⟩ hS1 h1 h2 hl)
  · exact va_putF hg.1 cx.2.2.2.2.1 hts (fun x h => h) ty0 hty hnm cx.own (cx.K hg) hP hD hS q0 he hc k hk (fw_word hg cx.1 h rfl) hs hfin ((name_of_methodNamed cx.2.1 cx.2.2.1).1.trans hnm2) hdecl hdt hn hfit hl0 hd (fun H1 locs1 hP1 hD1 hS1 => kk hg s m args below meth c H1 locs1 cells slots ls cx hB ⟨_, hP1, hD1, hw.set hD he⟩ hS1 h1 h2 hl)
theorem fr_iald {a n t : Nat} {f : Nat → Int32} {i : Int32} (hd : decode M.2.1 pc = .ok (.iaload, 1)) (hk : fw_kd t .int) (ha : w a = some (.inl (fw_c g t, n, .inl f))) (hi : vp_in i n) (kk : fw_R g M Post nc ns w (pc + 1) L (.int (f i.toNatClampNeg) :: rest)) : fw_R g M Post nc ns w pc L (.int i :: .ref a :: rest) := by
  intro hg s m args below meth c H locs cells slots ls cx hB hH hS h1 h2 hl
  have kk := kk hg s m args below meth c H locs cells slots ls cx hB hH hS h1 h2 hl
  obtain ⟨ws, hP, hD, hw⟩ := hH
  obtain ⟨q0, he⟩ := hw.at ha
  exact va_iald hg.1 cx.2.2.2.2.1 (cx.K hg) hP q0 t he (fw_tys hg hk) hi hd kk
theorem fr_zald {a n t : Nat} {f : Nat → Int32} {i : Int32} (hd : decode M.2.1 pc = .ok (.baload, 1)) (hk : fw_kd t .boolean) (ha : w a = some (.inl (fw_c g t, n, .inl f))) (hi : vp_in i n) (kk : fw_R g M Post nc ns w (pc + 1) L (.int (f i.toNatClampNeg) :: rest)) : fw_R g M Post nc ns w pc L (.int i :: .ref a :: rest) := by
  intro hg s m args below meth c H locs cells slots ls cx hB hH hS h1 h2 hl
  have kk := kk hg s m args below meth c H locs cells slots ls cx hB hH hS h1 h2 hl
  obtain ⟨ws, hP, hD, hw⟩ := hH
  obtain ⟨q0, he⟩ := hw.at ha
  exact va_zald hg.1 cx.2.2.2.2.1 (cx.K hg) hP q0 t he (fw_tys hg hk) hi hd kk
theorem fr_lald {a n t : Nat} {f : Nat → Int64} {i : Int32} (hd : decode M.2.1 pc = .ok (.laload, 1)) (hk : fw_kd t .long) (ha : w a = some (.inl (fw_c g t, n, .inr (.inl f)))) (hi : vp_in i n) (kk : fw_R g M Post nc ns w (pc + 1) L (.long (f i.toNatClampNeg) :: rest)) : fw_R g M Post nc ns w pc L (.int i :: .ref a :: rest) := by
  intro hg s m args below meth c H locs cells slots ls cx hB hH hS h1 h2 hl
  have kk := kk hg s m args below meth c H locs cells slots ls cx hB hH hS h1 h2 hl
  obtain ⟨ws, hP, hD, hw⟩ := hH
  obtain ⟨q0, he⟩ := hw.at ha
  exact va_lald hg.1 cx.2.2.2.2.1 (cx.K hg) hP q0 t he (fw_tys hg hk) hi hd kk
theorem fr_aald {a n t : Nat} {C : String} {f : Nat → Option Nat} {i : Int32} (hd : decode M.2.1 pc = .ok (.aaload, 1)) (hk : fw_kd t (.object C)) (ha : w a = some (.inl (fw_c g t, n, .inr (.inr (.inr (.inr f)))))) (hi : vp_in i n) (kk : fw_R g M Post nc ns w (pc + 1) L (va_rf (f i.toNatClampNeg) :: rest)) : fw_R g M Post nc ns w pc L (.int i :: .ref a :: rest) := by
  intro hg s m args below meth c H locs cells slots ls cx hB hH hS h1 h2 hl
  have kk := kk hg s m args below meth c H locs cells slots ls cx hB hH hS h1 h2 hl
  obtain ⟨ws, hP, hD, hw⟩ := hH
  obtain ⟨q0, he⟩ := hw.at ha
  exact va_aldq hg.1 cx.2.2.2.2.1 (cx.K hg) hP q0 t he (fw_tys hg hk) hi hd kk
theorem fr_iast {a n t : Nat} {f : Nat → Int32} {i x : Int32} (hd : decode M.2.1 pc = .ok (.iastore, 1)) (hk : fw_kd t .int) (ha : w a = some (.inl (fw_c g t, n, .inl f))) (hi : vp_in i n) (kk : fw_R g M Post nc ns (fw_up w a (.inl (fw_c g t, n, .inl (upd f i.toNatClampNeg x)))) (pc + 1) L rest) : fw_R g M Post nc ns w pc L (.int x :: .int i :: .ref a :: rest) := by
  intro hg s m args below meth c H locs cells slots ls cx hB hH hS h1 h2 hl
  obtain ⟨ws, hP, hD, hw⟩ := hH
  obtain ⟨q0, he⟩ := hw.at ha
  exact va_iast hg.1 cx.2.2.2.2.1 (cx.K hg) hP hD hS q0 t he (fw_tys hg hk) hi hd (fun H1 locs1 hP1 hD1 hS1 => kk hg s m args below meth c H1 locs1 cells slots ls cx hB ⟨_, hP1, hD1, hw.set hD he⟩ hS1 h1 h2 hl)
theorem fr_zast {a n t : Nat} {f : Nat → Int32} {i x : Int32} (hd : decode M.2.1 pc = .ok (.bastore, 1)) (hk : fw_kd t .boolean) (ha : w a = some (.inl (fw_c g t, n, .inl f))) (hi : vp_in i n) (hx : x = 0 ∨ x = 1) (kk : fw_R g M Post nc ns (fw_up w a (.inl (fw_c g t, n, .inl (upd f i.toNatClampNeg x)))) (pc + 1) L rest) : fw_R g M Post nc ns w pc L (.int x :: .int i :: .ref a :: rest) := by
  intro hg s m args below meth c H locs cells slots ls cx hB hH hS h1 h2 hl
  obtain ⟨ws, hP, hD, hw⟩ := hH
  obtain ⟨q0, he⟩ := hw.at ha
  have hx2 : vp_nar .boolean x = x := by rcases hx with rfl | rfl <;> rfl
  exact va_zast hg.1 cx.2.2.2.2.1 (cx.K hg) hP hD hS q0 t he (fw_tys hg hk) hi hd (fun H1 locs1 hP1 hD1 hS1 => kk hg s m args below meth c H1 locs1 cells slots ls cx hB (by rw [hx2] at hP1 hD1; exact ⟨_, hP1, hD1, hw.set hD he⟩) hS1 h1 h2 hl)
theorem fr_last {a n t : Nat} {f : Nat → Int64} {i : Int32} {x : Int64} (hd : decode M.2.1 pc = .ok (.lastore, 1)) (hk : fw_kd t .long) (ha : w a = some (.inl (fw_c g t, n, .inr (.inl f)))) (hi : vp_in i n) (kk : fw_R g M Post nc ns (fw_up w a (.inl (fw_c g t, n, .inr (.inl (vp_updL f i.toNatClampNeg x))))) (pc + 1) L rest) : fw_R g M Post nc ns w pc L (.long x :: .int i :: .ref a :: rest) := by
  intro hg s m args below meth c H locs cells slots ls cx hB hH hS h1 h2 hl
  obtain ⟨ws, hP, hD, hw⟩ := hH
  obtain ⟨q0, he⟩ := hw.at ha
  exact va_last hg.1 cx.2.2.2.2.1 (cx.K hg) hP hD hS q0 t he (fw_tys hg hk) hi hd (fun H1 locs1 hP1 hD1 hS1 => kk hg s m args below meth c H1 locs1 cells slots ls cx hB ⟨_, hP1, hD1, hw.set hD he⟩ hS1 h1 h2 hl)
theorem fr_aast {a n t v ci : Nat} {r : vw_C} {f : Nat → Option Nat} {vs : List Value} {i : Int32} (hd : decode M.2.1 pc = .ok (.aastore, 1)) (hr : fw_cl[ci]? = some r) (hk : fw_kd t (.object r.1)) (ha : w a = some (.inl (fw_c g t, n, .inr (.inr (.inr (.inr f)))))) (hv : w v = some (.inr (ci, vs))) (hi : vp_in i n) (kk : fw_R g M Post nc ns (fw_up w a (.inl (fw_c g t, n, .inr (.inr (.inr (.inr (va_up f i.toNatClampNeg (some v)))))))) (pc + 1) L rest) : fw_R g M Post nc ns w pc L (.ref v :: .int i :: .ref a :: rest) := by
  intro hg s m args below meth c H locs cells slots ls cx hB hH hS h1 h2 hl
  obtain ⟨ws, hP, hD, hw⟩ := hH
  obtain ⟨q0, he⟩ := hw.at ha
  obtain ⟨qk, hev⟩ := hw.at hv
  exact va_astq hg.1 cx.2.2.2.2.1 (cx.K hg) hP hD hS q0 t qk ci he (fw_tys hg hk) hev hr hi hd (fun H1 locs1 hP1 hD1 hS1 => kk hg s m args below meth c H1 locs1 cells slots ls cx hB ⟨_, hP1, hD1, hw.set hD he⟩ hS1 h1 h2 hl)
theorem fr_aastO {a n t v ci : Nat} {E : String} {r : vw_C} {f : Nat → Option Nat} {vs : List Value} {i : Int32} (hd : decode M.2.1 pc = .ok (.aastore, 1)) (hr : fw_cl[ci]? = some r) (hca : Cond.castable r.1 E ∈ lw_tbl) (hk : fw_kd t (.object E)) (ha : w a = some (.inl (fw_c g t, n, .inr (.inr (.inr (.inr f)))))) (hv : w v = some (.inr (ci, vs))) (hi : vp_in i n) (kk : fw_R g M Post nc ns (fw_up w a (.inl (fw_c g t, n, .inr (.inr (.inr (.inr (va_up f i.toNatClampNeg (some v)))))))) (pc + 1) L rest) : fw_R g M Post nc ns w pc L (.ref v :: .int i :: .ref a :: rest) := by
  intro hg s m args below meth c H locs cells slots ls cx hB hH hS h1 h2 hl
  obtain ⟨ws, hP, hD, hw⟩ := hH
  obtain ⟨q0, he⟩ := hw.at ha
  obtain ⟨qk, hev⟩ := hw.at hv
  exact va_astqO hg.1 cx.2.2.2.2.1 (cx.K hg) hP hD hS q0 t qk ci he (fw_tys hg hk) (fw_wordC hg cx.1 hca) hev hr hi hd (fun H1 locs1 hP1 hD1 hS1 => kk hg s m args below meth c H1 locs1 cells slots ls cx hB ⟨_, hP1, hD1, hw.set hD he⟩ hS1 h1 h2 hl)
theorem fr_aastN {a n t : Nat} {C : String} {f : Nat → Option Nat} {i : Int32} (hd : decode M.2.1 pc = .ok (.aastore, 1)) (hk : fw_kd t (.object C)) (ha : w a = some (.inl (fw_c g t, n, .inr (.inr (.inr (.inr f)))))) (hi : vp_in i n) (kk : fw_R g M Post nc ns (fw_up w a (.inl (fw_c g t, n, .inr (.inr (.inr (.inr (va_up f i.toNatClampNeg none))))))) (pc + 1) L rest) : fw_R g M Post nc ns w pc L (.null :: .int i :: .ref a :: rest) := by
  intro hg s m args below meth c H locs cells slots ls cx hB hH hS h1 h2 hl
  obtain ⟨ws, hP, hD, hw⟩ := hH
  obtain ⟨q0, he⟩ := hw.at ha
  exact va_astqN hg.1 cx.2.2.2.2.1 (cx.K hg) hP hD hS q0 t he (fw_tys hg hk) hi hd (fun H1 locs1 hP1 hD1 hS1 => kk hg s m args below meth c H1 locs1 cells slots ls cx hB ⟨_, hP1, hD1, hw.set hD he⟩ hS1 h1 h2 hl)
theorem fr_alen {a t : Nat} {ty : FieldType} {x : vp_A} {v : Int32} (hd : decode M.2.1 pc = .ok (.arraylength, 1)) (hk : fw_kd t ty) (ha : w a = some (.inl (fw_c g t, x))) (hv : Int32.ofNat x.1 = v) (kk : fw_R g M Post nc ns w (pc + 1) L (.int v :: rest)) : fw_R g M Post nc ns w pc L (.ref a :: rest) := by
  intro hg s m args below meth c H locs cells slots ls cx hB hH hS h1 h2 hl
  have kk := kk hg s m args below meth c H locs cells slots ls cx hB hH hS h1 h2 hl
  obtain ⟨ws, hP, hD, hw⟩ := hH
  obtain ⟨q0, he⟩ := hw.at ha
  exact va_alen hg.1 cx.2.2.2.2.1 (cx.K hg) hP q0 t he (fw_tys hg hk) hv hd kk
theorem fw_sameRA {U : State} {c1 c2 : ClassId} {ty : FieldType} (h1 : va_RA U c1 ty) (h2 : va_RA U c2 ty) : c1 = c2 := by
  cases ty with
  | object C =>
    obtain ⟨_, _, -, -, -, a⟩ := h1
    obtain ⟨_, _, -, -, -, b⟩ := h2
    exact Option.some.inj (a.symm.trans b)
  | _ => exact Option.some.inj (Eq.trans (Eq.symm h1) h2)
theorem fr_newa {atype : ArrayType} {ty : FieldType} {n : Int32} {N t : Nat} {a0 : vp_A} (hd : decode M.2.1 pc = .ok (.newarray atype, 2)) (hty : newarray.typeOf atype = ty) (harr : Cond.arrayClass ty ∈ lw_tbl) (hk : fw_kd t ty) (ha : ∀ cA : ClassId, vp_cell cA a0 = arrV cA N (fun _ => defaultValue ty)) (hn : ¬ n < 0) (hN : n.toNatClampNeg = N) (hb : N * componentBytes ty ≤ 536870912)
    (kk : ∀ q : Nat, w q = none → fw_R g M Post nc ns (fw_up w q (.inl (fw_c g t, a0))) (pc + 2) L (.ref q :: rest)) : fw_R g M Post (nc + 1) (ns + N) w pc L (.int n :: rest) := by
  intro hg s m args below meth c H locs cells slots ls cx hB hH hS h1 h2 hl
  obtain ⟨ws, hP, hD, hw⟩ := hH
  subst hty
  refine va_newa hg.1 cx.2.2.2.2.1 (fw_wordA hg cx.1 harr) rfl (cx.K hg) hP hD hS (fun q h => h) ha hn hN hb (by omega) (by omega) hd (fun q cA H1 hK1 hP1 hD1 hS1 => ?_)
  have hc : cA = fw_c g t := by
    have e1 := (hK1.2 g.2.2.2.2.2.1.length (cA, newarray.typeOf atype) (by simp)).2
    have e2 := ((cx.K hg).2 t _ (fw_tys hg hk)).2
    exact fw_sameRA e1 e2
  subst hc
  obtain ⟨hq, hw1⟩ := hw.push hD1
  exact kk q hq hg s m args below meth c H1 locs (cells + 1) (slots + N) ls cx hB ⟨_, hP1, hD1, hw1⟩ hS1 (by omega) (by omega) hl
theorem fr_newq {C : String} {idx : Nat} {n : Int32} {N t : Nat} (hd : decode M.2.1 pc = .ok (.anewarray idx, 3)) (hcl : Cond.classLink M.1.cls idx C ∈ lw_tbl) (hov : Cond.arrayOver (.object C) ∈ lw_tbl) (hk : fw_kd t (.object C)) (hn : ¬ n < 0) (hN : n.toNatClampNeg = N) (hb : N * 4 ≤ 536870912)
    (kk : ∀ q : Nat, w q = none → fw_R g M Post nc ns (fw_up w q (.inl (fw_c g t, N, .inr (.inr (.inr (.inr (fun _ => none))))))) (pc + 3) L (.ref q :: rest)) : fw_R g M Post (nc + 1) (ns + N) w pc L (.int n :: rest) := by
  intro hg s m args below meth c H locs cells slots ls cx hB hH hS h1 h2 hl
  obtain ⟨ws, hP, hD, hw⟩ := hH
  have hover : va_AO C s := by
    obtain ⟨a0, h⟩ := hg.2.1
    exact va_AO.moved cx.1.alike (va_AO.of (h _ hov))
  refine va_newq hg.1 cx.2.2.2.2.1 cx.own (fw_word hg cx.1 hcl rfl) hover (cx.K hg) hP hD hS (fun q h => h) hn hN hb (by omega) (by omega) hd (fun q cA H1 hK1 hP1 hD1 hS1 => ?_)
  have hc : cA = fw_c g t := by
    have e1 := (hK1.2 g.2.2.2.2.2.1.length (cA, .object C) (by simp)).2
    have e2 := ((cx.K hg).2 t _ (fw_tys hg hk)).2
    exact fw_sameRA e1 e2
  subst hc
  obtain ⟨hq, hw1⟩ := hw.push hD1
  exact kk q hq hg s m args below meth c H1 locs (cells + 1) (slots + N) ls cx hB ⟨_, hP1, hD1, hw1⟩ hS1 (by omega) (by omega) hl
def fw_nw (own : String) (idx ci N : Nat) (fs : List Value) : Prop := ∃ (C : String) (T : u_T), fw_cl[ci]? = some (C, T, N) ∧ (∀ x ∈ u_ws C T N, x ∈ lw_tbl) ∧ Cond.classLink own idx C ∈ lw_tbl ∧ Cond.instantiable C N ∈ lw_tbl ∧ Cond.initialized C ∈ lw_tbl ∧ ∃ ty : Nat → FieldType, (∀ k, k < N → parseFieldDescriptor (T k).2.2.1 = some (ty k)) ∧ ∀ j, j < N → defaultValue (ty j) = vp_V fs j
theorem fr_new {idx ci N : Nat} {fs : List Value} (hd : decode M.2.1 pc = .ok (.new idx, 3)) (hf : fw_nw M.1.cls idx ci N fs) (kk : ∀ q : Nat, w q = none → fw_R g M Post nc ns (fw_up w q (.inr (ci, fs))) (pc + 3) L (.ref q :: rest)) : fw_R g M Post (nc + 1) (ns + N) w pc L rest := by
  intro hg s m args below meth c H locs cells slots ls cx hB hH hS h1 h2 hl
  obtain ⟨ws, hP, hD, hw⟩ := hH
  obtain ⟨C, T, hc, hin, hcl, hinst, hini, ty, hty, hfs⟩ := hf
  have hts : ∀ x ∈ u_ws C T N, x.before args s = true := fun x hx => fw_word hg cx.1 (hin x hx) (fw_lay_ok hx)
  refine va_new hg.1 cx.2.2.2.2.1 hts (fun x h => h) ty hty cx.own (fw_word hg cx.1 hcl rfl) (fw_word hg cx.1 hinst rfl) (fw_word hg cx.1 hini rfl) (cx.K hg) hP hD hS (fun q h => h) hc hfs (by omega) (by omega) hd (fun q H1 hP1 hD1 hS1 => ?_)
  obtain ⟨hq, hw1⟩ := hw.push hD1
  exact kk q hq hg s m args below meth c H1 locs (cells + 1) (slots + N) ls cx hB ⟨_, hP1, hD1, hw1⟩ hS1 (by omega) (by omega) hl
end FH

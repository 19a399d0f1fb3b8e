section FJ
variable {g : fw_G} {M : fw_M} {Post : fw_O → fw_W → Prop} {nc ns : Nat} {w : fw_W} {pc : Nat} {L : List (Nat × Value)} {rest : List Value}
theorem fr_dflt {idx : Nat} (hd : decode M.2.1 pc = .ok (.getstatic idx, 3)) (hx : Cond.fieldLink M.1.cls idx "java/util/ArrayList" "DEFAULTCAPACITY_EMPTY_ELEMENTDATA" "[Ljava/lang/Object;" ∈ lw_tbl) (kk : fw_R g M Post nc ns w (pc + 3) L (.ref (fw_df g) :: rest)) : fw_R g M Post nc ns w pc L rest := by
  intro hg s m args below meth c H locs cells slots ls cx hB hH hS e1 e2 hl T hT X
  have hz : s.heap.size ≤ H.size := by rw [← hT]; exact X.same.2.1
  exact va_gets (A := fw_A g) hg.1 cx.2.2.2.2.1 ((va_Z.moved cx.1.alike hg.2.2.2.2.2.2.2.2.1).kept (fun a h1 h2 => hB.2.1 a h1 h2)) (fw_Sb hB hS hz) cx.own (fw_word hg cx.1 hx rfl) (fun x h => h) hd (kk hg s m args below meth c H locs cells slots ls cx hB hH hS e1 e2 hl) T hT X
theorem fr_alenD (hd : decode M.2.1 pc = .ok (.arraylength, 1)) (kk : fw_R g M Post nc ns w (pc + 1) L (.int 0 :: rest)) : fw_R g M Post nc ns w pc L (.ref (fw_df g) :: rest) := by
  intro hg s m args below meth c H locs cells slots ls cx hB hH hS e1 e2 hl T hT X
  have hz : s.heap.size ≤ H.size := by rw [← hT]; exact X.same.2.1
  exact va_tlen (A := fw_A g) hg.1 cx.2.2.2.2.1 ((va_T.moved cx.1.alike hg.2.2.2.2.2.2.2.2.2.1).kept (fun a h1 h2 => hB.2.1 a h1 h2)) (fw_Sb hB hS hz) rfl hd (kk hg s m args below meth c H locs cells slots ls cx hB hH hS e1 e2 hl) T hT X
theorem fr_ldcM {idx : Nat} (hd : decode M.2.1 pc = .ok (.ldc idx, 2)) (hx : Cond.classLink M.1.cls idx "[Ljava/lang/Object;" ∈ lw_tbl) (kk : fw_R g M Post nc ns w (pc + 2) L (.ref (fw_mi g) :: rest)) : fw_R g M Post nc ns w pc L rest := by
  intro hg s m args below meth c H locs cells slots ls cx hB hH hS e1 e2 hl
  exact va_ldcM hg.1 cx.2.2.2.2.1 cx.own (fw_word hg cx.1 hx rfl) (va_Mi.moved cx.1.alike hg.2.2.2.2.2.2.2.2.2.2) hd (kk hg s m args below meth c H locs cells slots ls cx hB hH hS e1 e2 hl)
theorem fr_getC {idx a n : Nat} {f : Nat → Option Nat} (hd : decode M.2.1 pc = .ok (.invokevirtual idx, 3)) (hx : Cond.methodLink M.1.cls idx ⟨"java/lang/Object", "getClass", "()Ljava/lang/Class;"⟩ ∈ lw_tbl) (h1 : Cond.declares ⟨"java/lang/Object", "getClass", "()Ljava/lang/Class;"⟩ ∈ lw_tbl) (h2 : Cond.selects "[Ljava/lang/Object;" ⟨"java/lang/Object", "getClass", "()Ljava/lang/Class;"⟩ ⟨"java/lang/Object", "getClass", "()Ljava/lang/Class;"⟩ ∈ lw_tbl) (h3 : Cond.instanceMethod ⟨"java/lang/Object", "getClass", "()Ljava/lang/Class;"⟩ ∈ lw_tbl) (h4 : Cond.native ⟨"java/lang/Object", "getClass", "()Ljava/lang/Class;"⟩ ∈ lw_tbl)
    (ha : w a = some (.inl (fw_c g 4, n, .inr (.inr (.inr (.inr f)))))) (hfr : 1 ≤ M.2.2.2.2.1.frames) (hlo : (rest.map fun v => v.category).sum + 14 ≤ M.2.2.2.2.1.locals) (kk : fw_R g M Post nc ns w (pc + 3) L (.ref (fw_mi g) :: rest)) : fw_R g M Post nc ns w pc L (.ref a :: rest) := by
  intro hg s m args below meth c H locs cells slots ls cx hB hH hS e1 e2 hl
  have kk := kk hg s m args below meth c H locs cells slots ls cx hB hH hS e1 e2 hl
  obtain ⟨ws, hP, hD, hw⟩ := hH
  obtain ⟨q0, he⟩ := hw.at ha
  have hRA := ((cx.K hg).2 4 _ (fw_tys hg (t := 4) rfl)).2
  obtain ⟨kA, comp, -, -, -, hfc⟩ := hRA
  have hcell : H[a]? = some (vp_cell (fw_c g 4) (n, .inr (.inr (.inr (.inr f))))) := hP q0 _ he
  exact va_getC hg.1 cx.2.2.2.2.1 (cx.2.2.2.2.2.1.trans hl.1.symm) cx.own (fw_word hg cx.1 hx rfl) (fw_wordK hg cx.1 h1 rfl) (fw_word hg cx.1 h2 rfl) (fw_word hg cx.1 h3 rfl) (fw_word hg cx.1 h4 rfl) (va_Mi.moved cx.1.alike hg.2.2.2.2.2.2.2.2.2.2) ⟨_, hcell, rfl, hfc⟩ hfr hlo hd kk
theorem fr_copy {idx a a0 n0 n1 sp dp k : Nat} {f f1 f2 : Nat → Option Nat} (hd : decode M.2.1 pc = .ok (.invokestatic idx, 3)) (hx : Cond.methodLink M.1.cls idx arraycopyName ∈ lw_tbl) (h1 : Cond.native arraycopyName ∈ lw_tbl) (h2 : Cond.static arraycopyName ∈ lw_tbl) (h3 : Cond.initialized "java/lang/System" ∈ lw_tbl) (h4 : Cond.castable "FolderRights$Entry" "java/lang/Object" ∈ lw_tbl)
    (ha0 : w a0 = some (.inl (fw_c g 4, n0, .inr (.inr (.inr (.inr f)))))) (ha1 : w a = some (.inl (fw_c g 4, n1, .inr (.inr (.inr (.inr f1)))))) (hb0 : n0 < 2 ^ 31) (hb1 : n1 < 2 ^ 31) (hs : sp + k ≤ n0) (hdp : dp + k ≤ n1) (hel : ∀ i, i < k → ∀ y, f (sp + i) = some y → ∃ fs, w y = some (.inr (3, fs))) (hf2 : va_cpy f f1 sp dp k = f2)
    (hfr : 1 ≤ M.2.2.2.2.1.frames) (hlo : (rest.map fun v => v.category).sum + (nativeFrameWords "java/lang/System" "arraycopy" 5 + 11) ≤ M.2.2.2.2.1.locals) (kk : fw_R g M Post nc ns (fw_up w a (.inl (fw_c g 4, n1, .inr (.inr (.inr (.inr f2)))))) (pc + 3) L rest) :
    fw_R g M Post nc ns w pc L (.int (nI k) :: .int (nI dp) :: .ref a :: .int (nI sp) :: .ref a0 :: rest) := by
  intro hg s m args below meth c H locs cells slots ls cx hB hH hS e1 e2 hl
  obtain ⟨ws, hP, hD, hw⟩ := hH
  obtain ⟨q0, he0⟩ := hw.at ha0
  obtain ⟨q1, he1⟩ := hw.at ha1
  have c1 : (nI sp).toNatClampNeg = sp := nI_clamp (by omega)
  have c2 : (nI dp).toNatClampNeg = dp := nI_clamp (by omega)
  have c3 : (nI k).toNatClampNeg = k := nI_clamp (by omega)
  refine va_copyq (C := "FolderRights$Entry") hg.1 cx.2.2.2.2.1 (cx.2.2.2.2.2.1.trans hl.1.symm) cx.own (fw_word hg cx.1 hx rfl) (fw_word hg cx.1 h1 rfl) (fw_word hg cx.1 h2 rfl) (fw_word hg cx.1 h3 rfl) (cx.K hg) hP hD hS q0 q1 4 4 he0 he1 (fw_tys hg (t := 4) rfl) (fw_tys hg (t := 4) rfl) (nI_pos (by omega)) (nI_pos (by omega)) (nI_pos (by omega)) (by rw [c1, c3]; exact hs) (by rw [c2, c3]; exact hdp) ?_ (vb_asgC (fw_wordC hg cx.1 h4)) hfr hlo hd (fun H1 locs1 hP1 hD1 hS1 => ?_)
  · intro i hi y hy
    rw [c3] at hi
    rw [c1] at hy
    obtain ⟨fs, hfs⟩ := hel i hi y hy
    obtain ⟨qy, hqy⟩ := hw.at hfs
    exact va_recv (cx.K hg) hP (ci := 3) rfl hqy
  · rw [c1, c2, c3, hf2] at hP1 hD1
    exact kk hg s m args below meth c H1 locs1 cells slots ls cx hB ⟨_, hP1, hD1, hw.set hD he1⟩ hS1 e1 e2 hl
end FJ

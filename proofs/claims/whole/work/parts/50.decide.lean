theorem fr_cast {g : fw_G} {M : fw_M} {Post : fw_O → fw_W → Prop} {nc ns : Nat} {w : fw_W} {pc : Nat} {L : List (Nat × Value)} {rest : List Value} {idx ci a : Nat} {C : String} {T0 : u_T} {N0 : Nat} {fs : List Value} (hd : decode M.2.1 pc = .ok (.checkcast idx, 3)) (hx : Cond.classLink M.1.cls idx C ∈ lw_tbl) (hcl : fw_cl[ci]? = some (C, T0, N0)) (ha : w a = some (.inr (ci, fs))) (kk : fw_R g M Post nc ns w (pc + 3) L (.ref a :: rest)) : fw_R g M Post nc ns w pc L (.ref a :: rest) := by
  intro hg s m args below meth c H locs cells slots ls cx hB hH hS e1 e2 hl
  obtain ⟨ws, hP, hD, hw⟩ := id hH
  obtain ⟨q0, hq0⟩ := hw.at ha
  obtain ⟨cellB, hcB, hoB, hclB⟩ := va_recv (cx.K hg) hP hcl hq0
  exact va_castE hg.1 cx.2.2.2.2.1 cx.own (fw_word hg cx.1 hx rfl) ⟨cellB, hcB, hoB, hclB⟩ hd (kk hg s m args below meth c H locs cells slots ls cx hB hH hS e1 e2 hl)
noncomputable def fs_in (hu hg : Nat → Nat → Bool) (i u : Nat) : Bool := @decide (∃ k, cl_rt hg i k ∧ hu k u = true) (Classical.propDecidable _)
theorem fs_in_f4 {hu hg : Nat → Nat → Bool} {n us : Nat} {f1 f2 f3 f4 : Nat → Int64} (h : gr_rep hu hg n us f1 f2 f3 f4) (i u : Nat) : bb (f4 i) u = fs_in hu hg i u := by
  have e := h.2.2.2.1 i u
  unfold fs_in
  by_cases hc : ∃ k, cl_rt hg i k ∧ hu k u = true
  · rw [e.mpr hc]; simp [hc]
  · have : bb (f4 i) u = false := by
      cases hb : bb (f4 i) u with
      | false => rfl
      | true => exact absurd (e.mp hb) hc
    rw [this]; simp [hc]
def fs_nu (f4 : Nat → Int64) (E : fs_E) : Int64 := if E.2.2.1 then f4 E.2.1 else (1 : Int64) <<< ((nI E.2.1).toInt64 &&& 63)
def fs_mt (inn : Nat → Nat → Bool) (E : fs_E) (u : Nat) : Bool := if E.2.2.1 then inn E.2.1 u else decide (E.2.1 = u)
def fs_gr (N : fs_N) (n lev r : Nat) (E : fs_E) : Bool := E.2.2.2.1.testBit r && er E.2.2.2.2 (decide (n = lev)) N.1 (decide (N.2.1 = some lev))
theorem fs_nu_b {f4 : Nat → Int64} {E : fs_E} {u : Nat} (hu : u < 64) (hE : E.2.2.1 = false → E.2.1 < 64) : bb (fs_nu f4 E) u = fs_mt (fun i u => bb (f4 i) u) E u := by
  unfold fs_nu fs_mt
  cases h : E.2.2.1 with
  | true => simp
  | false =>
    simp only [Bool.false_eq_true, if_false]
    rw [bb_shl (hE h) hu]
    congr 1
    exact propext ⟨fun e => e.symm, fun e => e.symm⟩
def fs_hb (f4 : Nat → Int64) (N : fs_N) (n lev r : Nat) (al : Bool) : Int64 → List fs_E → Int64
  | acc, [] => acc
  | acc, E :: t => fs_hb f4 N n lev r al (if E.1 = al ∧ fs_gr N n lev r E = true then acc ||| fs_nu f4 E else acc) t
def fs_hit (inn : Nat → Nat → Bool) (N : fs_N) (n lev r u : Nat) (E : fs_E) : Bool := fs_gr N n lev r E && fs_mt inn E u
theorem fs_hb_b {f4 : Nat → Int64} {N : fs_N} {n lev r : Nat} {al : Bool} {u : Nat} (hu : u < 64) : ∀ (es : List fs_E) (acc : Int64), (∀ E ∈ es, E.2.2.1 = false → E.2.1 < 64) → bb (fs_hb f4 N n lev r al acc es) u = (bb acc u || es.any (fun E => (E.1 == al) && fs_hit (fun i u => bb (f4 i) u) N n lev r u E)) := by
  intro es
  induction es with
  | nil => intro acc _; simp [fs_hb]
  | cons E t ih =>
    intro acc hE
    have hE1 := hE E List.mem_cons_self
    rw [fs_hb, ih _ (fun E' h => hE E' (List.mem_cons_of_mem _ h)), List.any_cons]
    by_cases hc : E.1 = al ∧ fs_gr N n lev r E = true
    · rw [if_pos hc, bb_or, fs_nu_b hu hE1]
      simp only [fs_hit, hc.1, hc.2, beq_self_eq_true, Bool.true_and, Bool.or_assoc]
    · rw [if_neg hc]
      have : ((E.1 == al) && fs_hit (fun i u => bb (f4 i) u) N n lev r u E) = false := by
        cases h1 : (E.1 == al) with
        | false => rfl
        | true =>
          cases h2 : fs_gr N n lev r E with
          | false => simp [fs_hit, h2]
          | true => exact absurd ⟨beq_iff_eq.mp h1, h2⟩ hc
      rw [this, Bool.false_or]
def fs_fd (P : fs_E → Bool) : List fs_E → Nat → Option Nat
  | [], _ => none
  | E :: t, i => if P E = true then some i else fs_fd P t (i + 1)
theorem fs_fd_any {P : fs_E → Bool} : ∀ (es : List fs_E) (i : Nat), (fs_fd P es i).isSome = es.any P := by
  intro es
  induction es with
  | nil => intro i; rfl
  | cons E t ih =>
    intro i
    rw [fs_fd, List.any_cons]
    cases h : P E with
    | true => simp
    | false => simp [ih]
theorem fs_fd_at {P : fs_E → Bool} : ∀ (es : List fs_E) (i p : Nat), fs_fd P es i = some p → i ≤ p ∧ ∃ E, es[p - i]? = some E ∧ P E = true := by
  intro es
  induction es with
  | nil => intro i p h; cases h
  | cons E t ih =>
    intro i p h
    rw [fs_fd] at h
    by_cases hP : P E = true
    · rw [if_pos hP] at h; cases h
      exact ⟨Nat.le_refl _, E, by simp, hP⟩
    · rw [if_neg hP] at h
      obtain ⟨h1, E2, h2, h3⟩ := ih (i + 1) p h
      refine ⟨by omega, E2, ?_, h3⟩
      have e : p - i = (p - (i + 1)) + 1 := by omega
      rw [e, List.getElem?_cons_succ]; exact h2
def fs_dp (H : fs_E → Bool) : Option Nat → List fs_E → Nat → Option Nat
  | acc, [], _ => acc
  | acc, E :: t, i => if H E = true then (if E.1 = true then fs_dp H (if acc = none then some i else acc) t (i + 1) else some i) else fs_dp H acc t (i + 1)
def fs_lv1 (H : fs_E → Bool) (es : List fs_E) : Option (Nat × Bool) := match fs_fd (fun E => (E.1 == false) && H E) es 0 with
  | some p => some (p, false)
  | none => (fs_fd (fun E => (E.1 == true) && H E) es 0).map (fun p => (p, true))
theorem fs_dp_eq {H : fs_E → Bool} : ∀ (es : List fs_E) (acc : Option Nat) (i : Nat), fs_dp H acc es i = (match fs_fd (fun E => (E.1 == false) && H E) es i with
  | some p => some p
  | none => (match acc with
    | some a => some a
    | none => fs_fd (fun E => (E.1 == true) && H E) es i)) := by
  intro es
  induction es with
  | nil => intro acc i; cases acc <;> rfl
  | cons E t ih =>
    intro acc i
    simp only [fs_dp, fs_fd]
    by_cases hH : H E = true
    · by_cases hE : E.1 = true
      · have q1 : ((E.1 == false) && H E) = false := by rw [hE]; rfl
        have q2 : ((E.1 == true) && H E) = true := by rw [hE, hH]; rfl
        rw [if_pos hH, if_pos hE, ih]
        simp only [q1, q2, Bool.false_eq_true, if_false, if_true]
        cases acc with
        | none => simp
        | some a => simp
      · have hE2 : E.1 = false := by simpa using hE
        have q1 : ((E.1 == false) && H E) = true := by rw [hE2, hH]; rfl
        rw [if_pos hH, if_neg hE]
        simp only [q1, if_true]
    · have hH2 : H E = false := by simpa using hH
      have q1 : ((E.1 == false) && H E) = false := by rw [hH2, Bool.and_false]
      have q2 : ((E.1 == true) && H E) = false := by rw [hH2, Bool.and_false]
      rw [if_neg hH, ih]
      simp only [q1, q2, Bool.false_eq_true, if_false]
theorem fs_dp_lv1 {H : fs_E → Bool} {es : List fs_E} : fs_dp H none es 0 = (fs_lv1 H es).map (fun q => q.1) := by
  rw [fs_dp_eq]
  unfold fs_lv1
  cases fs_fd (fun E => (E.1 == false) && H E) es 0 with
  | some p => rfl
  | none => cases fs_fd (fun E => (E.1 == true) && H E) es 0 <;> rfl
theorem fs_lv1_at {H : fs_E → Bool} {es : List fs_E} {p : Nat} {b : Bool} (h : fs_lv1 H es = some (p, b)) : ∃ E, es[p]? = some E ∧ E.1 = b := by
  unfold fs_lv1 at h
  cases h1 : fs_fd (fun E => (E.1 == false) && H E) es 0 with
  | some q =>
    rw [h1] at h; cases h
    obtain ⟨-, E, e1, e2⟩ := fs_fd_at _ _ _ h1
    rw [Nat.sub_zero] at e1
    exact ⟨E, e1, by simp only [Bool.and_eq_true, beq_iff_eq] at e2; exact e2.1⟩
  | none =>
    rw [h1] at h
    cases h2 : fs_fd (fun E => (E.1 == true) && H E) es 0 with
    | none => rw [h2] at h; cases h
    | some q =>
      rw [h2] at h; cases h
      obtain ⟨-, E, e1, e2⟩ := fs_fd_at _ _ _ h2
      rw [Nat.sub_zero] at e1
      exact ⟨E, e1, by simp only [Bool.and_eq_true, beq_iff_eq] at e2; exact e2.1⟩
def fs_es (nd : fs_D) (v : Nat) : List fs_E := match nd v with
  | some V => V.2.2.2.2.2
  | none => []
def fs_bl (nd : fs_D) (v : Nat) : Bool := match nd v with
  | some V => V.2.2.2.1
  | none => true
def fs_lv (nd : fs_D) : List Nat → List Nat
  | [] => []
  | v :: t => v :: (if fs_bl nd v = true then [] else fs_lv nd t)
def fs_ls (nd : fs_D) (n : Nat) : List Nat := fs_lv nd (n :: fs_ab nd n)
def fs_dc (nd : fs_D) (inn : Nat → Nat → Bool) (N : fs_N) (n r u : Nat) : List Nat → Option (Nat × Nat × Bool)
  | [] => none
  | v :: t => match fs_lv1 (fs_hit inn N n v r u) (fs_es nd v) with
    | some q => some (v, q)
    | none => fs_dc nd inn N n r u t
def fs_yes (q : Option (Nat × Nat × Bool)) : Bool := match q with
  | some x => x.2.2
  | none => false
def fs_hs (nd : fs_D) (f4 : Nat → Int64) (N : fs_N) (n r : Nat) : Int64 → Int64 → List Nat → Int64
  | h, _, [] => h
  | h, d, v :: t => fs_hs nd f4 N n r (h ||| ((fs_hb f4 N n v r true 0 (fs_es nd v) &&& (fs_hb f4 N n v r false 0 (fs_es nd v) ^^^ (-1))) &&& (d ^^^ (-1)))) (d ||| (fs_hb f4 N n v r false 0 (fs_es nd v) ||| fs_hb f4 N n v r true 0 (fs_es nd v))) t
theorem fs_lv1_b {H : fs_E → Bool} {es : List fs_E} : (fs_lv1 H es).isSome = (es.any (fun E => (E.1 == false) && H E) || es.any (fun E => (E.1 == true) && H E)) ∧ ((match fs_lv1 H es with | some q => q.2 | none => false) = (es.any (fun E => (E.1 == true) && H E) && !es.any (fun E => (E.1 == false) && H E))) := by
  rw [← fs_fd_any es 0, ← fs_fd_any es 0]
  unfold fs_lv1
  cases fs_fd (fun E => (E.1 == false) && H E) es 0 with
  | some p => simp
  | none => cases fs_fd (fun E => (E.1 == true) && H E) es 0 <;> simp
theorem fs_hs_b {nd : fs_D} {f4 : Nat → Int64} {N : fs_N} {n r u : Nat} (hu : u < 64) : ∀ (l : List Nat) (h d : Int64), (∀ v ∈ l, ∀ E ∈ fs_es nd v, E.2.2.1 = false → E.2.1 < 64) → bb (fs_hs nd f4 N n r h d l) u = (bb h u || (!bb d u && fs_yes (fs_dc nd (fun i u => bb (f4 i) u) N n r u l))) := by
  intro l
  induction l with
  | nil => intro h d _; simp [fs_hs, fs_dc, fs_yes]
  | cons v t ih =>
    intro h d hE
    have h1 := fs_hb_b (f4 := f4) (N := N) (n := n) (lev := v) (r := r) (al := true) hu (fs_es nd v) 0 (hE v List.mem_cons_self)
    have h2 := fs_hb_b (f4 := f4) (N := N) (n := n) (lev := v) (r := r) (al := false) hu (fs_es nd v) 0 (hE v List.mem_cons_self)
    rw [bb_0, Bool.false_or] at h1 h2
    obtain ⟨k1, k2⟩ := fs_lv1_b (H := fs_hit (fun i u => bb (f4 i) u) N n v r u) (es := fs_es nd v)
    rw [fs_hs, ih _ _ (fun v' hv => hE v' (List.mem_cons_of_mem _ hv)), bb_or, bb_and, bb_and, bb_not hu, bb_not hu, bb_or, bb_or, h1, h2]
    rw [fs_dc]
    cases hl : fs_lv1 (fs_hit (fun i u => bb (f4 i) u) N n v r u) (fs_es nd v) with
    | some q =>
      rw [hl] at k1 k2
      have k3 : q.2 = _ := k2
      show _ = (bb h u || (!bb d u && q.2))
      rw [k3]
      clear k2 k3 h1 h2 ih hl
      revert k1
      generalize fs_yes (fs_dc nd (fun i u => bb (f4 i) u) N n r u t) = Z
      generalize (fs_es nd v).any (fun E => (E.1 == true) && fs_hit (fun i u => bb (f4 i) u) N n v r u E) = A
      generalize (fs_es nd v).any (fun E => (E.1 == false) && fs_hit (fun i u => bb (f4 i) u) N n v r u E) = D
      generalize bb h u = x
      generalize bb d u = y
      intro k1
      have k4 : true = (D || A) := k1
      cases x <;> cases y <;> cases A <;> cases D <;> cases Z <;> first | rfl | cases k4
    | none =>
      rw [hl] at k1
      clear k2 h1 h2 ih hl
      revert k1
      generalize fs_yes (fs_dc nd (fun i u => bb (f4 i) u) N n r u t) = Z
      generalize (fs_es nd v).any (fun E => (E.1 == true) && fs_hit (fun i u => bb (f4 i) u) N n v r u E) = A
      generalize (fs_es nd v).any (fun E => (E.1 == false) && fs_hit (fun i u => bb (f4 i) u) N n v r u E) = D
      generalize bb h u = x
      generalize bb d u = y
      intro k1
      have k4 : false = (D || A) := k1
      cases x <;> cases y <;> cases A <;> cases D <;> cases Z <;> first | rfl | cases k4

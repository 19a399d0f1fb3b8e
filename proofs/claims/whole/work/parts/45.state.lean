abbrev fs_E : Type := Bool × Nat × Bool × Nat × Nat
abbrev fs_N : Type := Bool × Option Nat × Nat × Bool × Bool × List fs_E
abbrev fs_D : Type := Nat → Option fs_N
theorem vu_self {α : Type} {f : Nat → α} {k : Nat} {v : α} : va_up f k v k = v := by simp [va_up]
theorem vu_ne {α : Type} {f : Nat → α} {k j : Nat} {v : α} (h : j ≠ k) : va_up f k v j = f j := by simp [va_up, h]
theorem vu_id {α : Type} {f : Nat → α} {k : Nat} : va_up f k (f k) = f := by
  funext j
  by_cases h : j = k
  · subst h; exact vu_self
  · exact vu_ne h
theorem vu_uu {α : Type} {f : Nat → α} {k : Nat} {u v : α} : va_up (va_up f k u) k v = va_up f k v := by
  funext j
  by_cases h : j = k
  · subst h; rw [vu_self, vu_self]
  · rw [vu_ne h, vu_ne h, vu_ne h]
def fs_ch (nd : fs_D) : Nat → List Nat → Prop
  | k, [] => ∃ N, nd k = some N ∧ N.2.1 = none
  | k, p :: t => (∃ N, nd k = some N ∧ N.2.1 = some p) ∧ fs_ch nd p t
def fs_an (nd : fs_D) : Nat → Nat → List Nat
  | 0, _ => []
  | f + 1, k => match nd k with
    | some N => (match N.2.1 with
      | some p => p :: fs_an nd f p
      | none => [])
    | none => []
theorem fs_an_ch {nd : fs_D} : ∀ (l : List Nat) (k f : Nat), fs_ch nd k l → l.length < f → fs_an nd f k = l := by
  intro l
  induction l with
  | nil =>
    intro k f h hf
    obtain ⟨N, h1, h2⟩ := h
    cases f with
    | zero => omega
    | succ f => simp [fs_an, h1, h2]
  | cons p t ih =>
    intro k f h hf
    obtain ⟨⟨N, h1, h2⟩, h3⟩ := h
    cases f with
    | zero => omega
    | succ f =>
      simp only [fs_an, h1, h2]
      rw [ih p f h3 (by simp only [List.length_cons] at hf; omega)]
def fs_ab (nd : fs_D) (k : Nat) : List Nat := fs_an nd 21 k
def fs_un (nd : fs_D) (k top : Nat) : Bool := decide (top = k ∨ top ∈ fs_ab nd k)
def fs_eo (us n : Nat) (E : fs_E) : Prop := E.2.1 < (if E.2.2.1 then n else us) ∧ E.2.2.2.1 < 256 ∧ E.2.2.2.2 < 16
def fs_ok (us n : Nat) (nd : fs_D) : Prop :=
  1 ≤ us ∧ us ≤ 60 ∧ n ≤ 24 ∧ (∃ N, nd 0 = some N ∧ N.2.1 = none) ∧
  (∀ k N, nd k = some N → k < 150 ∧ (N.2.1 = none → k = 0) ∧ N.2.2.1 < us ∧ N.2.2.2.2.2.length ≤ 12 ∧ (∀ E ∈ N.2.2.2.2.2, fs_eo us n E) ∧ fs_ch nd k (fs_ab nd k) ∧ (fs_ab nd k).length ≤ 20)
abbrev fs_ec (E : fs_E) : List Value := [.int (bI E.1), .int (nI E.2.1), .int (bI E.2.2.1), .int (nI E.2.2.2.1), .int (nI E.2.2.2.2)]
abbrev fs_nc (k : Nat) (N : fs_N) (q : Nat) (pr : Option Nat) : List Value := [.int (nI k), .int (bI N.1), .ref q, va_rf pr, .int (nI N.2.2.1), .int (bI N.2.2.2.1), .int (bI N.2.2.2.2.1)]
def fs_en (w : fw_W) (ts : List Nat) (es : List fs_E) : Prop := ts.length = es.length ∧ ∀ (i y : Nat) (E : fs_E), ts[i]? = some y → es[i]? = some E → w y = some (.inr (3, fs_ec E))
def fs_rN (g : fw_G) (w : fw_W) (nd : fs_D) (ad : Nat → Option Nat) (lq ld lc : Nat → Nat) (lt : Nat → List Nat) : Prop :=
  (∀ k, nd k = none → ad k = none) ∧
  (∀ k N, nd k = some N → k < 150 ∧ ∃ a, ad k = some a ∧ w a = some (.inr (2, fs_nc k N (lq k) (N.2.1.bind ad))) ∧ li_at g w (lq k) (ld k) (lc k) (lt k) ∧ fs_en w (lt k) N.2.2.2.2.2) ∧
  (∀ i j, nd i ≠ none → nd j ≠ none → lq i = lq j → i = j) ∧
  (∀ i j, nd i ≠ none → nd j ≠ none → ld i = ld j → ld i ≠ fw_df g → i = j)
abbrev fs_A : Type := Nat × Nat × Nat × Nat × Nat × Nat × Nat
abbrev fs_no (g : fw_G) (ad : Nat → Option Nat) : va_E := .inl (fw_c g 3, 150, .inr (.inr (.inr (.inr ad))))
abbrev fs_S : Type := Nat × Nat × (Nat → Nat → Bool) × (Nat → Nat → Bool) × fs_D
def fs_Y (g : fw_G) (A : fs_A) (us n : Nat) (hu hg : Nat → Nat → Bool) (nd : fs_D) (f1 f2 f3 f4 : Nat → Int64) (ad : Nat → Option Nat) (lq ld lc : Nat → Nat) (lt : Nat → List Nat) (w : fw_W) : Prop :=
  fs_ok us n nd ∧ w A.1 = some (.inr (0, [.ref A.2.1, .ref A.2.2.2.2.2.2, .int (nI us)])) ∧ gr_at g w A.2.1 A.2.2.1 A.2.2.2.1 A.2.2.2.2.1 A.2.2.2.2.2.1 n f1 f2 f3 f4 ∧ gr_rep hu hg n us f1 f2 f3 f4 ∧
  w A.2.2.2.2.2.2 = some (fs_no g ad) ∧ fs_rN g w nd ad lq ld lc lt
def fs_X (g : fw_G) (A : fs_A) (S : fs_S) (w : fw_W) : Prop := ∃ f1 f2 f3 f4 ad lq ld lc lt, fs_Y g A S.1 S.2.1 S.2.2.1 S.2.2.2.1 S.2.2.2.2 f1 f2 f3 f4 ad lq ld lc lt w
def fs_k (g : fw_G) (A : fs_A) (b : Nat) (e : va_E) : Prop := (∃ ci fs, e = .inr (ci, fs) ∧ ci ≤ 4) ∨ (∃ n f, e = .inl (fw_c g 3, n, f)) ∨ (∃ n f, e = .inl (fw_c g 4, n, f)) ∨ b = A.2.2.1 ∨ b = A.2.2.2.1 ∨ b = A.2.2.2.2.1 ∨ b = A.2.2.2.2.2.1
def fs_F (g : fw_G) (A : fs_A) (w u : fw_W) : Prop := ∀ b e, w b = some e → fs_k g A b e ∨ u b = some e
theorem fs_F_id {g : fw_G} {A : fs_A} {w : fw_W} : fs_F g A w w := fun _ _ h => Or.inr h
theorem fs_F_up {g : fw_G} {A : fs_A} {w : fw_W} {a : Nat} {x : va_E} (h : ∀ e, w a = some e → fs_k g A a e) : fs_F g A w (fw_up w a x) := by
  intro b e hb
  by_cases hba : b = a
  · subst hba; exact Or.inl (h e hb)
  · rw [fw_up_ne hba]; exact Or.inr hb
def fs_F2 (w u : fw_W) : Prop := ∀ b, (∀ fs, w b ≠ some (.inr (2, fs))) → u b = w b
theorem fs_F2_id {w : fw_W} : fs_F2 w w := fun _ _ => rfl
theorem fs_F2_up {w u : fw_W} {a : Nat} {fs : List Value} {x : va_E} (h : fs_F2 w u) (ha : w a = some (.inr (2, fs))) : fs_F2 w (fw_up u a x) := by
  intro b hb
  have hba : b ≠ a := fun e => by subst e; exact hb fs ha
  rw [fw_up_ne hba]; exact h b hb
theorem fs_F2_up2 {w u : fw_W} {a : Nat} {fs : List Value} {x : va_E} (h : fs_F2 w u) (ha : u a = some (.inr (2, fs))) : fs_F2 w (fw_up u a x) := by
  intro b hb
  have hba : b ≠ a := fun e => by
    subst e
    rw [h b hb] at ha
    exact hb fs ha
  rw [fw_up_ne hba]; exact h b hb
theorem fs_F2_F {g : fw_G} {A : fs_A} {w u : fw_W} (h : fs_F2 w u) : fs_F g A w u := by
  intro b e hb
  by_cases hc : ∃ fs, e = .inr (2, fs)
  · obtain ⟨fs, rfl⟩ := hc
    exact Or.inl (Or.inl ⟨2, fs, rfl, by omega⟩)
  · refine Or.inr ?_
    rw [h b (fun fs hfs => hc ⟨fs, by rw [hb] at hfs; exact Option.some.inj hfs⟩)]
    exact hb
theorem fs_F2_trans {w u v : fw_W} (h1 : fs_F2 w u) (h2 : fs_F2 u v) : fs_F2 w v := fun b hb => by
  have e := h1 b hb
  rw [h2 b (fun fs hfs => hb fs (by rw [← e]; exact hfs)), e]
theorem fs_ne {w : fw_W} {a b : Nat} {x y : va_E} (ha : w a = some x) (hb : w b = some y) (h : x ≠ y) : a ≠ b := fun e => by
  subst e
  rw [ha] at hb
  exact h (Option.some.inj hb)
theorem fs_li {g : fw_G} {w u : fw_W} {q d cap : Nat} {ts : List Nat} (h : li_at g w q d cap ts) (hF : ∀ b e, w b = some e → (b = q ∨ b = d ∨ b ∈ ts) → u b = some e) : li_at g u q d cap ts := by
  obtain ⟨mc, h1, h2, h3, h4⟩ := h
  refine ⟨mc, hF _ _ h1 (Or.inl rfl), h2, fun y hy => ?_, ?_⟩
  · obtain ⟨fs, hfs⟩ := h3 y hy
    exact ⟨fs, hF _ _ hfs (Or.inr (Or.inr hy))⟩
  · rcases h4 with h4 | ⟨h4, h5, h6⟩
    · exact Or.inl h4
    · exact Or.inr ⟨hF _ _ h4 (Or.inr (Or.inl rfl)), h5, h6⟩
theorem fs_li2 {g : fw_G} {w u : fw_W} {q d cap : Nat} {ts : List Nat} (h : li_at g w q d cap ts) (hF : fs_F2 w u) : li_at g u q d cap ts := by
  obtain ⟨mc, h1, h2, h3, h4⟩ := h
  refine ⟨mc, ?_, h2, fun y hy => ?_, ?_⟩
  · rw [hF q (fun fs hfs => by rw [h1] at hfs; cases hfs)]; exact h1
  · obtain ⟨fs, hfs⟩ := h3 y hy
    refine ⟨fs, ?_⟩
    rw [hF y (fun fs2 hfs2 => by rw [hfs] at hfs2; cases hfs2)]; exact hfs
  · rcases h4 with h4 | ⟨h4, h5, h6⟩
    · exact Or.inl h4
    · refine Or.inr ⟨?_, h5, h6⟩
      rw [hF d (fun fs hfs => by rw [h4] at hfs; cases hfs)]; exact h4
theorem fs_en_of {w u : fw_W} {ts : List Nat} {es : List fs_E} (h : fs_en w ts es) (hF : ∀ b fs, w b = some (.inr (3, fs)) → u b = some (.inr (3, fs))) : fs_en u ts es :=
  ⟨h.1, fun i y E h1 h2 => hF _ _ (h.2 i y E h1 h2)⟩
theorem fs_F2_3 {w u : fw_W} (h : fs_F2 w u) (b : Nat) {e : va_E} (hb : w b = some e) (hne : ∀ fs, e ≠ .inr (2, fs)) : u b = some e := by
  rw [h b (fun fs hfs => by rw [hb] at hfs; exact hne fs (Option.some.inj hfs))]; exact hb
theorem fs_inj {g : fw_G} {w : fw_W} {nd : fs_D} {ad : Nat → Option Nat} {lq ld lc : Nat → Nat} {lt : Nat → List Nat} (h : fs_rN g w nd ad lq ld lc lt) {i j a : Nat} {N1 N2 : fs_N} (h1 : nd i = some N1) (h2 : nd j = some N2) (e1 : ad i = some a) (e2 : ad j = some a) : i = j := by
  obtain ⟨b1, a1, p1, p2, -⟩ := h.2.1 i N1 h1
  obtain ⟨b2, a2, q1, q2, -⟩ := h.2.1 j N2 h2
  rw [e1] at p1; cases p1
  rw [e2] at q1; cases q1
  rw [p2] at q2
  have hh := (List.cons.inj (Prod.mk.inj (Sum.inr.inj (Option.some.inj q2))).2).1
  have h3 := Value.int.inj hh
  exact (ni_eq (by omega) (by omega)).mp h3
theorem fs_rN_put {g : fw_G} {w : fw_W} {nd : fs_D} {ad : Nat → Option Nat} {lq ld lc : Nat → Nat} {lt : Nat → List Nat} (h : fs_rN g w nd ad lq ld lc lt) {k a : Nat} {N N2 : fs_N} (hk : nd k = some N) (ha : ad k = some a) (he : N2.2.2.2.2.2 = N.2.2.2.2.2) :
    fs_rN g (fw_up w a (.inr (2, fs_nc k N2 (lq k) (N2.2.1.bind ad)))) (va_up nd k (some N2)) ad lq ld lc lt := by
  obtain ⟨h0, h1, h2, h3⟩ := id h
  obtain ⟨hk1, a0, ha0, hc, hl, hE⟩ := h1 k N hk
  rw [ha] at ha0; cases ha0
  have hF : fs_F2 w (fw_up w a (.inr (2, fs_nc k N2 (lq k) (N2.2.1.bind ad)))) := fs_F2_up fs_F2_id hc
  have hnn : ∀ j, va_up nd k (some N2) j ≠ none → nd j ≠ none := fun j hj => by
    by_cases e : j = k
    · subst e; rw [hk]; intro q; cases q
    · rwa [vu_ne e] at hj
  refine ⟨fun j hj => ?_, fun j M hj => ?_, fun i j e1 e2 => h2 i j (hnn i e1) (hnn j e2), fun i j e1 e2 => h3 i j (hnn i e1) (hnn j e2)⟩
  · by_cases e : j = k
    · subst e; rw [vu_self] at hj; cases hj
    · rw [vu_ne e] at hj; exact h0 j hj
  · by_cases e : j = k
    · subst e
      rw [vu_self] at hj; cases hj
      exact ⟨hk1, a, ha, fw_up_self, fs_li2 hl hF, he ▸ fs_en_of hE (fun b fs hb => fs_F2_3 hF b hb (fun fs h => by cases h))⟩
    · rw [vu_ne e] at hj
      obtain ⟨hj1, b, hb, hcb, hlb, hEb⟩ := h1 j M hj
      refine ⟨hj1, b, hb, ?_, fs_li2 hlb hF, fs_en_of hEb (fun b fs hb => fs_F2_3 hF b hb (fun fs h => by cases h))⟩
      have hba : b ≠ a := fun q => e (fs_inj h hj hk hb (by rw [q]; exact ha))
      rw [fw_up_ne hba]
      exact hcb
theorem fs_cl {g : fw_G} {w : fw_W} {nd : fs_D} {ad : Nat → Option Nat} {lq ld lc : Nat → Nat} {lt : Nat → List Nat} (h : fs_rN g w nd ad lq ld lc lt) : ∀ (l : List Nat) (k a : Nat), fs_ch nd k l → ad k = some a → ∃ l2, nd_cl w a l2 ∧ l2.map some = l.map ad := by
  intro l
  induction l with
  | nil =>
    intro k a hc ha
    obtain ⟨N, h1, h2⟩ := hc
    obtain ⟨-, a0, ha0, hc, -⟩ := h.2.1 k N h1
    rw [ha] at ha0; cases ha0
    refine ⟨[], ⟨_, hc, ?_⟩, rfl⟩
    show some (va_rf (N.2.1.bind ad)) = _
    rw [h2]; rfl
  | cons p t ih =>
    intro k a hc ha
    obtain ⟨⟨N, h1, h2⟩, h3⟩ := hc
    obtain ⟨-, a0, ha0, hc, -⟩ := h.2.1 k N h1
    rw [ha] at ha0; cases ha0
    have hp : ∃ b, ad p = some b := by
      cases t with
      | nil => obtain ⟨M, e1, -⟩ := h3; obtain ⟨-, b, hb, -⟩ := h.2.1 p M e1; exact ⟨b, hb⟩
      | cons p2 t2 => obtain ⟨⟨M, e1, -⟩, -⟩ := h3; obtain ⟨-, b, hb, -⟩ := h.2.1 p M e1; exact ⟨b, hb⟩
    obtain ⟨b, hb⟩ := hp
    obtain ⟨l2, e1, e2⟩ := ih p b h3 hb
    refine ⟨b :: l2, ⟨⟨_, hc, ?_⟩, e1⟩, ?_⟩
    · show some (va_rf (N.2.1.bind ad)) = _
      rw [h2]; show some (va_rf (ad p)) = _
      rw [hb]; rfl
    · rw [List.map_cons, List.map_cons, e2, hb]
theorem fs_ch_some {nd : fs_D} : ∀ (l : List Nat) (k : Nat), fs_ch nd k l → ∀ j, j = k ∨ j ∈ l → ∃ N, nd j = some N := by
  intro l
  induction l with
  | nil =>
    intro k h j hj
    obtain ⟨N, h1, -⟩ := h
    rcases hj with rfl | hj
    · exact ⟨N, h1⟩
    · cases hj
  | cons p t ih =>
    intro k h j hj
    obtain ⟨⟨N, h1, -⟩, h3⟩ := h
    rcases hj with rfl | hj
    · exact ⟨N, h1⟩
    · exact ih p h3 j (List.mem_cons.mp hj)
theorem fs_un_at {g : fw_G} {w : fw_W} {nd : fs_D} {ad : Nat → Option Nat} {lq ld lc : Nat → Nat} {lt : Nat → List Nat} (h : fs_rN g w nd ad lq ld lc lt) {k t a b : Nat} {T : fs_N} (hc : fs_ch nd k (fs_ab nd k)) (ha : ad k = some a) (ht : nd t = some T) (hb : ad t = some b) {l2 : List Nat} (h2 : l2.map some = (fs_ab nd k).map ad) : decide (b = a ∨ b ∈ l2) = fs_un nd k t := by
  have key : (b = a ∨ b ∈ l2) ↔ (t = k ∨ t ∈ fs_ab nd k) := by
    constructor
    · rintro (rfl | hm)
      · obtain ⟨K, hK⟩ := fs_ch_some _ _ hc k (Or.inl rfl)
        exact Or.inl (fs_inj h ht hK hb ha)
      · have hm2 : some b ∈ (fs_ab nd k).map ad := by rw [← h2]; exact List.mem_map.mpr ⟨b, hm, rfl⟩
        obtain ⟨j, hj, hj2⟩ := List.mem_map.mp hm2
        obtain ⟨J, hJ⟩ := fs_ch_some _ _ hc j (Or.inr hj)
        rw [fs_inj h ht hJ hb hj2]
        exact Or.inr hj
    · rintro (rfl | hm)
      · rw [ha] at hb; cases hb; exact Or.inl rfl
      · have hm2 : some b ∈ l2.map some := by rw [h2]; exact List.mem_map.mpr ⟨t, hm, hb⟩
        obtain ⟨c, hc1, hc2⟩ := List.mem_map.mp hm2
        cases hc2
        exact Or.inr hc1
  unfold fs_un
  simp only [key]
theorem ix_of {x : Int32} (h : ¬ x < 0) : x.toNatClampNeg < 2 ^ 31 ∧ x = nI x.toNatClampNeg := by
  have h1 : (0 : Int) ≤ x.toInt := by
    have := mt Int32.lt_iff_toInt_lt.mpr h
    have e : (0 : Int32).toInt = 0 := rfl
    omega
  have h2 := Int32.toInt_lt x
  have h3 : x.toNatClampNeg = x.toInt.toNat := rfl
  refine ⟨by omega, ?_⟩
  apply Int32.toInt.inj
  show x.toInt = (Int32.ofNat x.toNatClampNeg).toInt
  rw [Int32.toInt_ofNat_of_lt (by omega)]
  omega
theorem ix_lt {x : Int32} {n : Nat} (hn : n < 2 ^ 31) (h : ¬ x < 0) (h2 : x < nI n) : ∃ k, k < n ∧ x = nI k := by
  obtain ⟨h3, h4⟩ := ix_of h
  rw [h4] at h2
  exact ⟨_, (ni_lt h3 hn).mp h2, h4⟩
theorem ix_nn {k : Nat} (hk : k < 2 ^ 31) : ¬ nI k < 0 := fun h => by
  have := (ni_lt hk (by omega : (0 : Nat) < 2 ^ 31)).mp h
  omega
theorem fr_dn {g : fw_G} {M : fw_M} {Post : fw_O → fw_W → Prop} {nc ns : Nat} {w : fw_W} {pc : Nat} {L : List (Nat × Value)} {st : List Value} (kk : w (fw_df g) = none → fw_R g M Post nc ns w pc L st) : fw_R g M Post nc ns w pc L st := by
  intro hg s m args below meth c H locs cells slots ls cx hB hH
  refine kk ?_ hg s m args below meth c H locs cells slots ls cx hB hH
  obtain ⟨ws, -, hD, hi⟩ := hH
  obtain ⟨-, -, -, -, -, -, -, -, -, ⟨cell, -, -, -, -, -, -, hA⟩, -⟩ := hg
  cases hw : w (fw_df g) with
  | none => rfl
  | some x =>
    obtain ⟨i, hi2⟩ := hi.at hw
    exact absurd (hD.2 i _ hi2) hA

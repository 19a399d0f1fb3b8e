abbrev fm_Q : Type := Int32 × Nat × Nat × Int32 × Int32 × Int32
abbrev fm_F : Type := Nat → Nat → Int32
abbrev fm_fs (ar : Nat → Nat) (Q : fm_Q) : List Value := [.int Q.1, .int (nI Q.2.1), .int (nI Q.2.2.1), .ref (ar 0), .ref (ar 1), .ref (ar 2), .ref (ar 3), .ref (ar 4), .ref (ar 5), .ref (ar 6), .ref (ar 7), .ref (ar 8), .ref (ar 9), .ref (ar 10), .ref (ar 11), .ref (ar 12), .ref (ar 13), .ref (ar 14), .ref (ar 15), .int Q.2.2.2.1, .int Q.2.2.2.2.1, .int Q.2.2.2.2.2]
def fm_f (g : fw_G) (w0 : fw_W) (ar : Nat → Nat) (F : fm_F) : Nat → fw_W
  | 0, b => w0 b
  | m + 1, b => if b = ar m then some (fm_ar g m (F m)) else fm_f g w0 ar F m b
def fm_W (g : fw_G) (w0 : fw_W) (mo : Nat) (ar : Nat → Nat) (Q : fm_Q) (F : fm_F) : fw_W := fun b => if b = mo then some (.inr (5, fm_fs ar Q)) else fm_f g w0 ar F 16 b
def fm_ad (mo : Nat) (ar : Nat → Nat) : Prop := (∀ j, j < 16 → ar j ≠ mo) ∧ ∀ i j, i < 16 → j < 16 → ar i = ar j → i = j
theorem fm_f_at {g : fw_G} {w0 : fw_W} {mo : Nat} {ar : Nat → Nat} {F : fm_F} (hA : fm_ad mo ar) : ∀ m j, j < m → m ≤ 16 → fm_f g w0 ar F m (ar j) = some (fm_ar g j (F j)) := by
  intro m
  induction m with
  | zero => intro j h; omega
  | succ m ih =>
    intro j h hm
    rw [fm_f]
    by_cases e : ar j = ar m
    · have := hA.2 j m (by omega) (by omega) e
      subst this
      rw [if_pos rfl]
    · rw [if_neg e]
      exact ih j (by have : j ≠ m := fun q => e (by rw [q]); omega) (by omega)
theorem fm_at {g : fw_G} {w0 : fw_W} {mo : Nat} {ar : Nat → Nat} {Q : fm_Q} {F : fm_F} (hA : fm_ad mo ar) {j : Nat} (hj : j < 16) : fm_W g w0 mo ar Q F (ar j) = some (fm_ar g j (F j)) := by
  unfold fm_W
  rw [if_neg (hA.1 j hj)]
  exact fm_f_at hA 16 j hj (Nat.le_refl _)
theorem fm_mo {g : fw_G} {w0 : fw_W} {mo : Nat} {ar : Nat → Nat} {Q : fm_Q} {F : fm_F} : fm_W g w0 mo ar Q F mo = some (.inr (5, fm_fs ar Q)) := by
  unfold fm_W
  rw [if_pos rfl]
theorem fm_f_out {g : fw_G} {w0 : fw_W} {ar : Nat → Nat} {F : fm_F} {b : Nat} : ∀ m, (∀ j, j < m → b ≠ ar j) → fm_f g w0 ar F m b = w0 b := by
  intro m
  induction m with
  | zero => intro _; rfl
  | succ m ih =>
    intro h
    rw [fm_f, if_neg (h m (by omega))]
    exact ih (fun j hj => h j (by omega))
theorem fm_out {g : fw_G} {w0 : fw_W} {mo : Nat} {ar : Nat → Nat} {Q : fm_Q} {F : fm_F} {b : Nat} (h : b ≠ mo) (h2 : ∀ j, j < 16 → b ≠ ar j) : fm_W g w0 mo ar Q F b = w0 b := by
  unfold fm_W
  rw [if_neg h]
  exact fm_f_out 16 h2
theorem fm_f_eq {g : fw_G} {w0 : fw_W} {ar : Nat → Nat} {F F2 : fm_F} {b j : Nat} (hb : b ≠ ar j) (hF : ∀ i, i ≠ j → F2 i = F i) : ∀ m, fm_f g w0 ar F2 m b = fm_f g w0 ar F m b := by
  intro m
  induction m with
  | zero => rfl
  | succ m ih =>
    rw [fm_f, fm_f]
    by_cases e : b = ar m
    · rw [if_pos e, if_pos e, hF m (fun q => hb (by rw [e, q]))]
    · rw [if_neg e, if_neg e, ih]
def fm_s (F : fm_F) (j : Nat) (f : Nat → Int32) : fm_F := fun i => if i = j then f else F i
def fm_e (F : fm_F) (j k : Nat) (x : Int32) : fm_F := fm_s F j (upd (F j) k x)
theorem fm_s_self {F : fm_F} {j : Nat} {f : Nat → Int32} : fm_s F j f j = f := by simp [fm_s]
theorem fm_s_ne {F : fm_F} {i j : Nat} {f : Nat → Int32} (h : i ≠ j) : fm_s F j f i = F i := by simp [fm_s, h]
theorem fm_e_ne {F : fm_F} {i j k : Nat} {x : Int32} (h : i ≠ j) : fm_e F j k x i = F i := fm_s_ne h
theorem fm_e_at {F : fm_F} {j k m : Nat} {x : Int32} : fm_e F j k x j m = if m = k then x else F j m := by unfold fm_e; rw [fm_s_self]; rfl
theorem fm_e_self {F : fm_F} {j k : Nat} {x : Int32} : fm_e F j k x j k = x := by rw [fm_e_at, if_pos rfl]
theorem fm_e_k {F : fm_F} {j k m : Nat} {x : Int32} (h : m ≠ k) : fm_e F j k x j m = F j m := by rw [fm_e_at, if_neg h]
theorem fm_e_s {F : fm_F} {j k : Nat} {f : Nat → Int32} {x : Int32} : fm_e (fm_s F j f) j k x = fm_s F j (upd f k x) := by
  funext i
  by_cases h : i = j
  · subst h; unfold fm_e; rw [fm_s_self, fm_s_self, fm_s_self]
  · rw [fm_e_ne h, fm_s_ne h, fm_s_ne h]
theorem fm_s_id {F : fm_F} {j : Nat} : fm_s F j (F j) = F := by
  funext i
  by_cases h : i = j
  · subst h; rw [fm_s_self]
  · rw [fm_s_ne h]
theorem fm_s_s {F : fm_F} {j : Nat} {f f2 : Nat → Int32} : fm_s (fm_s F j f) j f2 = fm_s F j f2 := by
  funext i
  by_cases h : i = j
  · subst h; rw [fm_s_self, fm_s_self]
  · rw [fm_s_ne h, fm_s_ne h, fm_s_ne h]
theorem fm_us {g : fw_G} {w0 : fw_W} {mo : Nat} {ar : Nat → Nat} {Q : fm_Q} {F : fm_F} (hA : fm_ad mo ar) {j : Nat} {f : Nat → Int32} (hj : j < 16) : fw_up (fm_W g w0 mo ar Q F) (ar j) (fm_ar g j f) = fm_W g w0 mo ar Q (fm_s F j f) := by
  funext b
  by_cases h1 : b = ar j
  · subst h1
    rw [fw_up_self, fm_at hA hj, fm_s_self]
  · rw [fw_up_ne h1]
    unfold fm_W
    by_cases h2 : b = mo
    · rw [if_pos h2, if_pos h2]
    · rw [if_neg h2, if_neg h2]
      exact (fm_f_eq h1 (fun i hi => fm_s_ne hi) 16).symm
theorem fm_uo {g : fw_G} {w0 : fw_W} {mo : Nat} {ar : Nat → Nat} {Q Q2 : fm_Q} {F : fm_F} : fw_up (fm_W g w0 mo ar Q F) mo (.inr (5, fm_fs ar Q2)) = fm_W g w0 mo ar Q2 F := by
  funext b
  by_cases h : b = mo
  · subst h
    rw [fw_up_self, fm_mo]
  · rw [fw_up_ne h]
    unfold fm_W
    rw [if_neg h, if_neg h]
theorem fm_n_lt : ∀ j, j < 16 → fm_n j < 2 ^ 31 := by decide +kernel
theorem ni_mul (a b : Nat) : nI a * nI b = nI (a * b) := (Int32.ofNat_mul a b).symm
theorem ni_m1 {a : Nat} (h : a < 2 ^ 31) : ¬ nI a = -1 := fun e => ix_nn h (by rw [e]; decide)
theorem fs_X_of_fm {g : fw_G} {w : fw_W} {mo : Nat} {ar : Nat → Nat} {Q : fm_Q} {F : fm_F} (h0 : w mo = some (.inr (5, fm_fs ar Q))) (h1 : ∀ j, j < 16 → w (ar j) = some (fm_ar g j (F j))) : w = fm_W g w mo ar Q F := by
  have key : ∀ b m, m ≤ 16 → fm_f g w ar F m b = w b := by
    intro b m
    induction m with
    | zero => intro _; rfl
    | succ m ih =>
      intro hm
      rw [fm_f]
      by_cases e : b = ar m
      · rw [if_pos e, e, h1 m (by omega)]
      · rw [if_neg e]; exact ih (by omega)
  funext b
  unfold fm_W
  by_cases h : b = mo
  · rw [if_pos h, h]; exact h0
  · rw [if_neg h]; exact (key b 16 (Nat.le_refl _)).symm
theorem fr_mzld {g : fw_G} {M : fw_M} {Post : fw_O → fw_W → Prop} {nc ns : Nat} {w0 : fw_W} {mo : Nat} {ar : Nat → Nat} {Q : fm_Q} {F : fm_F} {pc : Nat} {L : List (Nat × Value)} {rest : List Value} {j k : Nat} (hd : decode M.2.1 pc = .ok (.baload, 1)) (hA : fm_ad mo ar) (hj : j < 16) (ht : fm_t j = 0) (hk : k < fm_n j) (kk : fw_R g M Post nc ns (fm_W g w0 mo ar Q F) (pc + 1) L (.int (F j k) :: rest)) : fw_R g M Post nc ns (fm_W g w0 mo ar Q F) pc L (.int (nI k) :: .ref (ar j) :: rest) := by
  have h := fm_at (g := g) (w0 := w0) (Q := Q) (F := F) hA hj
  unfold fm_ar at h
  rw [ht] at h
  exact fr_zaldN hd h hk (fm_n_lt j hj) kk
theorem fr_mild {g : fw_G} {M : fw_M} {Post : fw_O → fw_W → Prop} {nc ns : Nat} {w0 : fw_W} {mo : Nat} {ar : Nat → Nat} {Q : fm_Q} {F : fm_F} {pc : Nat} {L : List (Nat × Value)} {rest : List Value} {j k : Nat} (hd : decode M.2.1 pc = .ok (.iaload, 1)) (hA : fm_ad mo ar) (hj : j < 16) (ht : fm_t j = 1) (hk : k < fm_n j) (kk : fw_R g M Post nc ns (fm_W g w0 mo ar Q F) (pc + 1) L (.int (F j k) :: rest)) : fw_R g M Post nc ns (fm_W g w0 mo ar Q F) pc L (.int (nI k) :: .ref (ar j) :: rest) := by
  have h := fm_at (g := g) (w0 := w0) (Q := Q) (F := F) hA hj
  unfold fm_ar at h
  rw [ht] at h
  exact fr_ialdN hd h hk (fm_n_lt j hj) kk
theorem fr_mzst {g : fw_G} {M : fw_M} {Post : fw_O → fw_W → Prop} {nc ns : Nat} {w0 : fw_W} {mo : Nat} {ar : Nat → Nat} {Q : fm_Q} {F : fm_F} {pc : Nat} {L : List (Nat × Value)} {rest : List Value} {j k : Nat} {x : Int32} (hd : decode M.2.1 pc = .ok (.bastore, 1)) (hA : fm_ad mo ar) (hj : j < 16) (ht : fm_t j = 0) (hk : k < fm_n j) (hx : x = 0 ∨ x = 1) (kk : fw_R g M Post nc ns (fm_W g w0 mo ar Q (fm_e F j k x)) (pc + 1) L rest) : fw_R g M Post nc ns (fm_W g w0 mo ar Q F) pc L (.int x :: .int (nI k) :: .ref (ar j) :: rest) := by
  have h := fm_at (g := g) (w0 := w0) (Q := Q) (F := F) hA hj
  have e := fm_us (g := g) (w0 := w0) (Q := Q) (F := F) hA (f := upd (F j) k x) hj
  unfold fm_ar at h e
  rw [ht] at h e
  refine fr_zastN hd h hk (fm_n_lt j hj) hx ?_
  rw [e]
  exact kk
theorem fr_mist {g : fw_G} {M : fw_M} {Post : fw_O → fw_W → Prop} {nc ns : Nat} {w0 : fw_W} {mo : Nat} {ar : Nat → Nat} {Q : fm_Q} {F : fm_F} {pc : Nat} {L : List (Nat × Value)} {rest : List Value} {j k : Nat} {x : Int32} (hd : decode M.2.1 pc = .ok (.iastore, 1)) (hA : fm_ad mo ar) (hj : j < 16) (ht : fm_t j = 1) (hk : k < fm_n j) (kk : fw_R g M Post nc ns (fm_W g w0 mo ar Q (fm_e F j k x)) (pc + 1) L rest) : fw_R g M Post nc ns (fm_W g w0 mo ar Q F) pc L (.int x :: .int (nI k) :: .ref (ar j) :: rest) := by
  have h := fm_at (g := g) (w0 := w0) (Q := Q) (F := F) hA hj
  have e := fm_us (g := g) (w0 := w0) (Q := Q) (F := F) hA (f := upd (F j) k x) hj
  unfold fm_ar at h e
  rw [ht] at h e
  refine fr_iastN hd h hk (fm_n_lt j hj) ?_
  rw [e]
  exact kk
theorem fr_mput {g : fw_G} {M : fw_M} {Post : fw_O → fw_W → Prop} {nc ns : Nat} {w0 : fw_W} {mo : Nat} {ar : Nat → Nat} {Q : fm_Q} {F : fm_F} {pc : Nat} {L : List (Nat × Value)} {rest : List Value} {idx k : Nat} {ty : FieldType} {v : Value} (Q2 : fm_Q) (hd : decode M.2.1 pc = .ok (.putfield idx, 3)) (hf : fw_fpt M idx 5 k ty) (hl0 : k < 22) (hn : narrow ty v = v) (hfit : fits ty v = true) (h2s : (fm_fs ar Q).set k v = fm_fs ar Q2) (kk : fw_R g M Post nc ns (fm_W g w0 mo ar Q2 F) (pc + 3) L rest) : fw_R g M Post nc ns (fm_W g w0 mo ar Q F) pc L (v :: .ref mo :: rest) := by
  refine fr_put hd hf fm_mo hl0 hn hfit h2s ?_
  rw [fm_uo]
  exact kk
theorem fr_imulN {g : fw_G} {M : fw_M} {Post : fw_O → fw_W → Prop} {nc ns : Nat} {w : fw_W} {pc : Nat} {L : List (Nat × Value)} {rest : List Value} {a b : Nat} (hd : decode M.2.1 pc = .ok (.imul, 1)) (kk : fw_R g M Post nc ns w (pc + 1) L (.int (nI (a * b)) :: rest)) : fw_R g M Post nc ns w pc L (.int (nI b) :: .int (nI a) :: rest) := by
  refine fr_imul hd ?_
  rw [ni_mul]; exact kk
theorem fr_iaddN {g : fw_G} {M : fw_M} {Post : fw_O → fw_W → Prop} {nc ns : Nat} {w : fw_W} {pc : Nat} {L : List (Nat × Value)} {rest : List Value} {a b : Nat} (hd : decode M.2.1 pc = .ok (.iadd, 1)) (kk : fw_R g M Post nc ns w (pc + 1) L (.int (nI (a + b)) :: rest)) : fw_R g M Post nc ns w pc L (.int (nI b) :: .int (nI a) :: rest) := by
  refine fr_iadd hd ?_
  rw [ni_add]; exact kk
theorem fr_isubN {g : fw_G} {M : fw_M} {Post : fw_O → fw_W → Prop} {nc ns : Nat} {w : fw_W} {pc : Nat} {L : List (Nat × Value)} {rest : List Value} {a b : Nat} (hd : decode M.2.1 pc = .ok (.isub, 1)) (hb : b ≤ a) (kk : fw_R g M Post nc ns w (pc + 1) L (.int (nI (a - b)) :: rest)) : fw_R g M Post nc ns w pc L (.int (nI b) :: .int (nI a) :: rest) := by
  refine fr_isub hd ?_
  rw [ni_sub hb]; exact kk
theorem fr_icmp_geN {g : fw_G} {M : fw_M} {Post : fw_O → fw_W → Prop} {nc ns : Nat} {w : fw_W} {pc : Nat} {L : List (Nat × Value)} {rest : List Value} {a b : Nat} {off : Int} {tgt : Nat} (hd : decode M.2.1 pc = .ok (.if_icmp .ge off, 3)) (ht : (pc : Int) + off = (tgt : Int)) (ha : a < 2 ^ 31) (hb : b < 2 ^ 31) (kt : b ≤ a → fw_R g M Post nc ns w tgt L rest) (kf : a < b → fw_R g M Post nc ns w (pc + 3) L rest) : fw_R g M Post nc ns w pc L (.int (nI b) :: .int (nI a) :: rest) :=
  fr_icmp_ge hd ht (fun q => kt ((ni_le hb ha).mp q)) (fun q => kf (Nat.lt_of_not_le (fun z => q ((ni_le hb ha).mpr z))))
theorem fr_icmp_ltN {g : fw_G} {M : fw_M} {Post : fw_O → fw_W → Prop} {nc ns : Nat} {w : fw_W} {pc : Nat} {L : List (Nat × Value)} {rest : List Value} {a b : Nat} {off : Int} {tgt : Nat} (hd : decode M.2.1 pc = .ok (.if_icmp .lt off, 3)) (ht : (pc : Int) + off = (tgt : Int)) (ha : a < 2 ^ 31) (hb : b < 2 ^ 31) (kt : a < b → fw_R g M Post nc ns w tgt L rest) (kf : b ≤ a → fw_R g M Post nc ns w (pc + 3) L rest) : fw_R g M Post nc ns w pc L (.int (nI b) :: .int (nI a) :: rest) :=
  fr_icmp_lt hd ht (fun q => kt ((ni_lt ha hb).mp q)) (fun q => kf (Nat.le_of_not_lt (fun z => q ((ni_lt ha hb).mpr z))))
theorem fr_icmp_gtN {g : fw_G} {M : fw_M} {Post : fw_O → fw_W → Prop} {nc ns : Nat} {w : fw_W} {pc : Nat} {L : List (Nat × Value)} {rest : List Value} {a b : Nat} {off : Int} {tgt : Nat} (hd : decode M.2.1 pc = .ok (.if_icmp .gt off, 3)) (ht : (pc : Int) + off = (tgt : Int)) (ha : a < 2 ^ 31) (hb : b < 2 ^ 31) (kt : b < a → fw_R g M Post nc ns w tgt L rest) (kf : a ≤ b → fw_R g M Post nc ns w (pc + 3) L rest) : fw_R g M Post nc ns w pc L (.int (nI b) :: .int (nI a) :: rest) :=
  fr_icmp_gt hd ht (fun q => kt ((ni_lt hb ha).mp q)) (fun q => kf (Nat.le_of_not_lt (fun z => q ((ni_lt hb ha).mpr z))))
theorem fr_icmp_leN {g : fw_G} {M : fw_M} {Post : fw_O → fw_W → Prop} {nc ns : Nat} {w : fw_W} {pc : Nat} {L : List (Nat × Value)} {rest : List Value} {a b : Nat} {off : Int} {tgt : Nat} (hd : decode M.2.1 pc = .ok (.if_icmp .le off, 3)) (ht : (pc : Int) + off = (tgt : Int)) (ha : a < 2 ^ 31) (hb : b < 2 ^ 31) (kt : a ≤ b → fw_R g M Post nc ns w tgt L rest) (kf : b < a → fw_R g M Post nc ns w (pc + 3) L rest) : fw_R g M Post nc ns w pc L (.int (nI b) :: .int (nI a) :: rest) :=
  fr_icmp_le hd ht (fun q => kt ((ni_le ha hb).mp q)) (fun q => kf (Nat.lt_of_not_le (fun z => q ((ni_le ha hb).mpr z))))
theorem fr_icmp_eqN {g : fw_G} {M : fw_M} {Post : fw_O → fw_W → Prop} {nc ns : Nat} {w : fw_W} {pc : Nat} {L : List (Nat × Value)} {rest : List Value} {a b : Nat} {off : Int} {tgt : Nat} (hd : decode M.2.1 pc = .ok (.if_icmp .eq off, 3)) (ht : (pc : Int) + off = (tgt : Int)) (ha : a < 2 ^ 31) (hb : b < 2 ^ 31) (kt : a = b → fw_R g M Post nc ns w tgt L rest) (kf : a ≠ b → fw_R g M Post nc ns w (pc + 3) L rest) : fw_R g M Post nc ns w pc L (.int (nI b) :: .int (nI a) :: rest) :=
  fr_icmp_eq hd ht (fun q => kt ((ni_eq ha hb).mp q)) (fun q => kf (fun z => q ((ni_eq ha hb).mpr z)))
theorem fr_icmp_neN {g : fw_G} {M : fw_M} {Post : fw_O → fw_W → Prop} {nc ns : Nat} {w : fw_W} {pc : Nat} {L : List (Nat × Value)} {rest : List Value} {a b : Nat} {off : Int} {tgt : Nat} (hd : decode M.2.1 pc = .ok (.if_icmp .ne off, 3)) (ht : (pc : Int) + off = (tgt : Int)) (ha : a < 2 ^ 31) (hb : b < 2 ^ 31) (kt : a ≠ b → fw_R g M Post nc ns w tgt L rest) (kf : a = b → fw_R g M Post nc ns w (pc + 3) L rest) : fw_R g M Post nc ns w pc L (.int (nI b) :: .int (nI a) :: rest) :=
  fr_icmp_ne hd ht (fun q => kt (fun z => q ((ni_eq ha hb).mpr z))) (fun q => kf ((ni_eq ha hb).mp q))

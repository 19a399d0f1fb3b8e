def fs_del {α : Type} (l : List α) (i : Nat) : List α := l.take i ++ l.drop (i + 1)
def fs_ins {α : Type} (l : List α) (i : Nat) (x : α) : List α := l.take i ++ x :: l.drop i
theorem fs_ins_len {α : Type} {l : List α} {i : Nat} {x : α} (h : i ≤ l.length) : (fs_ins l i x).length = l.length + 1 := by
  unfold fs_ins
  rw [List.length_append, List.length_cons, List.length_take, List.length_drop]
  omega
theorem fs_del_len {α : Type} {l : List α} {i : Nat} (h : i < l.length) : (fs_del l i).length = l.length - 1 := by
  unfold fs_del
  rw [List.length_append, List.length_take, List.length_drop]
  omega
theorem fs_ins_at {α : Type} {l : List α} {i : Nat} {x : α} (h : i ≤ l.length) (j : Nat) : (fs_ins l i x)[j]? = if j < i then l[j]? else if j = i then some x else l[j - 1]? := by
  unfold fs_ins
  have hl : (l.take i).length = i := by rw [List.length_take]; omega
  by_cases h1 : j < i
  · rw [if_pos h1, List.getElem?_append_left (by omega), List.getElem?_take_of_lt h1]
  · rw [if_neg h1, List.getElem?_append_right (by omega), hl]
    by_cases h2 : j = i
    · rw [if_pos h2, h2, Nat.sub_self]; rfl
    · rw [if_neg h2, show j - i = (j - i - 1) + 1 by omega, List.getElem?_cons_succ, List.getElem?_drop, show i + (j - i - 1) = j - 1 by omega]
theorem fs_del_at {α : Type} {l : List α} {i : Nat} (h : i < l.length) (j : Nat) : (fs_del l i)[j]? = if j < i then l[j]? else l[j + 1]? := by
  unfold fs_del
  have hl : (l.take i).length = i := by rw [List.length_take]; omega
  by_cases h1 : j < i
  · rw [if_pos h1, List.getElem?_append_left (by omega), List.getElem?_take_of_lt h1]
  · rw [if_neg h1, List.getElem?_append_right (by omega), hl, List.getElem?_drop, show i + 1 + (j - i) = j + 1 by omega]
theorem fs_del_mem {α : Type} {l : List α} {i : Nat} {y : α} (h : y ∈ fs_del l i) : y ∈ l := by
  unfold fs_del at h
  rcases List.mem_append.mp h with h | h
  · exact List.mem_of_mem_take h
  · exact List.mem_of_mem_drop h
theorem fs_ins_mem {α : Type} {l : List α} {i : Nat} {x y : α} (h : y ∈ fs_ins l i x) : y = x ∨ y ∈ l := by
  unfold fs_ins at h
  rcases List.mem_append.mp h with h | h
  · exact Or.inr (List.mem_of_mem_take h)
  · rcases List.mem_cons.mp h with h | h
    · exact Or.inl h
    · exact Or.inr (List.mem_of_mem_drop h)
theorem fs_en_del {w : fw_W} {ts : List Nat} {es : List fs_E} (h : fs_en w ts es) {i : Nat} (hi : i < ts.length) : fs_en w (fs_del ts i) (fs_del es i) := by
  have hl := h.1
  refine ⟨by rw [fs_del_len hi, fs_del_len (by omega)]; omega, fun j y E h1 h2 => ?_⟩
  rw [fs_del_at hi] at h1
  rw [fs_del_at (by omega)] at h2
  split at h1 <;> rename_i hj
  · rw [if_pos hj] at h2; exact h.2 j y E h1 h2
  · rw [if_neg hj] at h2; exact h.2 (j + 1) y E h1 h2
theorem fs_en_ins {w : fw_W} {ts : List Nat} {es : List fs_E} (h : fs_en w ts es) {i e : Nat} {E0 : fs_E} (hi : i ≤ ts.length) (he : w e = some (.inr (3, fs_ec E0))) : fs_en w (fs_ins ts i e) (fs_ins es i E0) := by
  have hl := h.1
  refine ⟨by rw [fs_ins_len hi, fs_ins_len (by omega)]; omega, fun j y E h1 h2 => ?_⟩
  rw [fs_ins_at hi] at h1
  rw [fs_ins_at (by omega)] at h2
  split at h1 <;> rename_i hj
  · rw [if_pos hj] at h2; exact h.2 j y E h1 h2
  · rw [if_neg hj] at h2
    split at h1 <;> rename_i hj2
    · rw [if_pos hj2] at h2; cases h1; cases h2; exact he
    · rw [if_neg hj2] at h2; exact h.2 (j - 1) y E h1 h2
theorem fs_lk {g : fw_G} {w u : fw_W} {nd : fs_D} {ad : Nat → Option Nat} {lq ld lc : Nat → Nat} {lt : Nat → List Nat} (h : fs_rN g w nd ad lq ld lc lt) {k d2 : Nat} {N : fs_N} (hk : nd k = some N) (hdf : w (fw_df g) = none) (hfr : ∀ b, b ≠ lq k → b ≠ d2 → u b = w b) (hd2 : (d2 = ld k ∧ w (ld k) ≠ none) ∨ w d2 = none) (b : Nat) (e : va_E) (hb : w b = some e) (h1 : b ≠ lq k) (h2 : ∀ c n f, e ≠ .inl (c, n, .inr (.inr (.inr (.inr f))))) : u b = some e := by
  rw [hfr b h1 ?_]
  · exact hb
  · rintro rfl
    rcases hd2 with ⟨e1, e2⟩ | e1
    · obtain ⟨-, a, -, -, ⟨mc, -, -, -, hl4⟩, -⟩ := h.2.1 k N hk
      rcases hl4 with ⟨e3, -⟩ | ⟨e3, -⟩
      · rw [e3] at e2; exact e2 hdf
      · rw [← e1, hb] at e3
        exact h2 _ _ _ (Option.some.inj e3)
    · rw [e1] at hb; cases hb
theorem fs_rN_list {g : fw_G} {w u : fw_W} {nd : fs_D} {ad : Nat → Option Nat} {lq ld lc : Nat → Nat} {lt : Nat → List Nat} (h : fs_rN g w nd ad lq ld lc lt) {k d2 c2 : Nat} {N : fs_N} {ts2 : List Nat} {es2 : List fs_E} (hk : nd k = some N) (hdf : w (fw_df g) = none) (hfr : ∀ b, b ≠ lq k → b ≠ d2 → u b = w b) (hd2 : (d2 = ld k ∧ w (ld k) ≠ none) ∨ w d2 = none) (hli : li_at g u (lq k) d2 c2 ts2) (hen : fs_en u ts2 es2) :
    fs_rN g u (va_up nd k (some (N.1, N.2.1, N.2.2.1, N.2.2.2.1, N.2.2.2.2.1, es2))) ad lq (va_up ld k d2) (va_up lc k c2) (va_up lt k ts2) := by
  have hke := fs_lk h hk hdf hfr hd2
  obtain ⟨h0, h1, h2, h3⟩ := id h
  obtain ⟨hk1, a, ha, hc, hl, hE⟩ := h1 k N hk
  obtain ⟨mc, hq1, -, -, -⟩ := id hl
  have hnn : ∀ j, va_up nd k (some (N.1, N.2.1, N.2.2.1, N.2.2.2.1, N.2.2.2.2.1, es2)) j ≠ none → nd j ≠ none := fun j hj => by
    by_cases e : j = k
    · subst e; rw [hk]; intro q; cases q
    · rwa [vu_ne e] at hj
  have hne4 : ∀ b ci fs, ci ≠ 4 → w b = some (.inr (ci, fs)) → b ≠ lq k := fun b ci fs hci hb => fs_ne hb hq1 (fun z => by cases z; exact hci rfl)
  have hdn : ∀ j, nd j ≠ none → ld j ≠ fw_df g → w (ld j) ≠ none := fun j hj hd z => by
    cases hj2 : nd j with
    | none => exact hj hj2
    | some M =>
      obtain ⟨-, -, -, -, ⟨mc2, -, -, -, hl4⟩, -⟩ := h1 j M hj2
      rcases hl4 with ⟨e, -⟩ | ⟨e, -⟩
      · exact hd e
      · rw [e] at z; cases z
  refine ⟨fun j hj => ?_, fun j M hj => ?_, fun i j e1 e2 => h2 i j (hnn i e1) (hnn j e2), fun i j e1 e2 e3 e4 => ?_⟩
  · by_cases e : j = k
    · subst e; rw [vu_self] at hj; cases hj
    · rw [vu_ne e] at hj; exact h0 j hj
  · by_cases e : j = k
    · subst e
      rw [vu_self] at hj; cases hj
      rw [vu_self, vu_self, vu_self]
      exact ⟨hk1, a, ha, hke a _ hc (hne4 a 2 _ (by omega) hc) (fun c n f z => by cases z), hli, hen⟩
    · rw [vu_ne e] at hj
      obtain ⟨hj1, b, hb, hcb, hlb, hEb⟩ := h1 j M hj
      rw [vu_ne e, vu_ne e, vu_ne e]
      refine ⟨hj1, b, hb, hke b _ hcb (hne4 b 2 _ (by omega) hcb) (fun c n f z => by cases z), fs_li hlb (fun x ex hx hor => ?_), fs_en_of hEb (fun x fs hx => hke x _ hx (hne4 x 3 _ (by omega) hx) (fun c n f z => by cases z))⟩
      obtain ⟨mc2, hq2, -, hy3, hl4⟩ := id hlb
      rcases hor with rfl | rfl | hm
      · rw [hq2] at hx; cases hx
        exact hke _ _ hq2 (fun z => e (h2 j k (by rw [hj]; intro q; cases q) (by rw [hk]; intro q; cases q) z)) (fun c n f z => by cases z)
      · have hndf : ld j ≠ fw_df g := fun z => by rw [z, hdf] at hx; cases hx
        rcases hl4 with ⟨e9, -⟩ | ⟨e9, -⟩
        · exact absurd e9 hndf
        · rw [e9] at hx; cases hx
          rw [hfr (ld j) (fs_ne e9 hq1 (fun z => by cases z)) ?_]
          · exact e9
          · intro z
            rcases hd2 with ⟨q1, q2⟩ | q1
            · exact e (h3 j k (by rw [hj]; intro q; cases q) (by rw [hk]; intro q; cases q) (z.trans q1) hndf)
            · rw [← z, e9] at q1; cases q1
      · obtain ⟨fs, hfs⟩ := hy3 x hm
        rw [hfs] at hx; cases hx
        exact hke x _ hfs (hne4 x 3 _ (by omega) hfs) (fun c n f z => by cases z)
  · have key : ∀ x, x ≠ k → nd x ≠ none → ld x ≠ fw_df g → ld x ≠ d2 := by
      intro x hx hxn hxd z
      rcases hd2 with ⟨q1, q2⟩ | q1
      · exact hx (h3 x k hxn (by rw [hk]; intro q; cases q) (z.trans q1) hxd)
      · exact hdn x hxn hxd (z ▸ q1)
    by_cases ei : i = k
    · by_cases ej : j = k
      · rw [ei, ej]
      · rw [ei, vu_self, vu_ne ej] at e3
        rw [ei, vu_self] at e4
        exact absurd e3.symm (key j ej (hnn j e2) (by rw [← e3]; exact e4))
    · by_cases ej : j = k
      · rw [ej, vu_self, vu_ne ei] at e3
        rw [vu_ne ei] at e4
        exact absurd e3 (key i ei (hnn i e1) e4)
      · rw [vu_ne ei, vu_ne ej] at e3
        rw [vu_ne ei] at e4
        exact h3 i j (hnn i e1) (hnn j e2) e3 e4
theorem fs_Fr_list {A : fs_A} {w u v : fw_W} {q : Nat} {fq : List Value} (hq : w q = some (.inr (4, fq))) (hke : ∀ b e, w b = some e → b ≠ q → (∀ c n f, e ≠ .inl (c, n, .inr (.inr (.inr (.inr f))))) → u b = some e) (hF : fs_F2 u v) : fs_Fr A w v := by
  intro b e hb
  by_cases h1 : ∃ ci fs, e = .inr (ci, fs) ∧ ci ≤ 4
  · exact Or.inl (Or.inl h1)
  · by_cases h2 : ∃ c n f, e = .inl (c, n, .inr (.inr (.inr (.inr f))))
    · exact Or.inl (Or.inr (Or.inl h2))
    · refine Or.inr (fs_F2_3 hF b (hke b e hb (fs_ne hb hq (fun z => h1 ⟨4, fq, z, by omega⟩)) (fun c n f z => h2 ⟨c, n, f, z⟩)) (fun fs z => h1 ⟨2, fs, z, by omega⟩))
theorem p_FR_dropEntry_ok {g : fw_G} {w : fw_W} {o gr a1 a2 a3 a4 na us n : Nat} {hu hg : Nat → Nat → Bool} {nd : fs_D} (hX : fs_X g (o, gr, a1, a2, a3, a4, na) (us, n, hu, hg, nd) w) {k : Nat} {N : fs_N} (hk : nd k = some N) {i : Nat} (hi : i < N.2.2.2.2.2.length) : fw_R g m_FR_dropEntry (fs_P g (o, gr, a1, a2, a3, a4, na) w (.inl (some (.int (nI (N.2.2.2.2.2.length - 1))))) (us, n, hu, hg, fs_mk (va_up nd k (some (N.1, N.2.1, N.2.2.1, N.2.2.2.1, N.2.2.2.2.1, (fs_del N.2.2.2.2.2 i)))) k 150)) 2 12 w 0 [(0, .ref o), (1, .int (nI k)), (2, .int (nI i))] [] := by
  obtain ⟨f1, f2, f3, f4, ad, lq, ld, lc, lt, hok, h0, hG, hR, hN, hr⟩ := fs_X_el hX
  have hb : n < 2 ^ 31 := by have := hok.2.2.1; omega
  have hb2 : us < 2 ^ 31 := by have := hok.2.1; omega
  obtain ⟨hk150, a, ha, hc, hl, hE⟩ := hr.2.1 k N hk
  obtain ⟨-, hk0, how, hlen, hes, hch, hdep⟩ := hok.2.2.2.2 k N hk
  refine fr_dn (fun hdf => ?_)
  obtain ⟨mc, hl1, -⟩ := id hl
  have eL := hE.1
  obtain ⟨y, hy⟩ : ∃ y, (lt k)[i]? = some y := ⟨_, List.getElem?_eq_getElem (by omega)⟩
  refine fr_aload_n (pc := 0) d_FR_dropEntry_0 rfl rfl ?_
  refine fr_iload_n (pc := 1) d_FR_dropEntry_1 rfl rfl ?_
  refine fr_callv_p (pc := 2) (nc := 1) (ns := 6) (N := m_FR_nodeAt) (rest := []) (as := [.int (nI k)]) d_FR_dropEntry_2 vc_FR_63 ⟨by decide, by decide, Nat.le_of_ble_eq_true rfl⟩ (Nat.le_of_ble_eq_true rfl) h0 (c_FR_nodeAt h0 hN hk150 ha) rfl ?_
  refine fr_astore_n (pc := 5) (L2 := [(0, .ref o), (1, .int (nI k)), (2, .int (nI i)), (3, .ref a)]) d_FR_dropEntry_5 rfl (by decide) rfl ?_
  refine fr_iload_n (pc := 6) d_FR_dropEntry_6 rfl rfl ?_
  refine fr_if_lt (pc := 7) (tgt := 21) d_FR_dropEntry_7 (by decide) (fun q => ?_) (fun q => ?_)
  · exact absurd q (ix_nn (by omega))
  · refine fr_iload_n (pc := 10) d_FR_dropEntry_10 rfl rfl ?_
    refine fr_aload_n (pc := 11) d_FR_dropEntry_11 rfl rfl ?_
    refine fr_get (pc := 12) (v := .ref (lq k)) d_FR_dropEntry_12 fg_FR_119 hc rfl ?_
    refine fr_callv_p (pc := 15) (nc := 1) (ns := 6) (N := m_AL_size) (rest := [.int (nI i)]) (as := []) d_FR_dropEntry_15 vc_FR_123 ⟨by decide, by decide, Nat.le_of_ble_eq_true rfl⟩ (Nat.le_of_ble_eq_true rfl) hl1 (c_AL_size hl) rfl ?_
    refine fr_icmp_lt (pc := 18) (tgt := 31) d_FR_dropEntry_18 (by decide) (fun q2 => ?_) (fun q2 => ?_)
    · refine fr_aload_n (pc := 31) d_FR_dropEntry_31 rfl rfl ?_
      refine fr_get (pc := 32) (v := .ref (lq k)) d_FR_dropEntry_32 fg_FR_119 hc rfl ?_
      refine fr_iload_n (pc := 35) d_FR_dropEntry_35 rfl rfl ?_
      refine fr_callV (pc := 36) (nc := 1) (ns := 6) (N := m_AL_remove) (rest := []) (as := [.int (nI i)]) d_FR_dropEntry_36 vc_FR_149 ⟨by decide, by decide, Nat.le_of_ble_eq_true rfl⟩ (Nat.le_of_ble_eq_true rfl) hl1 (c_AL_rem hl hy) rfl (fun v8 u h8 => ?_) (fun C u h8 => by obtain ⟨h1, -⟩ := h8; cases h1)
      obtain ⟨h1, hli, hfr⟩ := h8
      cases h1
      have hd2 : (ld k = ld k ∧ w (ld k) ≠ none) ∨ w (ld k) = none := by
        by_cases z : w (ld k) = none
        · exact Or.inr z
        · exact Or.inl ⟨rfl, z⟩
      have hke := fs_lk hr hk hdf hfr hd2
      have h0u := hke _ _ h0 (fs_ne h0 hl1 (fun z => by cases z)) (fun c n f z => by cases z)
      have hnq : na ≠ lq k := fs_ne hN hl1 (fun z => by cases z)
      have hnd : na ≠ ld k := fun z => by
        obtain ⟨mc2, -, -, -, hl4⟩ := id hl
        rcases hl4 with ⟨e9, -⟩ | ⟨e9, e10, e11⟩
        · rw [z, e9, hdf] at hN; cases hN
        · rw [← z, hN] at e9; have := congrArg (fun q => q.2.1) (Sum.inl.inj (Option.some.inj e9)); simp only at this; omega
      have hNu : u na = some (fs_no g ad) := (hfr na hnq hnd).trans hN
      have hGu := fs_gr_fr hG (fun b e hb h1 h2 => hke b e hb (fs_ne hb hl1 (fun z => by have := h1 4 _ z; omega)) h2)
      have hr1 := fs_rN_list hr hk hdf hfr hd2 hli (fs_en_del (fs_en_of hE (fun b fs hb => hke b _ hb (fs_ne hb hl1 (fun z => by cases z)) (fun c n f z => by cases z))) (by omega))
      have hok1 : fs_ok us n (va_up nd k (some (N.1, N.2.1, N.2.2.1, N.2.2.2.1, N.2.2.2.2.1, (fs_del N.2.2.2.2.2 i)))) := fs_ok_up hok (N2 := (N.1, N.2.1, N.2.2.1, N.2.2.2.1, N.2.2.2.2.1, (fs_del N.2.2.2.2.2 i))) hk rfl how (by show (fs_del N.2.2.2.2.2 i).length ≤ 12; rw [fs_del_len hi]; omega) (fun E hE2 => hes E (fs_del_mem hE2))
      refine fr_pop (pc := 39) d_FR_dropEntry_39 rfl ?_
      refine fr_aload_n (pc := 40) d_FR_dropEntry_40 rfl rfl ?_
      refine fr_aload_n (pc := 41) d_FR_dropEntry_41 rfl rfl ?_
      refine fr_callV (pc := 42) (nc := 1) (ns := 6) (N := m_FR_markStaleBelow) (rest := []) (as := [.ref a]) d_FR_dropEntry_42 vc_FR_107 ⟨by decide, by decide, Nat.le_of_ble_eq_true rfl⟩ (Nat.le_of_ble_eq_true rfl) h0u (c_FR_mark h0u hNu (fs_ok_ch hok1) vu_self ha hr1) rfl (fun v9 u9 h9 => ?_) (fun C u9 h9 => by obtain ⟨h1, -⟩ := h9; cases h1)
      obtain ⟨h1, hr2, hF2⟩ := h9
      cases h1
      have hm : fs_mk (va_up nd k (some (N.1, N.2.1, N.2.2.1, N.2.2.2.1, N.2.2.2.2.1, (fs_del N.2.2.2.2.2 i)))) k 150 k = some (N.1, N.2.1, N.2.2.1, N.2.2.2.1, N.2.2.2.2.1, (fs_del N.2.2.2.2.2 i)) := by simp [fs_mk, vu_self]
      obtain ⟨-, a9, ha9, hc9, hl9, hE9⟩ := hr2.2.1 k _ hm
      rw [ha] at ha9; cases ha9
      obtain ⟨mc9, hl91, -⟩ := id hl9
      refine fr_aload_n (pc := 45) d_FR_dropEntry_45 rfl rfl ?_
      refine fr_get (pc := 46) (v := .ref (lq k)) d_FR_dropEntry_46 fg_FR_119 hc9 rfl ?_
      refine fr_callv_p (pc := 49) (nc := 1) (ns := 6) (N := m_AL_size) (rest := []) (as := []) d_FR_dropEntry_49 vc_FR_123 ⟨by decide, by decide, Nat.le_of_ble_eq_true rfl⟩ (Nat.le_of_ble_eq_true rfl) hl91 (c_AL_size hl9) rfl ?_
      refine fr_st (st2 := [.int (nI (N.2.2.2.2.2.length - 1))]) (by rw [hE9.1]; show [Value.int (nI (fs_del N.2.2.2.2.2 i).length)] = _; rw [fs_del_len hi]) ?_
      exact fr_iret rfl d_FR_dropEntry_52 ⟨rfl, fs_X_F2 (fs_ok_mk hok1) h0u hGu hR hNu hF2 hr2, fs_Fr_list hl1 hke hF2⟩
    · exact absurd ((ni_lt (by omega) (by omega)).mpr (by omega)) q2
theorem p_FR_dropEntry_n1 {g : fw_G} {w : fw_W} {o gr a1 a2 a3 a4 na us n : Nat} {hu hg : Nat → Nat → Bool} {nd : fs_D} (hX : fs_X g (o, gr, a1, a2, a3, a4, na) (us, n, hu, hg, nd) w) {x y : Int32} (hx : ∀ k, x = nI k → nd k = none) : fw_R g m_FR_dropEntry (fs_P g (o, gr, a1, a2, a3, a4, na) w (.inr "java/util/NoSuchElementException") (us, n, hu, hg, nd)) 2 12 w 0 [(0, .ref o), (1, .int x), (2, .int y)] [] := by
  obtain ⟨f1, f2, f3, f4, ad, lq, ld, lc, lt, hok, h0, hG, hR, hN, hr⟩ := fs_X_el hX
  refine fr_aload_n (pc := 0) d_FR_dropEntry_0 rfl rfl ?_
  refine fr_iload_n (pc := 1) d_FR_dropEntry_1 rfl rfl ?_
  refine fr_callv_x (pc := 2) (nc := 1) (ns := 6) (N := m_FR_nodeAt) (rest := []) (as := [.int x]) d_FR_dropEntry_2 vc_FR_63 ⟨by decide, by decide, Nat.le_of_ble_eq_true rfl⟩ (Nat.le_of_ble_eq_true rfl) h0 (x_FR_nodeAt h0 hN (fun k _ e => hr.1 k (hx k e))) rfl ?_
  exact fx_out (by decide) ⟨rfl, hX, fs_Fr_id⟩
theorem p_FR_dropEntry_n2 {g : fw_G} {w : fw_W} {o gr a1 a2 a3 a4 na us n : Nat} {hu hg : Nat → Nat → Bool} {nd : fs_D} (hX : fs_X g (o, gr, a1, a2, a3, a4, na) (us, n, hu, hg, nd) w) {k : Nat} {N : fs_N} (hk : nd k = some N) {y : Int32} (hy : fs_no2 y N.2.2.2.2.2.length) : fw_R g m_FR_dropEntry (fs_P g (o, gr, a1, a2, a3, a4, na) w (.inr "java/util/NoSuchElementException") (us, n, hu, hg, nd)) 2 12 w 0 [(0, .ref o), (1, .int (nI k)), (2, .int y)] [] := by
  obtain ⟨f1, f2, f3, f4, ad, lq, ld, lc, lt, hok, h0, hG, hR, hN, hr⟩ := fs_X_el hX
  obtain ⟨hk150, a, ha, hc, hl, hE⟩ := hr.2.1 k N hk
  obtain ⟨-, hk0, how, hlen, hes, hch, hdep⟩ := hok.2.2.2.2 k N hk
  obtain ⟨mc, hl1, -⟩ := id hl
  have eL := hE.1
  refine fr_aload_n (pc := 0) d_FR_dropEntry_0 rfl rfl ?_
  refine fr_iload_n (pc := 1) d_FR_dropEntry_1 rfl rfl ?_
  refine fr_callv_p (pc := 2) (nc := 1) (ns := 6) (N := m_FR_nodeAt) (rest := []) (as := [.int (nI k)]) d_FR_dropEntry_2 vc_FR_63 ⟨by decide, by decide, Nat.le_of_ble_eq_true rfl⟩ (Nat.le_of_ble_eq_true rfl) h0 (c_FR_nodeAt h0 hN hk150 ha) rfl ?_
  refine fr_astore_n (pc := 5) (L2 := [(0, .ref o), (1, .int (nI k)), (2, .int y), (3, .ref a)]) d_FR_dropEntry_5 rfl (by decide) rfl ?_
  refine fr_iload_n (pc := 6) d_FR_dropEntry_6 rfl rfl ?_
  refine fr_if_lt (pc := 7) (tgt := 21) d_FR_dropEntry_7 (by decide) (fun q => ?_) (fun q => ?_)
  · exact fr_throwX (pc := 21) (nc := 0) (ns := 0) th_FR_146 d_FR_dropEntry_21 d_FR_dropEntry_24 d_FR_dropEntry_25 d_FR_dropEntry_27 d_FR_dropEntry_30 (by decide) (by decide) (by decide) ⟨rfl, hX, fs_Fr_id⟩
  · refine fr_iload_n (pc := 10) d_FR_dropEntry_10 rfl rfl ?_
    refine fr_aload_n (pc := 11) d_FR_dropEntry_11 rfl rfl ?_
    refine fr_get (pc := 12) (v := .ref (lq k)) d_FR_dropEntry_12 fg_FR_119 hc rfl ?_
    refine fr_callv_p (pc := 15) (nc := 1) (ns := 6) (N := m_AL_size) (rest := [.int y]) (as := []) d_FR_dropEntry_15 vc_FR_123 ⟨by decide, by decide, Nat.le_of_ble_eq_true rfl⟩ (Nat.le_of_ble_eq_true rfl) hl1 (c_AL_size hl) rfl ?_
    refine fr_icmp_lt (pc := 18) (tgt := 31) d_FR_dropEntry_18 (by decide) (fun q2 => ?_) (fun q2 => ?_)
    · obtain ⟨j, hj, e⟩ := ix_lt (by omega) q q2
      exact absurd e (hy j (by omega))
    · exact fr_throwX (pc := 21) (nc := 0) (ns := 0) th_FR_146 d_FR_dropEntry_21 d_FR_dropEntry_24 d_FR_dropEntry_25 d_FR_dropEntry_27 d_FR_dropEntry_30 (by decide) (by decide) (by decide) ⟨rfl, hX, fs_Fr_id⟩

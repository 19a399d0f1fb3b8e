def fs_frn (nd : fs_D) : Option Nat := fs_fr (fun k => (nd k).map (fun _ => 0)) 150 0
theorem fs_fr_eq {f1 f2 : Nat → Option Nat} (h : ∀ k, f1 k = none ↔ f2 k = none) : ∀ m k, fs_fr f1 m k = fs_fr f2 m k := by
  intro m
  induction m with
  | zero => intro k; rfl
  | succ m ih =>
    intro k
    rw [fs_fr, fs_fr, ih]
    by_cases hk : f1 k = none
    · rw [if_pos hk, if_pos ((h k).mp hk)]
    · rw [if_neg hk, if_neg (mt (h k).mpr hk)]
theorem fs_fr_at {f : Nat → Option Nat} : ∀ m k x, fs_fr f m k = some x → f x = none ∧ x < k + m := by
  intro m
  induction m with
  | zero => intro k x h; cases h
  | succ m ih =>
    intro k x h
    rw [fs_fr] at h
    by_cases hk : f k = none
    · rw [if_pos hk] at h; cases h; exact ⟨hk, by omega⟩
    · rw [if_neg hk] at h
      obtain ⟨h1, h2⟩ := ih (k + 1) x h
      exact ⟨h1, by omega⟩
theorem fs_frn_ad {g : fw_G} {w : fw_W} {nd : fs_D} {ad : Nat → Option Nat} {lq ld lc : Nat → Nat} {lt : Nat → List Nat} (h : fs_rN g w nd ad lq ld lc lt) : fs_fr ad 150 0 = fs_frn nd := by
  refine fs_fr_eq (fun k => ?_) 150 0
  cases hk : nd k with
  | none => simp [h.1 k hk]
  | some N =>
    obtain ⟨-, a, ha, -⟩ := h.2.1 k N hk
    rw [ha]; simp
theorem fs_frn_at {nd : fs_D} {f : Nat} (h : fs_frn nd = some f) : nd f = none ∧ f < 150 := by
  obtain ⟨h1, h2⟩ := fs_fr_at 150 0 f h
  refine ⟨?_, by omega⟩
  cases hf : nd f with
  | none => rfl
  | some N => simp [hf] at h1
theorem fs_ok_new {us n : Nat} {nd : fs_D} (h : fs_ok us n nd) {f k u : Nat} {b : Bool} {N : fs_N} (hf : nd f = none) (hf1 : f < 150) (hk : nd k = some N) (hu : u < us) (hd : (fs_ab nd k).length < 20) : fs_ok us n (va_up nd f (some (b, some k, u, false, true, []))) := by
  obtain ⟨q1, q2, q3, ⟨N0, q4, q6⟩, q5⟩ := id h
  have hoff : ∀ j l, fs_ch nd j l → fs_ch (va_up nd f (some (b, some k, u, false, true, []))) j l := fun j l hc => fs_ch_off _ _ (fun x hx => vu_ne (fun e => by
    subst e
    obtain ⟨X, hX⟩ := fs_ch_some _ _ hc x hx
    rw [hf] at hX; cases hX)) hc
  refine ⟨q1, q2, q3, ⟨N0, by rw [vu_ne (fun e => by rw [← e, q4] at hf; cases hf)]; exact q4, q6⟩, fun j M hj => ?_⟩
  by_cases e : j = f
  · subst e
    rw [vu_self] at hj; cases hj
    have hc : fs_ch (va_up nd j (some (b, some k, u, false, true, []))) j (k :: fs_ab nd k) := ⟨⟨_, vu_self, rfl⟩, hoff k _ (q5 k N hk).2.2.2.2.2.1⟩
    have hl : (k :: fs_ab nd k).length ≤ 20 := by simp only [List.length_cons]; omega
    refine ⟨hf1, fun z => (by cases z), hu, Nat.zero_le _, fun E hE => (by cases hE), ?_, ?_⟩
    · rw [fs_ab_of hc hl]; exact hc
    · rw [fs_ab_of hc hl]; exact hl
  · rw [vu_ne e] at hj
    obtain ⟨e1, e2, e3, e4, e5, e6, e7⟩ := q5 j M hj
    have hc := hoff j _ e6
    refine ⟨e1, e2, e3, e4, e5, ?_, ?_⟩
    · rw [fs_ab_of hc e7]; exact hc
    · rw [fs_ab_of hc e7]; exact e7
theorem fs_rN_new {g : fw_G} {w v : fw_W} {nd : fs_D} {ad : Nat → Option Nat} {lq ld lc : Nat → Nat} {lt : Nat → List Nat} (h : fs_rN g w nd ad lq ld lc lt) (hch : ∀ k N, nd k = some N → fs_ch nd k (fs_ab nd k)) {f k u a q q2 : Nat} {b : Bool} {N : fs_N} (hf : nd f = none) (hf1 : f < 150) (hk : nd k = some N) (ha : ad k = some a) (hup : ∀ b x, w b = some x → fs_kk x → v b = some x) (hq : v q = some (.inr (2, fs_nc f (b, some k, u, false, true, []) q2 (some a)))) (hq2 : v q2 = some (.inr (4, [.int 0, .ref (fw_df g), .int 0]))) (hw2 : w q2 = none) :
    fs_rN g v (va_up nd f (some (b, some k, u, false, true, []))) (va_up ad f (some q)) (va_up lq f q2) (va_up ld f (fw_df g)) (va_up lc f 10) (va_up lt f []) := by
  have hkf : k ≠ f := fun e => by subst e; rw [hf] at hk; cases hk
  have hV := fs_rN_fr h hup
  obtain ⟨h0, h1, h2, h3⟩ := id hV
  have hlq : ∀ j, nd j ≠ none → lq j ≠ q2 := fun j hj z => by
    cases hj2 : nd j with
    | none => exact hj hj2
    | some M =>
      obtain ⟨-, -, -, -, ⟨mc, e1, -⟩, -⟩ := h.2.1 j M hj2
      rw [z, hw2] at e1; cases e1
  refine ⟨fun j hj => ?_, fun j M hj => ?_, fun i j e1 e2 e3 => ?_, fun i j e1 e2 e3 e4 => ?_⟩
  · by_cases e : j = f
    · subst e; rw [vu_self] at hj; cases hj
    · rw [vu_ne e] at hj ⊢; exact h0 j hj
  · by_cases e : j = f
    · subst e
      rw [vu_self] at hj; cases hj
      simp only [vu_self]
      refine ⟨hf1, q, rfl, ?_, ⟨0, hq2, Nat.zero_le _, fun y hy => (by cases hy), Or.inl ⟨rfl, rfl⟩⟩, ⟨rfl, fun i y E z => (by simp at z)⟩⟩
      show v q = some (.inr (2, fs_nc j _ q2 (va_up ad j (some q) k)))
      rw [vu_ne hkf, ha]; exact hq
    · rw [vu_ne e] at hj
      obtain ⟨p1, a1, ha1, hc1, hl1, hE1⟩ := h1 j M hj
      simp only [vu_ne e]
      refine ⟨p1, a1, ha1, ?_, hl1, hE1⟩
      have eb : M.2.1.bind (va_up ad f (some q)) = M.2.1.bind ad := by
        cases hp : M.2.1 with
        | none => rfl
        | some p =>
          show va_up ad f (some q) p = ad p
          obtain ⟨Pn, pb, hPn, -⟩ := fs_pad h hj (hch j M hj) hp
          exact vu_ne (fun e2 => by rw [e2, hf] at hPn; cases hPn)
      rw [eb]; exact hc1
  · by_cases ei : i = f
    · by_cases ej : j = f
      · rw [ei, ej]
      · rw [ei, vu_self, vu_ne ej] at e3
        rw [vu_ne ej] at e2
        exact absurd e3.symm (hlq j e2)
    · rw [vu_ne ei] at e1 e3
      by_cases ej : j = f
      · rw [ej, vu_self] at e3
        exact absurd e3 (hlq i e1)
      · rw [vu_ne ej] at e2 e3
        exact h2 i j e1 e2 e3
  · by_cases ei : i = f
    · rw [ei, vu_self] at e4; exact absurd rfl e4
    · rw [vu_ne ei] at e1 e3 e4
      by_cases ej : j = f
      · rw [ej, vu_self] at e3; exact absurd e3 e4
      · rw [vu_ne ej] at e2 e3
        exact h3 i j e1 e2 e3 e4
theorem p_FR_node_n1 {g : fw_G} {w : fw_W} {o gr a1 a2 a3 a4 na us n : Nat} {hu hg : Nat → Nat → Bool} {nd : fs_D} (hX : fs_X g (o, gr, a1, a2, a3, a4, na) (us, n, hu, hg, nd) w) {x y : Int32} {b : Bool} (hx : ∀ k, x = nI k → nd k = none) : fw_R g m_FR_node (fs_P g (o, gr, a1, a2, a3, a4, na) w (.inr "java/util/NoSuchElementException") (us, n, hu, hg, nd)) 7 40 w 0 [(0, .ref o), (1, .int x), (2, .int (bI b)), (3, .int y)] [] := by
  obtain ⟨f1, f2, f3, f4, ad, lq, ld, lc, lt, hok, h0, hG, hR, hN, hr⟩ := fs_X_el hX
  refine fr_aload_n (pc := 0) d_FR_node_0 rfl rfl ?_
  refine fr_iload_n (pc := 1) d_FR_node_1 rfl rfl ?_
  refine fr_callv_x (pc := 2) (nc := 6) (ns := 34) (N := m_FR_nodeAt) (rest := []) (as := [.int x]) d_FR_node_2 vc_FR_63 ⟨by decide, by decide, Nat.le_of_ble_eq_true rfl⟩ (Nat.le_of_ble_eq_true rfl) h0 (x_FR_nodeAt h0 hN (fun k _ e => hr.1 k (hx k e))) rfl ?_
  exact fx_out (by decide) ⟨rfl, hX, fs_Fr_id⟩
theorem p_FR_node_n2 {g : fw_G} {w : fw_W} {o gr a1 a2 a3 a4 na us n : Nat} {hu hg : Nat → Nat → Bool} {nd : fs_D} (hX : fs_X g (o, gr, a1, a2, a3, a4, na) (us, n, hu, hg, nd) w) {k : Nat} {N : fs_N} (hk : nd k = some N) {b : Bool} {y : Int32} (hy : fs_no2 y us) : fw_R g m_FR_node (fs_P g (o, gr, a1, a2, a3, a4, na) w (.inr "java/util/NoSuchElementException") (us, n, hu, hg, nd)) 7 40 w 0 [(0, .ref o), (1, .int (nI k)), (2, .int (bI b)), (3, .int y)] [] := by
  obtain ⟨f1, f2, f3, f4, ad, lq, ld, lc, lt, hok, h0, hG, hR, hN, hr⟩ := fs_X_el hX
  have hb : n < 2 ^ 31 := by have := hok.2.2.1; omega
  have hb2 : us < 2 ^ 31 := by have := hok.2.1; omega
  obtain ⟨hk150, a, ha, hc, hl, hE⟩ := hr.2.1 k N hk
  obtain ⟨-, hk0, how, hlen, hes, hch, hdep⟩ := hok.2.2.2.2 k N hk
  refine fr_aload_n (pc := 0) d_FR_node_0 rfl rfl ?_
  refine fr_iload_n (pc := 1) d_FR_node_1 rfl rfl ?_
  refine fr_callv_p (pc := 2) (nc := 6) (ns := 34) (N := m_FR_nodeAt) (rest := []) (as := [.int (nI k)]) d_FR_node_2 vc_FR_63 ⟨by decide, by decide, Nat.le_of_ble_eq_true rfl⟩ (Nat.le_of_ble_eq_true rfl) h0 (c_FR_nodeAt h0 hN hk150 ha) rfl ?_
  refine fr_astore (pc := 5) (L2 := [(0, .ref o), (1, .int (nI k)), (2, .int (bI b)), (3, .int y), (4, .ref a)]) d_FR_node_5 (by decide) rfl ?_
  refine fr_aload_n (pc := 7) d_FR_node_7 rfl rfl ?_
  refine fr_iload_n (pc := 8) d_FR_node_8 rfl rfl ?_
  refine fr_callv_x (pc := 9) (nc := 5) (ns := 28) (N := m_FR_requireUser) (rest := []) (as := [.int y]) d_FR_node_9 vc_FR_67 ⟨by decide, by decide, Nat.le_of_ble_eq_true rfl⟩ (Nat.le_of_ble_eq_true rfl) h0 (x_FR_requireUser h0 hy hb2) rfl ?_
  exact fx_out (by decide) ⟨rfl, hX, fs_Fr_id⟩
theorem p_FR_node_n3 {g : fw_G} {w : fw_W} {o gr a1 a2 a3 a4 na us n : Nat} {hu hg : Nat → Nat → Bool} {nd : fs_D} (hX : fs_X g (o, gr, a1, a2, a3, a4, na) (us, n, hu, hg, nd) w) {k : Nat} {N : fs_N} (hk : nd k = some N) {b : Bool} {u : Nat} (hu2 : u < us) (hfo : N.1 = false) : fw_R g m_FR_node (fs_P g (o, gr, a1, a2, a3, a4, na) w (.inr "java/lang/IllegalArgumentException") (us, n, hu, hg, nd)) 7 40 w 0 [(0, .ref o), (1, .int (nI k)), (2, .int (bI b)), (3, .int (nI u))] [] := by
  obtain ⟨f1, f2, f3, f4, ad, lq, ld, lc, lt, hok, h0, hG, hR, hN, hr⟩ := fs_X_el hX
  have hb : n < 2 ^ 31 := by have := hok.2.2.1; omega
  have hb2 : us < 2 ^ 31 := by have := hok.2.1; omega
  obtain ⟨hk150, a, ha, hc, hl, hE⟩ := hr.2.1 k N hk
  obtain ⟨-, hk0, how, hlen, hes, hch, hdep⟩ := hok.2.2.2.2 k N hk
  refine fr_aload_n (pc := 0) d_FR_node_0 rfl rfl ?_
  refine fr_iload_n (pc := 1) d_FR_node_1 rfl rfl ?_
  refine fr_callv_p (pc := 2) (nc := 6) (ns := 34) (N := m_FR_nodeAt) (rest := []) (as := [.int (nI k)]) d_FR_node_2 vc_FR_63 ⟨by decide, by decide, Nat.le_of_ble_eq_true rfl⟩ (Nat.le_of_ble_eq_true rfl) h0 (c_FR_nodeAt h0 hN hk150 ha) rfl ?_
  refine fr_astore (pc := 5) (L2 := [(0, .ref o), (1, .int (nI k)), (2, .int (bI b)), (3, .int (nI u)), (4, .ref a)]) d_FR_node_5 (by decide) rfl ?_
  refine fr_aload_n (pc := 7) d_FR_node_7 rfl rfl ?_
  refine fr_iload_n (pc := 8) d_FR_node_8 rfl rfl ?_
  refine fr_callv_n (pc := 9) (nc := 5) (ns := 28) (N := m_FR_requireUser) (rest := []) (as := [.int (nI u)]) d_FR_node_9 vc_FR_67 ⟨by decide, by decide, Nat.le_of_ble_eq_true rfl⟩ (Nat.le_of_ble_eq_true rfl) h0 (c_FR_requireUser h0 hu2 hb2) rfl ?_
  refine fr_aload (pc := 12) d_FR_node_12 rfl ?_
  refine fr_calls_x (pc := 14) (nc := 4) (ns := 22) (N := m_FR_requireFolder) (rest := []) (as := [.ref a]) d_FR_node_14 k_FR_requireFolder lk_FR_70 sc_FR_requireFolder np_FR_requireFolder ⟨by decide, by decide, Nat.le_of_ble_eq_true rfl⟩ (Nat.le_of_ble_eq_true rfl) (x_FR_requireFolder hc (by show some (Value.int (bI N.1)) = _; rw [hfo])) rfl ?_
  exact fx_out (by decide) ⟨rfl, hX, fs_Fr_id⟩
theorem p_FR_node_n4 {g : fw_G} {w : fw_W} {o gr a1 a2 a3 a4 na us n : Nat} {hu hg : Nat → Nat → Bool} {nd : fs_D} (hX : fs_X g (o, gr, a1, a2, a3, a4, na) (us, n, hu, hg, nd) w) {k : Nat} {N : fs_N} (hk : nd k = some N) {b : Bool} {u : Nat} (hu2 : u < us) (hfo : N.1 = true) (hfull : fs_frn nd = none) : fw_R g m_FR_node (fs_P g (o, gr, a1, a2, a3, a4, na) w (.inr "java/lang/IllegalStateException") (us, n, hu, hg, nd)) 7 40 w 0 [(0, .ref o), (1, .int (nI k)), (2, .int (bI b)), (3, .int (nI u))] [] := by
  obtain ⟨f1, f2, f3, f4, ad, lq, ld, lc, lt, hok, h0, hG, hR, hN, hr⟩ := fs_X_el hX
  have hb : n < 2 ^ 31 := by have := hok.2.2.1; omega
  have hb2 : us < 2 ^ 31 := by have := hok.2.1; omega
  obtain ⟨hk150, a, ha, hc, hl, hE⟩ := hr.2.1 k N hk
  obtain ⟨-, hk0, how, hlen, hes, hch, hdep⟩ := hok.2.2.2.2 k N hk
  refine fr_aload_n (pc := 0) d_FR_node_0 rfl rfl ?_
  refine fr_iload_n (pc := 1) d_FR_node_1 rfl rfl ?_
  refine fr_callv_p (pc := 2) (nc := 6) (ns := 34) (N := m_FR_nodeAt) (rest := []) (as := [.int (nI k)]) d_FR_node_2 vc_FR_63 ⟨by decide, by decide, Nat.le_of_ble_eq_true rfl⟩ (Nat.le_of_ble_eq_true rfl) h0 (c_FR_nodeAt h0 hN hk150 ha) rfl ?_
  refine fr_astore (pc := 5) (L2 := [(0, .ref o), (1, .int (nI k)), (2, .int (bI b)), (3, .int (nI u)), (4, .ref a)]) d_FR_node_5 (by decide) rfl ?_
  refine fr_aload_n (pc := 7) d_FR_node_7 rfl rfl ?_
  refine fr_iload_n (pc := 8) d_FR_node_8 rfl rfl ?_
  refine fr_callv_n (pc := 9) (nc := 5) (ns := 28) (N := m_FR_requireUser) (rest := []) (as := [.int (nI u)]) d_FR_node_9 vc_FR_67 ⟨by decide, by decide, Nat.le_of_ble_eq_true rfl⟩ (Nat.le_of_ble_eq_true rfl) h0 (c_FR_requireUser h0 hu2 hb2) rfl ?_
  refine fr_aload (pc := 12) d_FR_node_12 rfl ?_
  refine fr_calls_n (pc := 14) (nc := 4) (ns := 22) (N := m_FR_requireFolder) (rest := []) (as := [.ref a]) d_FR_node_14 k_FR_requireFolder lk_FR_70 sc_FR_requireFolder np_FR_requireFolder ⟨by decide, by decide, Nat.le_of_ble_eq_true rfl⟩ (Nat.le_of_ble_eq_true rfl) (c_FR_requireFolder hc (by show some (Value.int (bI N.1)) = _; rw [hfo])) rfl ?_
  refine fr_aload_n (pc := 17) d_FR_node_17 rfl rfl ?_
  refine fr_callv_p (pc := 18) (nc := 4) (ns := 22) (N := m_FR_freeNumber) (rest := []) (as := []) d_FR_node_18 vc_FR_74 ⟨by decide, by decide, Nat.le_of_ble_eq_true rfl⟩ (Nat.le_of_ble_eq_true rfl) h0 (c_FR_free h0 hN) rfl ?_
  refine fr_st (st2 := [.int (-1)]) (by rw [fs_frn_ad hr, hfull]; rfl) ?_
  refine fr_istore (pc := 21) (L2 := [(0, .ref o), (1, .int (nI k)), (2, .int (bI b)), (3, .int (nI u)), (4, .ref a), (5, .int (-1))]) d_FR_node_21 (by decide) rfl ?_
  refine fr_iload (pc := 23) d_FR_node_23 rfl ?_
  refine fr_iconst (pc := 25) (v := -1) d_FR_node_25 (by decide) ?_
  refine fr_icmp_ne (pc := 26) (tgt := 39) d_FR_node_26 (by decide) (fun q => ?_) (fun q => ?_)
  · exact absurd rfl q
  · exact fr_throw (pc := 29) (nc := 3) (ns := 16) th_FR_78 d_FR_node_29 d_FR_node_32 d_FR_node_33 d_FR_node_35 d_FR_node_38 (by decide) (by decide) (by decide) ⟨rfl, hX, fs_Fr_id⟩
theorem p_FR_node_n5 {g : fw_G} {w : fw_W} {o gr a1 a2 a3 a4 na us n : Nat} {hu hg : Nat → Nat → Bool} {nd : fs_D} (hX : fs_X g (o, gr, a1, a2, a3, a4, na) (us, n, hu, hg, nd) w) {k : Nat} {N : fs_N} (hk : nd k = some N) {b : Bool} {u : Nat} (hu2 : u < us) (hfo : N.1 = true) {f : Nat} (hf : fs_frn nd = some f) (hd : ¬ (fs_ab nd k).length < 20) : fw_R g m_FR_node (fs_P g (o, gr, a1, a2, a3, a4, na) w (.inr "java/lang/IllegalStateException") (us, n, hu, hg, nd)) 7 40 w 0 [(0, .ref o), (1, .int (nI k)), (2, .int (bI b)), (3, .int (nI u))] [] := by
  obtain ⟨f1, f2, f3, f4, ad, lq, ld, lc, lt, hok, h0, hG, hR, hN, hr⟩ := fs_X_el hX
  have hb : n < 2 ^ 31 := by have := hok.2.2.1; omega
  have hb2 : us < 2 ^ 31 := by have := hok.2.1; omega
  obtain ⟨hk150, a, ha, hc, hl, hE⟩ := hr.2.1 k N hk
  obtain ⟨-, hk0, how, hlen, hes, hch, hdep⟩ := hok.2.2.2.2 k N hk
  obtain ⟨hfn, hf150⟩ := fs_frn_at hf
  refine fr_aload_n (pc := 0) d_FR_node_0 rfl rfl ?_
  refine fr_iload_n (pc := 1) d_FR_node_1 rfl rfl ?_
  refine fr_callv_p (pc := 2) (nc := 6) (ns := 34) (N := m_FR_nodeAt) (rest := []) (as := [.int (nI k)]) d_FR_node_2 vc_FR_63 ⟨by decide, by decide, Nat.le_of_ble_eq_true rfl⟩ (Nat.le_of_ble_eq_true rfl) h0 (c_FR_nodeAt h0 hN hk150 ha) rfl ?_
  refine fr_astore (pc := 5) (L2 := [(0, .ref o), (1, .int (nI k)), (2, .int (bI b)), (3, .int (nI u)), (4, .ref a)]) d_FR_node_5 (by decide) rfl ?_
  refine fr_aload_n (pc := 7) d_FR_node_7 rfl rfl ?_
  refine fr_iload_n (pc := 8) d_FR_node_8 rfl rfl ?_
  refine fr_callv_n (pc := 9) (nc := 5) (ns := 28) (N := m_FR_requireUser) (rest := []) (as := [.int (nI u)]) d_FR_node_9 vc_FR_67 ⟨by decide, by decide, Nat.le_of_ble_eq_true rfl⟩ (Nat.le_of_ble_eq_true rfl) h0 (c_FR_requireUser h0 hu2 hb2) rfl ?_
  refine fr_aload (pc := 12) d_FR_node_12 rfl ?_
  refine fr_calls_n (pc := 14) (nc := 4) (ns := 22) (N := m_FR_requireFolder) (rest := []) (as := [.ref a]) d_FR_node_14 k_FR_requireFolder lk_FR_70 sc_FR_requireFolder np_FR_requireFolder ⟨by decide, by decide, Nat.le_of_ble_eq_true rfl⟩ (Nat.le_of_ble_eq_true rfl) (c_FR_requireFolder hc (by show some (Value.int (bI N.1)) = _; rw [hfo])) rfl ?_
  refine fr_aload_n (pc := 17) d_FR_node_17 rfl rfl ?_
  refine fr_callv_p (pc := 18) (nc := 4) (ns := 22) (N := m_FR_freeNumber) (rest := []) (as := []) d_FR_node_18 vc_FR_74 ⟨by decide, by decide, Nat.le_of_ble_eq_true rfl⟩ (Nat.le_of_ble_eq_true rfl) h0 (c_FR_free h0 hN) rfl ?_
  refine fr_st (st2 := [.int (nI f)]) (by rw [fs_frn_ad hr, hf]; rfl) ?_
  refine fr_istore (pc := 21) (L2 := [(0, .ref o), (1, .int (nI k)), (2, .int (bI b)), (3, .int (nI u)), (4, .ref a), (5, .int (nI f))]) d_FR_node_21 (by decide) rfl ?_
  refine fr_iload (pc := 23) d_FR_node_23 rfl ?_
  refine fr_iconst (pc := 25) (v := -1) d_FR_node_25 (by decide) ?_
  refine fr_icmp_ne (pc := 26) (tgt := 39) d_FR_node_26 (by decide) (fun q => ?_) (fun q => ?_)
  · refine fr_aload (pc := 39) d_FR_node_39 rfl ?_
    refine fr_callv_p (pc := 41) (nc := 4) (ns := 22) (N := m_ND_depth) (rest := []) (as := []) d_FR_node_41 vc_FR_80 ⟨by decide, by decide, Nat.le_of_ble_eq_true rfl⟩ (Nat.le_of_ble_eq_true rfl) hc (c_dep hr hch ha) rfl ?_
    refine fr_bipush (pc := 44) (v := 20) d_FR_node_44 (by decide) ?_
    refine fr_icmp_lt (pc := 46) (tgt := 59) d_FR_node_46 (by decide) (fun q2 => ?_) (fun q2 => ?_)
    · exact absurd ((ni_lt (b := 20) (by omega) (by omega)).mp q2) hd
    · exact fr_throw (pc := 49) (nc := 3) (ns := 16) th_FR_83 d_FR_node_49 d_FR_node_52 d_FR_node_53 d_FR_node_55 d_FR_node_58 (by decide) (by decide) (by decide) ⟨rfl, hX, fs_Fr_id⟩
  · exact absurd q (fs_ov_ne (by omega))
theorem p_FR_node_ok {g : fw_G} {w : fw_W} {o gr a1 a2 a3 a4 na us n : Nat} {hu hg : Nat → Nat → Bool} {nd : fs_D} (hX : fs_X g (o, gr, a1, a2, a3, a4, na) (us, n, hu, hg, nd) w) {k : Nat} {N : fs_N} (hk : nd k = some N) {b : Bool} {u : Nat} (hu2 : u < us) (hfo : N.1 = true) {f : Nat} (hf : fs_frn nd = some f) (hd : (fs_ab nd k).length < 20) : fw_R g m_FR_node (fs_P g (o, gr, a1, a2, a3, a4, na) w (.inl (some (.int (nI f)))) (us, n, hu, hg, va_up nd f (some (b, some k, u, false, true, [])))) 7 40 w 0 [(0, .ref o), (1, .int (nI k)), (2, .int (bI b)), (3, .int (nI u))] [] := by
  obtain ⟨f1, f2, f3, f4, ad, lq, ld, lc, lt, hok, h0, hG, hR, hN, hr⟩ := fs_X_el hX
  have hb : n < 2 ^ 31 := by have := hok.2.2.1; omega
  have hb2 : us < 2 ^ 31 := by have := hok.2.1; omega
  obtain ⟨hk150, a, ha, hc, hl, hE⟩ := hr.2.1 k N hk
  obtain ⟨-, hk0, how, hlen, hes, hch, hdep⟩ := hok.2.2.2.2 k N hk
  obtain ⟨hfn, hf150⟩ := fs_frn_at hf
  refine fr_aload_n (pc := 0) d_FR_node_0 rfl rfl ?_
  refine fr_iload_n (pc := 1) d_FR_node_1 rfl rfl ?_
  refine fr_callv_p (pc := 2) (nc := 6) (ns := 34) (N := m_FR_nodeAt) (rest := []) (as := [.int (nI k)]) d_FR_node_2 vc_FR_63 ⟨by decide, by decide, Nat.le_of_ble_eq_true rfl⟩ (Nat.le_of_ble_eq_true rfl) h0 (c_FR_nodeAt h0 hN hk150 ha) rfl ?_
  refine fr_astore (pc := 5) (L2 := [(0, .ref o), (1, .int (nI k)), (2, .int (bI b)), (3, .int (nI u)), (4, .ref a)]) d_FR_node_5 (by decide) rfl ?_
  refine fr_aload_n (pc := 7) d_FR_node_7 rfl rfl ?_
  refine fr_iload_n (pc := 8) d_FR_node_8 rfl rfl ?_
  refine fr_callv_n (pc := 9) (nc := 5) (ns := 28) (N := m_FR_requireUser) (rest := []) (as := [.int (nI u)]) d_FR_node_9 vc_FR_67 ⟨by decide, by decide, Nat.le_of_ble_eq_true rfl⟩ (Nat.le_of_ble_eq_true rfl) h0 (c_FR_requireUser h0 hu2 hb2) rfl ?_
  refine fr_aload (pc := 12) d_FR_node_12 rfl ?_
  refine fr_calls_n (pc := 14) (nc := 4) (ns := 22) (N := m_FR_requireFolder) (rest := []) (as := [.ref a]) d_FR_node_14 k_FR_requireFolder lk_FR_70 sc_FR_requireFolder np_FR_requireFolder ⟨by decide, by decide, Nat.le_of_ble_eq_true rfl⟩ (Nat.le_of_ble_eq_true rfl) (c_FR_requireFolder hc (by show some (Value.int (bI N.1)) = _; rw [hfo])) rfl ?_
  refine fr_aload_n (pc := 17) d_FR_node_17 rfl rfl ?_
  refine fr_callv_p (pc := 18) (nc := 4) (ns := 22) (N := m_FR_freeNumber) (rest := []) (as := []) d_FR_node_18 vc_FR_74 ⟨by decide, by decide, Nat.le_of_ble_eq_true rfl⟩ (Nat.le_of_ble_eq_true rfl) h0 (c_FR_free h0 hN) rfl ?_
  refine fr_st (st2 := [.int (nI f)]) (by rw [fs_frn_ad hr, hf]; rfl) ?_
  refine fr_istore (pc := 21) (L2 := [(0, .ref o), (1, .int (nI k)), (2, .int (bI b)), (3, .int (nI u)), (4, .ref a), (5, .int (nI f))]) d_FR_node_21 (by decide) rfl ?_
  refine fr_iload (pc := 23) d_FR_node_23 rfl ?_
  refine fr_iconst (pc := 25) (v := -1) d_FR_node_25 (by decide) ?_
  refine fr_icmp_ne (pc := 26) (tgt := 39) d_FR_node_26 (by decide) (fun q => ?_) (fun q => ?_)
  · refine fr_aload (pc := 39) d_FR_node_39 rfl ?_
    refine fr_callv_p (pc := 41) (nc := 4) (ns := 22) (N := m_ND_depth) (rest := []) (as := []) d_FR_node_41 vc_FR_80 ⟨by decide, by decide, Nat.le_of_ble_eq_true rfl⟩ (Nat.le_of_ble_eq_true rfl) hc (c_dep hr hch ha) rfl ?_
    refine fr_bipush (pc := 44) (v := 20) d_FR_node_44 (by decide) ?_
    refine fr_icmp_lt (pc := 46) (tgt := 59) d_FR_node_46 (by decide) (fun q2 => ?_) (fun q2 => ?_)
    · refine fr_aload_n (pc := 59) d_FR_node_59 rfl rfl ?_
      refine fr_get (pc := 60) (v := .ref na) d_FR_node_60 fg_FR_18 h0 rfl ?_
      refine fr_iload (pc := 63) d_FR_node_63 rfl ?_
      refine fr_new (pc := 65) (nc := 3) (ns := 15) (ci := 2) (N := 7) (fs := [.int 0, .int 0, .null, .null, .int 0, .int 0, .int 0]) d_FR_node_65 nw_ND_FR (fun q hq => ?_)
      refine fr_dup (pc := 68) d_FR_node_68 rfl ?_
      refine fr_iload (pc := 69) d_FR_node_69 rfl ?_
      refine fr_aload (pc := 71) d_FR_node_71 rfl ?_
      refine fr_iload_n (pc := 73) d_FR_node_73 rfl rfl ?_
      refine fr_iload_n (pc := 74) d_FR_node_74 rfl rfl ?_
      refine fr_calli (pc := 75) (nc := 2) (ns := 12) (N := m_ND_init) (rest := [.ref q, .int (nI f), .ref na]) (as := [.int (nI f), .ref a, .int (bI b), .int (nI u)]) d_FR_node_75 k_ND_init rfl rfl rfl (fw_t 60 (by decide +kernel)) lk_FR_22 im_ND_init np_ND_init ⟨by decide, by decide, Nat.le_of_ble_eq_true rfl⟩ (Nat.le_of_ble_eq_true rfl) (c_ND_init (pr := some a) fw_up_self) (fun v1 w1 h9 => ?_) (fun C w1 h9 => by obtain ⟨h1, -⟩ := h9; cases h1) rfl
      obtain ⟨h1, q2, hq2, hne, rfl⟩ := h9
      cases h1
      rw [fw_uu]
      show fw_R g m_FR_node _ _ _ (fw_up (fw_up w q (.inr (2, fs_nc f (b, some k, u, false, true, []) q2 (some a)))) q2 (.inr (4, [.int 0, .ref (fw_df g), .int 0]))) _ _ _
      have hq20 : w q2 = none := (fw_up_ne hne).symm.trans hq2
      have hup : ∀ y x, w y = some x → (fw_up (fw_up w q (.inr (2, fs_nc f (b, some k, u, false, true, []) q2 (some a)))) q2 (.inr (4, [.int 0, .ref (fw_df g), .int 0]))) y = some x := fun y x hb => fw_up_at (fw_up_at hb (fun z => by rw [z, hq] at hb; cases hb)) (fun z => by rw [z, hq20] at hb; cases hb)
      have hqc : (fw_up (fw_up w q (.inr (2, fs_nc f (b, some k, u, false, true, []) q2 (some a)))) q2 (.inr (4, [.int 0, .ref (fw_df g), .int 0]))) q = some (.inr (2, fs_nc f (b, some k, u, false, true, []) q2 (some a))) := fw_up_at fw_up_self (Ne.symm hne)
      have hN1 := hup _ _ hN
      refine fr_aastk (pc := 78) (t := 3) (ci := 2) d_FR_node_78 rfl rfl hN1 hqc hf150 (by omega) ?_
      refine fr_iload (pc := 79) d_FR_node_79 rfl ?_
      have hrr := fs_rN_new (v := fw_up (fw_up (fw_up w q (.inr (2, fs_nc f (b, some k, u, false, true, []) q2 (some a)))) q2 (.inr (4, [.int 0, .ref (fw_df g), .int 0]))) na (fs_no g (va_up ad f (some q)))) hr (fs_ok_ch hok) hfn hf150 hk ha (u := u) (b := b) (q := q) (q2 := q2) (fun y x hb hx => fw_up_at (hup y x hb) (fun z => by subst z; rw [hN] at hb; cases hb; exact fs_kk_no hx)) (fw_up_at hqc (fs_ne hqc hN1 (fun z => by cases z))) (fw_up_at fw_up_self (fs_ne (w := (fw_up (fw_up w q (.inr (2, fs_nc f (b, some k, u, false, true, []) q2 (some a)))) q2 (.inr (4, [.int 0, .ref (fw_df g), .int 0])))) fw_up_self hN1 (fun z => by cases z))) hq20
      exact fr_iret rfl d_FR_node_81 ⟨rfl, fs_X_in (fs_ok_new hok hfn hf150 hk hu2 hd) (fw_up_at (hup _ _ h0) (fs_ne h0 hN (fun z => by cases z))) (fs_gr_fr hG (fun b e hb h1 h2 => fw_up_at (hup b e hb) (fs_ne hb hN (fun z => h2 _ _ _ z)))) hR fw_up_self hrr, fs_Fr_up (fun b e hb => Or.inr (hup b e hb)) (fun e he => by rw [hN] at he; cases he; exact Or.inr (Or.inl ⟨_, _, _, rfl⟩))⟩
    · exact absurd ((ni_lt (b := 20) (by omega) (by omega)).mpr hd) q2
  · exact absurd q (fs_ov_ne (by omega))

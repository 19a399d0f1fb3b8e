noncomputable def fs_has (hu hg : Nat → Nat → Bool) (nd : fs_D) (N : fs_N) (n r u : Nat) : Bool := (decide (r = 7) && decide (N.2.2.1 = u)) || fs_yes (fs_dc nd (fs_in hu hg) N n r u (fs_ls nd n))
theorem fs_es_b {us ng : Nat} {nd : fs_D} (hok : fs_ok us ng nd) (v : Nat) : ∀ E ∈ fs_es nd v, E.2.2.1 = false → E.2.1 < 64 := by
  intro E hE hi
  unfold fs_es at hE
  cases hv : nd v with
  | none => rw [hv] at hE; cases hE
  | some V =>
    rw [hv] at hE
    obtain ⟨h1, -⟩ := (hok.2.2.2.2 v V hv).2.2.2.2.1 E hE
    rw [hi] at h1
    have h2 := hok.2.1
    have h3 : E.2.1 < us := by simpa using h1
    omega
theorem fs_hold_b {hu hg : Nat → Nat → Bool} {us ng : Nat} {f1 f2 f3 f4 : Nat → Int64} {nd : fs_D} {N : fs_N} {n r u : Nat} (hR : gr_rep hu hg ng us f1 f2 f3 f4) (hok : fs_ok us ng nd) (hA : nd n = some N) (hu64 : u < 64) : bb (fs_hs nd f4 N n r (if r = 7 then (1 : Int64) <<< ((nI N.2.2.1).toInt64 &&& 63) else 0) (if r = 7 then (1 : Int64) <<< ((nI N.2.2.1).toInt64 &&& 63) else 0) (fs_ls nd n)) u = fs_has hu hg nd N n r u := by
  have hf : (fun i u => bb (f4 i) u) = fs_in hu hg := by funext i u; exact fs_in_f4 hR i u
  have how : N.2.2.1 < 64 := by have h1 := (hok.2.2.2.2 n N hA).2.2.1; have h2 := hok.2.1; omega
  rw [fs_hs_b hu64 _ _ _ (fun v _ => fs_es_b hok v), hf]
  unfold fs_has
  by_cases h7 : r = 7
  · rw [if_pos h7, bb_shl how hu64]
    have e : decide (u = N.2.2.1) = decide (N.2.2.1 = u) := by congr 1; exact propext ⟨Eq.symm, Eq.symm⟩
    rw [e]
    simp only [h7, decide_true, Bool.true_and]
    cases decide (N.2.2.1 = u) <;> simp
  · rw [if_neg h7, bb_0]
    simp [h7]
theorem fs_hold_0 {hu hg : Nat → Nat → Bool} {us ng : Nat} {f1 f2 f3 f4 : Nat → Int64} {nd : fs_D} {N : fs_N} {n r u : Nat} (hR : gr_rep hu hg ng us f1 f2 f3 f4) (hok : fs_ok us ng nd) (hA : nd n = some N) (h : fs_has hu hg nd N n r u = true) : u < us := by
  have how := (hok.2.2.2.2 n N hA).2.2.1
  unfold fs_has at h
  rw [Bool.or_eq_true] at h
  rcases h with h | h
  · simp only [Bool.and_eq_true, decide_eq_true_iff] at h
    omega
  · have key : ∀ l, fs_yes (fs_dc nd (fs_in hu hg) N n r u l) = true → u < us := by
      intro l
      induction l with
      | nil => intro h; simp [fs_dc, fs_yes] at h
      | cons v t ih =>
        intro h
        rw [fs_dc] at h
        cases hl : fs_lv1 (fs_hit (fs_in hu hg) N n v r u) (fs_es nd v) with
        | none => rw [hl] at h; exact ih h
        | some q =>
          have hany : (fs_es nd v).any (fun E => fs_hit (fs_in hu hg) N n v r u E) = true := by
            have h1 := (fs_lv1_b (H := fs_hit (fs_in hu hg) N n v r u) (es := fs_es nd v)).1
            rw [hl] at h1
            have h2 := h1.symm
            rw [Option.isSome_some, Bool.or_eq_true] at h2
            rw [List.any_eq_true]
            rcases h2 with h2 | h2 <;> (obtain ⟨E, e1, e2⟩ := List.any_eq_true.mp h2; exact ⟨E, e1, (Bool.and_eq_true _ _ ▸ e2).2⟩)
          obtain ⟨E, hE, hh⟩ := List.any_eq_true.mp hany
          simp only [fs_hit, Bool.and_eq_true] at hh
          have hm := hh.2
          unfold fs_mt at hm
          unfold fs_es at hE
          cases hv : nd v with
          | none => rw [hv] at hE; cases hE
          | some V =>
            rw [hv] at hE
            obtain ⟨h1, -⟩ := (hok.2.2.2.2 v V hv).2.2.2.2.1 E hE
            cases hg2 : E.2.2.1 with
            | true =>
              rw [hg2, if_pos rfl] at hm
              unfold fs_in at hm
              have hm2 := @of_decide_eq_true (∃ k, cl_rt hg E.2.1 k ∧ hu k u = true) (Classical.propDecidable _) hm
              obtain ⟨k, -, hk⟩ := hm2
              exact (hR.2.2.2.2.1 k u hk).2
            | false =>
              rw [hg2] at hm h1
              have e1 : E.2.1 = u := by simpa using hm
              have e2 : E.2.1 < us := by simpa using h1
              omega
    exact key _ h
def fs_ri (P : Nat → Bool) : Nat → Nat → Int32 → Int32
  | 0, _, acc => acc
  | m + 1, r, acc => fs_ri P m (r + 1) (if P r = true then acc ||| (1 <<< (nI r &&& 31)) else acc)
def fs_wh (P : Nat → Bool) (q : Nat) : Nat → Nat → Nat → Option Nat
  | 0, _, _ => none
  | m + 1, u, c => if P u = true then (if c = q then some u else fs_wh P q m (u + 1) (c + 1)) else fs_wh P q m (u + 1) c
theorem c_FR_rights_l {g : fw_G} {nc ns : Nat} {w : fw_W} {o gr na us : Nat} (h0 : w o = some (.inr (0, [.ref gr, .ref na, .int (nI us)]))) {ng a1 a2 a3 a4 : Nat} {f1 f2 f3 f4 : Nat → Int64} (hG : gr_at g w gr a1 a2 a3 a4 ng f1 f2 f3 f4) {nd : fs_D} {ad : Nat → Option Nat} {lq ld lc : Nat → Nat} {lt : Nat → List Nat} (hr : fs_rN g w nd ad lq ld lc lt) (hok : fs_ok us ng nd) {hu hg : Nat → Nat → Bool} (hR : gr_rep hu hg ng us f1 f2 f3 f4) {n a : Nat} {N : fs_N} (hA : nd n = some N) (ha : ad n = some a) {u : Nat} (hu2 : u < us) : ∀ m r acc, r + m = 8 → ∀ L : List (Nat × Value), L = [(0, .ref o), (1, .int (nI u)), (2, .int (nI n)), (3, .ref a), (4, .int acc), (5, .int (nI r))] → fw_R g m_FR_rights (fw_pv (.int (fs_ri (fun r => fs_has hu hg nd N n r u) m r acc)) w) nc ns w 22 L [] := by
  have hus := hok.2.1
  intro m
  induction m with
  | zero =>
    intro r acc hi L hL
    have hk2 : r = 8 := by omega
    subst hk2 hL
    refine fr_iload (pc := 22) d_FR_rights_22 rfl ?_
    refine fr_bipush (pc := 24) (v := 8) d_FR_rights_24 (by decide) ?_
    refine fr_icmp_ge (pc := 26) (tgt := 58) d_FR_rights_26 (by decide) (fun q => ?_) (fun q => ?_)
    · refine fr_iload (pc := 58) d_FR_rights_58 rfl ?_
      exact fr_iret rfl d_FR_rights_60 ⟨rfl, rfl⟩
    · exact absurd ((ni_le (a := 8) (b := 8) (by omega) (by omega)).mpr (by omega)) q
  | succ m ih =>
    intro r acc hi L hL
    subst hL
    refine fr_iload (pc := 22) d_FR_rights_22 rfl ?_
    refine fr_bipush (pc := 24) (v := 8) d_FR_rights_24 (by decide) ?_
    refine fr_icmp_ge (pc := 26) (tgt := 58) d_FR_rights_26 (by decide) (fun q => ?_) (fun q => ?_)
    · exact absurd ((ni_le (a := 8) (by omega) (by omega)).mp q) (by omega)
    · refine fr_aload_n (pc := 29) d_FR_rights_29 rfl rfl ?_
      refine fr_aload_n (pc := 30) d_FR_rights_30 rfl rfl ?_
      refine fr_iload (pc := 31) d_FR_rights_31 rfl ?_
      refine fr_callv_p (pc := 33) (nc := nc) (ns := ns) (N := m_FR_holders) (rest := []) (as := [.ref a, .int (nI r)]) d_FR_rights_33 vc_FR_159 ⟨by decide, by decide, Nat.le_of_ble_eq_true rfl⟩ (Nat.le_of_ble_eq_true rfl) h0 (c_FR_hold h0 hG hr hok hA ha (by omega)) rfl ?_
      refine fr_iload_n (pc := 36) d_FR_rights_36 rfl rfl ?_
      refine fr_calls_p (pc := 37) (nc := nc) (ns := ns) (N := m_FR_isSet) (rest := []) (as := [.long (fs_hs nd f4 N n r (if r = 7 then (1 : Int64) <<< ((nI N.2.2.1).toInt64 &&& 63) else 0) (if r = 7 then (1 : Int64) <<< ((nI N.2.2.1).toInt64 &&& 63) else 0) (fs_ls nd n)), .int (nI u)]) d_FR_rights_37 k_FR_isSet lk_FR_163 sc_FR_isSet np_FR_isSet ⟨by decide, by decide, Nat.le_of_ble_eq_true rfl⟩ (Nat.le_of_ble_eq_true rfl) (c_FR_isSet (by omega)) rfl ?_
      rw [fs_hold_b hR hok hA (by omega)]
      refine fr_if_eq (pc := 40) (tgt := 52) d_FR_rights_40 (by decide) (fun q2 => ?_) (fun q2 => ?_)
      · refine fr_iinc (pc := 52) (v := (nI (r + 1))) (L2 := [(0, .ref o), (1, .int (nI u)), (2, .int (nI n)), (3, .ref a), (4, .int acc), (5, .int (nI (r + 1)))]) d_FR_rights_52 rfl (fi_1 _) (by decide) rfl ?_
        refine fr_goto (pc := 55) (tgt := 22) d_FR_rights_55 (by decide) ?_
        have e : fs_ri (fun r => fs_has hu hg nd N n r u) (m + 1) r acc = fs_ri (fun r => fs_has hu hg nd N n r u) m (r + 1) acc := by rw [fs_ri, if_neg (by rw [bI_0.mp q2]; decide)]
        rw [e]
        exact ih (r + 1) acc (by omega) _ rfl
      · refine fr_iload (pc := 43) d_FR_rights_43 rfl ?_
        refine fr_iconst (pc := 45) (v := 1) d_FR_rights_45 (by decide) ?_
        refine fr_iload (pc := 46) d_FR_rights_46 rfl ?_
        refine fr_ishl (pc := 48) d_FR_rights_48 ?_
        refine fr_ior (pc := 49) d_FR_rights_49 ?_
        refine fr_istore (pc := 50) (L2 := [(0, .ref o), (1, .int (nI u)), (2, .int (nI n)), (3, .ref a), (4, .int (acc ||| (1 <<< ((nI r) &&& 31)))), (5, .int (nI r))]) d_FR_rights_50 (by decide) rfl ?_
        refine fr_iinc (pc := 52) (v := (nI (r + 1))) (L2 := [(0, .ref o), (1, .int (nI u)), (2, .int (nI n)), (3, .ref a), (4, .int (acc ||| (1 <<< ((nI r) &&& 31)))), (5, .int (nI (r + 1)))]) d_FR_rights_52 rfl (fi_1 _) (by decide) rfl ?_
        refine fr_goto (pc := 55) (tgt := 22) d_FR_rights_55 (by decide) ?_
        have e : fs_ri (fun r => fs_has hu hg nd N n r u) (m + 1) r acc = fs_ri (fun r => fs_has hu hg nd N n r u) m (r + 1) (acc ||| (1 <<< (nI r &&& 31))) := by rw [fs_ri, if_pos (ts_nf (fun z => q2 (bI_0.mpr z)))]
        rw [e]
        exact ih (r + 1) _ (by omega) _ rfl
theorem p_FR_rights_ok {g : fw_G} {w : fw_W} {o gr a1 a2 a3 a4 na us n : Nat} {hu hg : Nat → Nat → Bool} {nd : fs_D} (hX : fs_X g (o, gr, a1, a2, a3, a4, na) (us, n, hu, hg, nd) w) {k : Nat} {N : fs_N} (hk : nd k = some N) {u : Nat} (hu2 : u < us) : fw_R g m_FR_rights (fs_P g (o, gr, a1, a2, a3, a4, na) w (.inl (some (.int (fs_ri (fun r => fs_has hu hg (va_up nd k (some (fs_st N false))) (fs_st N false) k r u) 8 0 0)))) (us, n, hu, hg, (va_up nd k (some (fs_st N false))))) 2 12 w 0 [(0, .ref o), (1, .int (nI u)), (2, .int (nI k))] [] := by
  obtain ⟨f1, f2, f3, f4, ad, lq, ld, lc, lt, hok, h0, hG, hR, hN, hr⟩ := fs_X_el hX
  have hb : n < 2 ^ 31 := by have := hok.2.2.1; omega
  have hb2 : us < 2 ^ 31 := by have := hok.2.1; omega
  obtain ⟨hk150, a, ha, hc, hl, hE⟩ := hr.2.1 k N hk
  obtain ⟨-, hk0, how, hlen, hes, hch, hdep⟩ := hok.2.2.2.2 k N hk
  have hF1 := fs_F2_up (x := .inr (2, fs_nc k (fs_st N false) (lq k) (N.2.1.bind ad))) fs_F2_id hc
  have hr1 := fs_rN_put hr (N2 := fs_st N false) hk ha rfl
  have hok1 := fs_ok_up hok (N2 := fs_st N false) hk rfl how hlen hes
  have h01 := fs_F2_3 hF1 _ h0 (fun fs z => by cases z)
  have hG1 := fs_gr_fr hG (fun b e hb h1 _ => fs_F2_3 hF1 b hb (fun fs z => by have := h1 2 fs z; omega))
  have hE1 : ∀ v r u, fw_pv v (fw_up w a (.inr (2, fs_nc k (fs_st N false) (lq k) (N.2.1.bind ad)))) r u → fs_P g (o, gr, a1, a2, a3, a4, na) w (.inl (some v)) (us, n, hu, hg, (va_up nd k (some (fs_st N false)))) r u := by
    rintro v r u ⟨e1, e2⟩
    subst e2
    exact ⟨e1, fs_X_F2 hok1 h0 hG hR hN hF1 hr1, fs_F2_Fr hF1⟩
  refine fr_aload_n (pc := 0) d_FR_rights_0 rfl rfl ?_
  refine fr_iload_n (pc := 1) d_FR_rights_1 rfl rfl ?_
  refine fr_callv_n (pc := 2) (nc := 1) (ns := 6) (N := m_FR_requireUser) (rest := []) (as := [.int (nI u)]) d_FR_rights_2 vc_FR_67 ⟨by decide, by decide, Nat.le_of_ble_eq_true rfl⟩ (Nat.le_of_ble_eq_true rfl) h0 (c_FR_requireUser h0 hu2 hb2) rfl ?_
  refine fr_aload_n (pc := 5) d_FR_rights_5 rfl rfl ?_
  refine fr_iload_n (pc := 6) d_FR_rights_6 rfl rfl ?_
  refine fr_callv_p (pc := 7) (nc := 0) (ns := 0) (N := m_FR_nodeAt) (rest := []) (as := [.int (nI k)]) d_FR_rights_7 vc_FR_63 ⟨by decide, by decide, Nat.le_of_ble_eq_true rfl⟩ (Nat.le_of_ble_eq_true rfl) h0 (c_FR_nodeAt h0 hN hk150 ha) rfl ?_
  refine fr_astore_n (pc := 10) (L2 := [(0, .ref o), (1, .int (nI u)), (2, .int (nI k)), (3, .ref a)]) d_FR_rights_10 rfl (by decide) rfl ?_
  refine fr_aload_n (pc := 11) d_FR_rights_11 rfl rfl ?_
  refine fr_iconst (pc := 12) (v := 0) d_FR_rights_12 (by decide) ?_
  refine fr_put (pc := 13) (fs2 := fs_nc k (fs_st N false) (lq k) (N.2.1.bind ad)) d_FR_rights_13 fp_FR_rights_110 hc (Nat.le_of_ble_eq_true rfl) rfl rfl rfl ?_
  refine fr_iconst (pc := 16) (v := 0) d_FR_rights_16 (by decide) ?_
  refine fr_istore (pc := 17) (L2 := [(0, .ref o), (1, .int (nI u)), (2, .int (nI k)), (3, .ref a), (4, .int 0)]) d_FR_rights_17 (by decide) rfl ?_
  refine fr_iconst (pc := 19) (v := 0) d_FR_rights_19 (by decide) ?_
  refine fr_istore (pc := 20) (L2 := [(0, .ref o), (1, .int (nI u)), (2, .int (nI k)), (3, .ref a), (4, .int 0), (5, .int 0)]) d_FR_rights_20 (by decide) rfl ?_
  exact fr_po (hE1 _) (c_FR_rights_l h01 hG1 hr1 hok1 hR vu_self ha hu2 8 0 0 rfl _ rfl)
theorem p_FR_rights_n1 {g : fw_G} {w : fw_W} {o gr a1 a2 a3 a4 na us n : Nat} {hu hg : Nat → Nat → Bool} {nd : fs_D} (hX : fs_X g (o, gr, a1, a2, a3, a4, na) (us, n, hu, hg, nd) w) {x y : Int32} (hx : fs_no2 x us) : fw_R g m_FR_rights (fs_P g (o, gr, a1, a2, a3, a4, na) w (.inr "java/util/NoSuchElementException") (us, n, hu, hg, nd)) 2 12 w 0 [(0, .ref o), (1, .int x), (2, .int y)] [] := by
  obtain ⟨f1, f2, f3, f4, ad, lq, ld, lc, lt, hok, h0, hG, hR, hN, hr⟩ := fs_X_el hX
  have hb : n < 2 ^ 31 := by have := hok.2.2.1; omega
  have hb2 : us < 2 ^ 31 := by have := hok.2.1; omega
  refine fr_aload_n (pc := 0) d_FR_rights_0 rfl rfl ?_
  refine fr_iload_n (pc := 1) d_FR_rights_1 rfl rfl ?_
  refine fr_callv_x (pc := 2) (nc := 1) (ns := 6) (N := m_FR_requireUser) (rest := []) (as := [.int x]) d_FR_rights_2 vc_FR_67 ⟨by decide, by decide, Nat.le_of_ble_eq_true rfl⟩ (Nat.le_of_ble_eq_true rfl) h0 (x_FR_requireUser h0 hx hb2) rfl ?_
  exact fx_out (by decide) ⟨rfl, hX, fs_Fr_id⟩
theorem p_FR_rights_n2 {g : fw_G} {w : fw_W} {o gr a1 a2 a3 a4 na us n : Nat} {hu hg : Nat → Nat → Bool} {nd : fs_D} (hX : fs_X g (o, gr, a1, a2, a3, a4, na) (us, n, hu, hg, nd) w) {u : Nat} {x : Int32} (hu2 : u < us) (hx : ∀ k, x = nI k → nd k = none) : fw_R g m_FR_rights (fs_P g (o, gr, a1, a2, a3, a4, na) w (.inr "java/util/NoSuchElementException") (us, n, hu, hg, nd)) 2 12 w 0 [(0, .ref o), (1, .int (nI u)), (2, .int x)] [] := by
  obtain ⟨f1, f2, f3, f4, ad, lq, ld, lc, lt, hok, h0, hG, hR, hN, hr⟩ := fs_X_el hX
  have hb : n < 2 ^ 31 := by have := hok.2.2.1; omega
  have hb2 : us < 2 ^ 31 := by have := hok.2.1; omega
  refine fr_aload_n (pc := 0) d_FR_rights_0 rfl rfl ?_
  refine fr_iload_n (pc := 1) d_FR_rights_1 rfl rfl ?_
  refine fr_callv_n (pc := 2) (nc := 1) (ns := 6) (N := m_FR_requireUser) (rest := []) (as := [.int (nI u)]) d_FR_rights_2 vc_FR_67 ⟨by decide, by decide, Nat.le_of_ble_eq_true rfl⟩ (Nat.le_of_ble_eq_true rfl) h0 (c_FR_requireUser h0 hu2 hb2) rfl ?_
  refine fr_aload_n (pc := 5) d_FR_rights_5 rfl rfl ?_
  refine fr_iload_n (pc := 6) d_FR_rights_6 rfl rfl ?_
  refine fr_callv_x (pc := 7) (nc := 0) (ns := 0) (N := m_FR_nodeAt) (rest := []) (as := [.int x]) d_FR_rights_7 vc_FR_63 ⟨by decide, by decide, Nat.le_of_ble_eq_true rfl⟩ (Nat.le_of_ble_eq_true rfl) h0 (x_FR_nodeAt h0 hN (fun k _ e => hr.1 k (hx k e))) rfl ?_
  exact fx_out (by decide) ⟨rfl, hX, fs_Fr_id⟩
theorem c_FR_who_l {g : fw_G} {nc ns : Nat} {w : fw_W} {o gr na us : Nat} (h0 : w o = some (.inr (0, [.ref gr, .ref na, .int (nI us)]))) {ng a1 a2 a3 a4 : Nat} {f1 f2 f3 f4 : Nat → Int64} (hG : gr_at g w gr a1 a2 a3 a4 ng f1 f2 f3 f4) {nd : fs_D} {ad : Nat → Option Nat} {lq ld lc : Nat → Nat} {lt : Nat → List Nat} (hr : fs_rN g w nd ad lq ld lc lt) (hok : fs_ok us ng nd) {hu hg : Nat → Nat → Bool} (hR : gr_rep hu hg ng us f1 f2 f3 f4) {n a : Nat} {N : fs_N} (hA : nd n = some N) (ha : ad n = some a) {r qq : Nat} (hq : qq < 2 ^ 31) : ∀ m u c, u + m = us → c ≤ u → ∀ L : List (Nat × Value), L = [(0, .ref o), (1, .int (nI n)), (2, .int (nI r)), (3, .int (nI qq)), (4, .ref a), (5, .long (fs_hs nd f4 N n r (if r = 7 then (1 : Int64) <<< ((nI N.2.2.1).toInt64 &&& 63) else 0) (if r = 7 then (1 : Int64) <<< ((nI N.2.2.1).toInt64 &&& 63) else 0) (fs_ls nd n))), (7, .int (nI c)), (8, .int (nI u))] → fw_R g m_FR_who (fw_pv (.int (fs_ov (fs_wh (fun u => fs_has hu hg nd N n r u) qq m u c))) w) nc ns w 36 L [] := by
  have hus := hok.2.1
  intro m
  induction m with
  | zero =>
    intro u c hi hcu L hL
    subst hL
    refine fr_iload (pc := 36) d_FR_who_36 rfl ?_
    refine fr_aload_n (pc := 38) d_FR_who_38 rfl rfl ?_
    refine fr_get (pc := 39) (v := .int (nI us)) d_FR_who_39 fg_FR_25 h0 rfl ?_
    refine fr_icmp_ge (pc := 42) (tgt := 73) d_FR_who_42 (by decide) (fun q => ?_) (fun q => ?_)
    · refine fr_iconst (pc := 73) (v := -1) d_FR_who_73 (by decide) ?_
      exact fr_iret rfl d_FR_who_74 ⟨rfl, rfl⟩
    · exact absurd ((ni_le (by omega) (by omega)).mpr (by omega)) q
  | succ m ih =>
    intro u c hi hcu L hL
    subst hL
    refine fr_iload (pc := 36) d_FR_who_36 rfl ?_
    refine fr_aload_n (pc := 38) d_FR_who_38 rfl rfl ?_
    refine fr_get (pc := 39) (v := .int (nI us)) d_FR_who_39 fg_FR_25 h0 rfl ?_
    refine fr_icmp_ge (pc := 42) (tgt := 73) d_FR_who_42 (by decide) (fun q => ?_) (fun q => ?_)
    · exact absurd ((ni_le (by omega) (by omega)).mp q) (by omega)
    · refine fr_lload (pc := 45) d_FR_who_45 rfl ?_
      refine fr_iload (pc := 47) d_FR_who_47 rfl ?_
      refine fr_calls_p (pc := 49) (nc := nc) (ns := ns) (N := m_FR_isSet) (rest := []) (as := [.long (fs_hs nd f4 N n r (if r = 7 then (1 : Int64) <<< ((nI N.2.2.1).toInt64 &&& 63) else 0) (if r = 7 then (1 : Int64) <<< ((nI N.2.2.1).toInt64 &&& 63) else 0) (fs_ls nd n)), .int (nI u)]) d_FR_who_49 k_FR_isSet lk_FR_163 sc_FR_isSet np_FR_isSet ⟨by decide, by decide, Nat.le_of_ble_eq_true rfl⟩ (Nat.le_of_ble_eq_true rfl) (c_FR_isSet (by omega)) rfl ?_
      rw [fs_hold_b hR hok hA (by omega)]
      refine fr_if_eq (pc := 52) (tgt := 67) d_FR_who_52 (by decide) (fun q2 => ?_) (fun q2 => ?_)
      · refine fr_iinc (pc := 67) (v := (nI (u + 1))) (L2 := [(0, .ref o), (1, .int (nI n)), (2, .int (nI r)), (3, .int (nI qq)), (4, .ref a), (5, .long (fs_hs nd f4 N n r (if r = 7 then (1 : Int64) <<< ((nI N.2.2.1).toInt64 &&& 63) else 0) (if r = 7 then (1 : Int64) <<< ((nI N.2.2.1).toInt64 &&& 63) else 0) (fs_ls nd n))), (7, .int (nI c)), (8, .int (nI (u + 1)))]) d_FR_who_67 rfl (fi_1 _) (by decide) rfl ?_
        refine fr_goto (pc := 70) (tgt := 36) d_FR_who_70 (by decide) ?_
        have e : fs_wh (fun u => fs_has hu hg nd N n r u) qq (m + 1) u c = fs_wh (fun u => fs_has hu hg nd N n r u) qq m (u + 1) c := by rw [fs_wh, if_neg (by rw [bI_0.mp q2]; decide)]
        rw [e]
        exact ih (u + 1) c (by omega) (by omega) _ rfl
      · have hP := ts_nf (fun z => q2 (bI_0.mpr z))
        refine fr_iload (pc := 55) d_FR_who_55 rfl ?_
        refine fr_iload_n (pc := 57) d_FR_who_57 rfl rfl ?_
        refine fr_icmp_ne (pc := 58) (tgt := 64) d_FR_who_58 (by decide) (fun q3 => ?_) (fun q3 => ?_)
        · have hne : ¬ c = qq := fun z => q3 (by rw [z])
          refine fr_iinc (pc := 64) (v := (nI (c + 1))) (L2 := [(0, .ref o), (1, .int (nI n)), (2, .int (nI r)), (3, .int (nI qq)), (4, .ref a), (5, .long (fs_hs nd f4 N n r (if r = 7 then (1 : Int64) <<< ((nI N.2.2.1).toInt64 &&& 63) else 0) (if r = 7 then (1 : Int64) <<< ((nI N.2.2.1).toInt64 &&& 63) else 0) (fs_ls nd n))), (7, .int (nI (c + 1))), (8, .int (nI u))]) d_FR_who_64 rfl (fi_1 _) (by decide) rfl ?_
          refine fr_iinc (pc := 67) (v := (nI (u + 1))) (L2 := [(0, .ref o), (1, .int (nI n)), (2, .int (nI r)), (3, .int (nI qq)), (4, .ref a), (5, .long (fs_hs nd f4 N n r (if r = 7 then (1 : Int64) <<< ((nI N.2.2.1).toInt64 &&& 63) else 0) (if r = 7 then (1 : Int64) <<< ((nI N.2.2.1).toInt64 &&& 63) else 0) (fs_ls nd n))), (7, .int (nI (c + 1))), (8, .int (nI (u + 1)))]) d_FR_who_67 rfl (fi_1 _) (by decide) rfl ?_
          refine fr_goto (pc := 70) (tgt := 36) d_FR_who_70 (by decide) ?_
          have e : fs_wh (fun u => fs_has hu hg nd N n r u) qq (m + 1) u c = fs_wh (fun u => fs_has hu hg nd N n r u) qq m (u + 1) (c + 1) := by rw [fs_wh, if_pos hP, if_neg hne]
          rw [e]
          exact ih (u + 1) (c + 1) (by omega) (by omega) _ rfl
        · have heq : c = qq := (ni_eq (by omega) hq).mp q3
          refine fr_iload (pc := 61) d_FR_who_61 rfl ?_
          refine fr_st (st2 := [.int (fs_ov (fs_wh (fun u => fs_has hu hg nd N n r u) qq (m + 1) u c))]) (by rw [fs_wh, if_pos hP, if_pos heq]; rfl) ?_
          exact fr_iret rfl d_FR_who_63 ⟨rfl, rfl⟩
theorem p_FR_who_ok {g : fw_G} {w : fw_W} {o gr a1 a2 a3 a4 na us n : Nat} {hu hg : Nat → Nat → Bool} {nd : fs_D} (hX : fs_X g (o, gr, a1, a2, a3, a4, na) (us, n, hu, hg, nd) w) {k : Nat} {N : fs_N} (hk : nd k = some N) {r qq : Nat} (hr8 : r < 8) (hq : qq < 2 ^ 31) : fw_R g m_FR_who (fs_P g (o, gr, a1, a2, a3, a4, na) w (.inl (some (.int (fs_ov (fs_wh (fun u => fs_has hu hg (va_up nd k (some (fs_st N false))) (fs_st N false) k r u) qq us 0 0))))) (us, n, hu, hg, (va_up nd k (some (fs_st N false))))) 3 18 w 0 [(0, .ref o), (1, .int (nI k)), (2, .int (nI r)), (3, .int (nI qq))] [] := by
  obtain ⟨f1, f2, f3, f4, ad, lq, ld, lc, lt, hok, h0, hG, hR, hN, hr⟩ := fs_X_el hX
  have hb : n < 2 ^ 31 := by have := hok.2.2.1; omega
  have hb2 : us < 2 ^ 31 := by have := hok.2.1; omega
  obtain ⟨hk150, a, ha, hc, hl, hE⟩ := hr.2.1 k N hk
  obtain ⟨-, hk0, how, hlen, hes, hch, hdep⟩ := hok.2.2.2.2 k N hk
  have hF1 := fs_F2_up (x := .inr (2, fs_nc k (fs_st N false) (lq k) (N.2.1.bind ad))) fs_F2_id hc
  have hr1 := fs_rN_put hr (N2 := fs_st N false) hk ha rfl
  have hok1 := fs_ok_up hok (N2 := fs_st N false) hk rfl how hlen hes
  have h01 := fs_F2_3 hF1 _ h0 (fun fs z => by cases z)
  have hG1 := fs_gr_fr hG (fun b e hb h1 _ => fs_F2_3 hF1 b hb (fun fs z => by have := h1 2 fs z; omega))
  have hE1 : ∀ v r u, fw_pv v (fw_up w a (.inr (2, fs_nc k (fs_st N false) (lq k) (N.2.1.bind ad)))) r u → fs_P g (o, gr, a1, a2, a3, a4, na) w (.inl (some v)) (us, n, hu, hg, (va_up nd k (some (fs_st N false)))) r u := by
    rintro v r u ⟨e1, e2⟩
    subst e2
    exact ⟨e1, fs_X_F2 hok1 h0 hG hR hN hF1 hr1, fs_F2_Fr hF1⟩
  refine fr_aload_n (pc := 0) d_FR_who_0 rfl rfl ?_
  refine fr_iload_n (pc := 1) d_FR_who_1 rfl rfl ?_
  refine fr_callv_p (pc := 2) (nc := 2) (ns := 12) (N := m_FR_nodeAt) (rest := []) (as := [.int (nI k)]) d_FR_who_2 vc_FR_63 ⟨by decide, by decide, Nat.le_of_ble_eq_true rfl⟩ (Nat.le_of_ble_eq_true rfl) h0 (c_FR_nodeAt h0 hN hk150 ha) rfl ?_
  refine fr_astore (pc := 5) (L2 := [(0, .ref o), (1, .int (nI k)), (2, .int (nI r)), (3, .int (nI qq)), (4, .ref a)]) d_FR_who_5 (by decide) rfl ?_
  refine fr_iload_n (pc := 7) d_FR_who_7 rfl rfl ?_
  refine fr_calls_n (pc := 8) (nc := 1) (ns := 6) (N := m_FR_requireRight) (rest := []) (as := [.int (nI r)]) d_FR_who_8 k_FR_requireRight lk_FR_167 sc_FR_requireRight np_FR_requireRight ⟨by decide, by decide, Nat.le_of_ble_eq_true rfl⟩ (Nat.le_of_ble_eq_true rfl) (c_FR_requireRight hr8) rfl ?_
  refine fr_iload_n (pc := 11) d_FR_who_11 rfl rfl ?_
  refine fr_calls_n (pc := 12) (nc := 0) (ns := 0) (N := m_FR_requirePlace) (rest := []) (as := [.int (nI qq)]) d_FR_who_12 k_FR_requirePlace lk_FR_193 sc_FR_requirePlace np_FR_requirePlace ⟨by decide, by decide, Nat.le_of_ble_eq_true rfl⟩ (Nat.le_of_ble_eq_true rfl) (c_FR_requirePlace (ix_nn hq)) rfl ?_
  refine fr_aload (pc := 15) d_FR_who_15 rfl ?_
  refine fr_iconst (pc := 17) (v := 0) d_FR_who_17 (by decide) ?_
  refine fr_put (pc := 18) (fs2 := fs_nc k (fs_st N false) (lq k) (N.2.1.bind ad)) d_FR_who_18 fp_FR_who_110 hc (Nat.le_of_ble_eq_true rfl) rfl rfl rfl ?_
  refine fr_aload_n (pc := 21) d_FR_who_21 rfl rfl ?_
  refine fr_aload (pc := 22) d_FR_who_22 rfl ?_
  refine fr_iload_n (pc := 24) d_FR_who_24 rfl rfl ?_
  refine fr_callv_p (pc := 25) (nc := 0) (ns := 0) (N := m_FR_holders) (rest := []) (as := [.ref a, .int (nI r)]) d_FR_who_25 vc_FR_159 ⟨by decide, by decide, Nat.le_of_ble_eq_true rfl⟩ (Nat.le_of_ble_eq_true rfl) h01 (c_FR_hold h01 hG1 hr1 hok1 vu_self ha hr8) rfl ?_
  refine fr_lstore (pc := 28) (L2 := [(0, .ref o), (1, .int (nI k)), (2, .int (nI r)), (3, .int (nI qq)), (4, .ref a), (5, .long (fs_hs (va_up nd k (some (fs_st N false))) f4 (fs_st N false) k r (if r = 7 then (1 : Int64) <<< ((nI (fs_st N false).2.2.1).toInt64 &&& 63) else 0) (if r = 7 then (1 : Int64) <<< ((nI (fs_st N false).2.2.1).toInt64 &&& 63) else 0) (fs_ls (va_up nd k (some (fs_st N false))) k)))]) d_FR_who_28 (by decide) rfl ?_
  refine fr_iconst (pc := 30) (v := 0) d_FR_who_30 (by decide) ?_
  refine fr_istore (pc := 31) (L2 := [(0, .ref o), (1, .int (nI k)), (2, .int (nI r)), (3, .int (nI qq)), (4, .ref a), (5, .long (fs_hs (va_up nd k (some (fs_st N false))) f4 (fs_st N false) k r (if r = 7 then (1 : Int64) <<< ((nI (fs_st N false).2.2.1).toInt64 &&& 63) else 0) (if r = 7 then (1 : Int64) <<< ((nI (fs_st N false).2.2.1).toInt64 &&& 63) else 0) (fs_ls (va_up nd k (some (fs_st N false))) k))), (7, .int 0)]) d_FR_who_31 (by decide) rfl ?_
  refine fr_iconst (pc := 33) (v := 0) d_FR_who_33 (by decide) ?_
  refine fr_istore (pc := 34) (L2 := [(0, .ref o), (1, .int (nI k)), (2, .int (nI r)), (3, .int (nI qq)), (4, .ref a), (5, .long (fs_hs (va_up nd k (some (fs_st N false))) f4 (fs_st N false) k r (if r = 7 then (1 : Int64) <<< ((nI (fs_st N false).2.2.1).toInt64 &&& 63) else 0) (if r = 7 then (1 : Int64) <<< ((nI (fs_st N false).2.2.1).toInt64 &&& 63) else 0) (fs_ls (va_up nd k (some (fs_st N false))) k))), (7, .int 0), (8, .int 0)]) d_FR_who_34 (by decide) rfl ?_
  exact fr_po (hE1 _) (c_FR_who_l h01 hG1 hr1 hok1 hR vu_self ha hq us 0 0 (Nat.zero_add _) (Nat.le_refl _) _ rfl)
theorem p_FR_who_n1 {g : fw_G} {w : fw_W} {o gr a1 a2 a3 a4 na us n : Nat} {hu hg : Nat → Nat → Bool} {nd : fs_D} (hX : fs_X g (o, gr, a1, a2, a3, a4, na) (us, n, hu, hg, nd) w) {x y z : Int32} (hx : ∀ k, x = nI k → nd k = none) : fw_R g m_FR_who (fs_P g (o, gr, a1, a2, a3, a4, na) w (.inr "java/util/NoSuchElementException") (us, n, hu, hg, nd)) 3 18 w 0 [(0, .ref o), (1, .int x), (2, .int y), (3, .int z)] [] := by
  obtain ⟨f1, f2, f3, f4, ad, lq, ld, lc, lt, hok, h0, hG, hR, hN, hr⟩ := fs_X_el hX
  have hb : n < 2 ^ 31 := by have := hok.2.2.1; omega
  have hb2 : us < 2 ^ 31 := by have := hok.2.1; omega
  refine fr_aload_n (pc := 0) d_FR_who_0 rfl rfl ?_
  refine fr_iload_n (pc := 1) d_FR_who_1 rfl rfl ?_
  refine fr_callv_x (pc := 2) (nc := 2) (ns := 12) (N := m_FR_nodeAt) (rest := []) (as := [.int x]) d_FR_who_2 vc_FR_63 ⟨by decide, by decide, Nat.le_of_ble_eq_true rfl⟩ (Nat.le_of_ble_eq_true rfl) h0 (x_FR_nodeAt h0 hN (fun k _ e => hr.1 k (hx k e))) rfl ?_
  exact fx_out (by decide) ⟨rfl, hX, fs_Fr_id⟩
theorem p_FR_who_n2 {g : fw_G} {w : fw_W} {o gr a1 a2 a3 a4 na us n : Nat} {hu hg : Nat → Nat → Bool} {nd : fs_D} (hX : fs_X g (o, gr, a1, a2, a3, a4, na) (us, n, hu, hg, nd) w) {k : Nat} {N : fs_N} (hk : nd k = some N) {y z : Int32} (hy : fs_no2 y 8) : fw_R g m_FR_who (fs_P g (o, gr, a1, a2, a3, a4, na) w (.inr "java/lang/IllegalArgumentException") (us, n, hu, hg, nd)) 3 18 w 0 [(0, .ref o), (1, .int (nI k)), (2, .int y), (3, .int z)] [] := by
  obtain ⟨f1, f2, f3, f4, ad, lq, ld, lc, lt, hok, h0, hG, hR, hN, hr⟩ := fs_X_el hX
  have hb : n < 2 ^ 31 := by have := hok.2.2.1; omega
  have hb2 : us < 2 ^ 31 := by have := hok.2.1; omega
  obtain ⟨hk150, a, ha, hc, hl, hE⟩ := hr.2.1 k N hk
  obtain ⟨-, hk0, how, hlen, hes, hch, hdep⟩ := hok.2.2.2.2 k N hk
  refine fr_aload_n (pc := 0) d_FR_who_0 rfl rfl ?_
  refine fr_iload_n (pc := 1) d_FR_who_1 rfl rfl ?_
  refine fr_callv_p (pc := 2) (nc := 2) (ns := 12) (N := m_FR_nodeAt) (rest := []) (as := [.int (nI k)]) d_FR_who_2 vc_FR_63 ⟨by decide, by decide, Nat.le_of_ble_eq_true rfl⟩ (Nat.le_of_ble_eq_true rfl) h0 (c_FR_nodeAt h0 hN hk150 ha) rfl ?_
  refine fr_astore (pc := 5) (L2 := [(0, .ref o), (1, .int (nI k)), (2, .int y), (3, .int z), (4, .ref a)]) d_FR_who_5 (by decide) rfl ?_
  refine fr_iload_n (pc := 7) d_FR_who_7 rfl rfl ?_
  refine fr_calls_x (pc := 8) (nc := 1) (ns := 6) (N := m_FR_requireRight) (rest := []) (as := [.int y]) d_FR_who_8 k_FR_requireRight lk_FR_167 sc_FR_requireRight np_FR_requireRight ⟨by decide, by decide, Nat.le_of_ble_eq_true rfl⟩ (Nat.le_of_ble_eq_true rfl) (x_FR_requireRight hy) rfl ?_
  exact fx_out (by decide) ⟨rfl, hX, fs_Fr_id⟩
theorem p_FR_who_n3 {g : fw_G} {w : fw_W} {o gr a1 a2 a3 a4 na us n : Nat} {hu hg : Nat → Nat → Bool} {nd : fs_D} (hX : fs_X g (o, gr, a1, a2, a3, a4, na) (us, n, hu, hg, nd) w) {k : Nat} {N : fs_N} (hk : nd k = some N) {r : Nat} {z : Int32} (hr8 : r < 8) (hz : z < 0) : fw_R g m_FR_who (fs_P g (o, gr, a1, a2, a3, a4, na) w (.inr "java/lang/IllegalArgumentException") (us, n, hu, hg, nd)) 3 18 w 0 [(0, .ref o), (1, .int (nI k)), (2, .int (nI r)), (3, .int z)] [] := by
  obtain ⟨f1, f2, f3, f4, ad, lq, ld, lc, lt, hok, h0, hG, hR, hN, hr⟩ := fs_X_el hX
  have hb : n < 2 ^ 31 := by have := hok.2.2.1; omega
  have hb2 : us < 2 ^ 31 := by have := hok.2.1; omega
  obtain ⟨hk150, a, ha, hc, hl, hE⟩ := hr.2.1 k N hk
  obtain ⟨-, hk0, how, hlen, hes, hch, hdep⟩ := hok.2.2.2.2 k N hk
  refine fr_aload_n (pc := 0) d_FR_who_0 rfl rfl ?_
  refine fr_iload_n (pc := 1) d_FR_who_1 rfl rfl ?_
  refine fr_callv_p (pc := 2) (nc := 2) (ns := 12) (N := m_FR_nodeAt) (rest := []) (as := [.int (nI k)]) d_FR_who_2 vc_FR_63 ⟨by decide, by decide, Nat.le_of_ble_eq_true rfl⟩ (Nat.le_of_ble_eq_true rfl) h0 (c_FR_nodeAt h0 hN hk150 ha) rfl ?_
  refine fr_astore (pc := 5) (L2 := [(0, .ref o), (1, .int (nI k)), (2, .int (nI r)), (3, .int z), (4, .ref a)]) d_FR_who_5 (by decide) rfl ?_
  refine fr_iload_n (pc := 7) d_FR_who_7 rfl rfl ?_
  refine fr_calls_n (pc := 8) (nc := 1) (ns := 6) (N := m_FR_requireRight) (rest := []) (as := [.int (nI r)]) d_FR_who_8 k_FR_requireRight lk_FR_167 sc_FR_requireRight np_FR_requireRight ⟨by decide, by decide, Nat.le_of_ble_eq_true rfl⟩ (Nat.le_of_ble_eq_true rfl) (c_FR_requireRight hr8) rfl ?_
  refine fr_iload_n (pc := 11) d_FR_who_11 rfl rfl ?_
  refine fr_calls_x (pc := 12) (nc := 0) (ns := 0) (N := m_FR_requirePlace) (rest := []) (as := [.int z]) d_FR_who_12 k_FR_requirePlace lk_FR_193 sc_FR_requirePlace np_FR_requirePlace ⟨by decide, by decide, Nat.le_of_ble_eq_true rfl⟩ (Nat.le_of_ble_eq_true rfl) (x_FR_requirePlace hz) rfl ?_
  exact fx_out (by decide) ⟨rfl, hX, fs_Fr_id⟩

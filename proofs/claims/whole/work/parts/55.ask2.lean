theorem bb_cmp2 (x y : Int64) : lg_cmp x y = 0 ↔ x = y := by
  unfold lg_cmp
  by_cases h1 : x > y
  · rw [if_pos h1]
    constructor
    · intro h; cases h
    · intro h; subst h; exact absurd h1 (Int64.lt_irrefl)
  · rw [if_neg h1]
    by_cases h2 : x = y
    · rw [if_pos h2]; simp [h2]
    · rw [if_neg h2]
      constructor
      · intro h; cases h
      · intro h; exact absurd h h2
def fs_al (P : Nat → Bool) : Nat → Nat → Bool
  | 0, _ => true
  | m + 1, r => P r && fs_al P m (r + 1)
noncomputable def fs_eq (hu hg : Nat → Nat → Bool) (us : Nat) (nd : fs_D) (NA : fs_N) (ka : Nat) (NB : fs_N) (kb r : Nat) : Bool := (List.range us).all (fun u => fs_has hu hg nd NA ka r u == fs_has hu hg nd NB kb r u)
theorem fs_eq_l {hu hg : Nat → Nat → Bool} {us ng : Nat} {f1 f2 f3 f4 : Nat → Int64} {nd : fs_D} {NA NB : fs_N} {ka kb r : Nat} (hR : gr_rep hu hg ng us f1 f2 f3 f4) (hok : fs_ok us ng nd) (hA : nd ka = some NA) (hB : nd kb = some NB) : (fs_hs nd f4 NA ka r (if r = 7 then (1 : Int64) <<< ((nI NA.2.2.1).toInt64 &&& 63) else 0) (if r = 7 then (1 : Int64) <<< ((nI NA.2.2.1).toInt64 &&& 63) else 0) (fs_ls nd ka)) = (fs_hs nd f4 NB kb r (if r = 7 then (1 : Int64) <<< ((nI NB.2.2.1).toInt64 &&& 63) else 0) (if r = 7 then (1 : Int64) <<< ((nI NB.2.2.1).toInt64 &&& 63) else 0) (fs_ls nd kb)) ↔ fs_eq hu hg us nd NA ka NB kb r = true := by
  have hus := hok.2.1
  unfold fs_eq
  rw [List.all_eq_true]
  constructor
  · intro h u hu2
    have hu3 := List.mem_range.mp hu2
    rw [← fs_hold_b hR hok hA (by omega), ← fs_hold_b hR hok hB (by omega), h]
    exact beq_self_eq_true _
  · intro h
    apply bb_ext
    intro u hu64
    rw [fs_hold_b hR hok hA hu64, fs_hold_b hR hok hB hu64]
    by_cases hu3 : u < us
    · exact beq_iff_eq.mp (h u (List.mem_range.mpr hu3))
    · have h1 : fs_has hu hg nd NA ka r u = false := by
        cases hh : fs_has hu hg nd NA ka r u with
        | false => rfl
        | true => exact absurd (fs_hold_0 hR hok hA hh) hu3
      have h2 : fs_has hu hg nd NB kb r u = false := by
        cases hh : fs_has hu hg nd NB kb r u with
        | false => rfl
        | true => exact absurd (fs_hold_0 hR hok hB hh) hu3
      rw [h1, h2]
theorem fs_st_at {nd : fs_D} {ka kb : Nat} {NA NB : fs_N} (hA : nd ka = some NA) (hB : nd kb = some NB) : ∃ M, va_up nd ka (some (fs_st NA false)) kb = some M ∧ fs_st M false = fs_st NB false := by
  by_cases e : kb = ka
  · subst e
    rw [hA] at hB; cases hB
    exact ⟨_, vu_self, rfl⟩
  · exact ⟨NB, by rw [vu_ne e]; exact hB, rfl⟩
theorem fs_st_at2 {nd : fs_D} {ka kb : Nat} {NA NB : fs_N} (hA : nd ka = some NA) (hB : nd kb = some NB) : va_up (va_up nd ka (some (fs_st NA false))) kb (some (fs_st NB false)) ka = some (fs_st NA false) := by
  by_cases e : ka = kb
  · subst e
    rw [hA] at hB; cases hB
    exact vu_self
  · rw [vu_ne e, vu_self]
theorem c_FR_same_l {g : fw_G} {nc ns : Nat} {w : fw_W} {o gr na us : Nat} (h0 : w o = some (.inr (0, [.ref gr, .ref na, .int (nI us)]))) {ng a1 a2 a3 a4 : Nat} {f1 f2 f3 f4 : Nat → Int64} (hG : gr_at g w gr a1 a2 a3 a4 ng f1 f2 f3 f4) {nd : fs_D} {ad : Nat → Option Nat} {lq ld lc : Nat → Nat} {lt : Nat → List Nat} (hr : fs_rN g w nd ad lq ld lc lt) (hok : fs_ok us ng nd) {hu hg : Nat → Nat → Bool} (hR : gr_rep hu hg ng us f1 f2 f3 f4) {ka kb pa pb : Nat} {NA NB : fs_N} (hA : nd ka = some NA) (hB : nd kb = some NB) (ha : ad ka = some pa) (hb : ad kb = some pb) : ∀ m r, r + m = 8 → ∀ L : List (Nat × Value), L = [(0, .ref o), (1, .int (nI ka)), (2, .int (nI kb)), (3, .ref pa), (4, .ref pb), (5, .int (nI r))] → fw_R g m_FR_same (fw_pv (.int (bI (fs_al (fs_eq hu hg us nd NA ka NB kb) m r))) w) nc ns w 27 L [] := by
  intro m
  induction m with
  | zero =>
    intro r hi L hL
    have hk2 : r = 8 := by omega
    subst hk2 hL
    refine fr_iload (pc := 27) d_FR_same_27 rfl ?_
    refine fr_bipush (pc := 29) (v := 8) d_FR_same_29 (by decide) ?_
    refine fr_icmp_ge (pc := 31) (tgt := 61) d_FR_same_31 (by decide) (fun q => ?_) (fun q => ?_)
    · refine fr_iconst (pc := 61) (v := 1) d_FR_same_61 (by decide) ?_
      refine fr_st (st2 := [.int (bI true)]) rfl ?_
      exact fr_zret rfl (by first | exact bI_01 _ | exact Or.inl rfl | exact Or.inr rfl) d_FR_same_62 ⟨rfl, rfl⟩
    · exact absurd ((ni_le (a := 8) (b := 8) (by omega) (by omega)).mpr (by omega)) q
  | succ m ih =>
    intro r hi L hL
    subst hL
    refine fr_iload (pc := 27) d_FR_same_27 rfl ?_
    refine fr_bipush (pc := 29) (v := 8) d_FR_same_29 (by decide) ?_
    refine fr_icmp_ge (pc := 31) (tgt := 61) d_FR_same_31 (by decide) (fun q => ?_) (fun q => ?_)
    · exact absurd ((ni_le (a := 8) (by omega) (by omega)).mp q) (by omega)
    · refine fr_aload_n (pc := 34) d_FR_same_34 rfl rfl ?_
      refine fr_aload_n (pc := 35) d_FR_same_35 rfl rfl ?_
      refine fr_iload (pc := 36) d_FR_same_36 rfl ?_
      refine fr_callv_p (pc := 38) (nc := nc) (ns := ns) (N := m_FR_holders) (rest := []) (as := [.ref pa, .int (nI r)]) d_FR_same_38 vc_FR_159 ⟨by decide, by decide, Nat.le_of_ble_eq_true rfl⟩ (Nat.le_of_ble_eq_true rfl) h0 (c_FR_hold h0 hG hr hok hA ha (by omega)) rfl ?_
      refine fr_aload_n (pc := 41) d_FR_same_41 rfl rfl ?_
      refine fr_aload (pc := 42) d_FR_same_42 rfl ?_
      refine fr_iload (pc := 44) d_FR_same_44 rfl ?_
      refine fr_callv_p (pc := 46) (nc := nc) (ns := ns) (N := m_FR_holders) (rest := [.long (fs_hs nd f4 NA ka r (if r = 7 then (1 : Int64) <<< ((nI NA.2.2.1).toInt64 &&& 63) else 0) (if r = 7 then (1 : Int64) <<< ((nI NA.2.2.1).toInt64 &&& 63) else 0) (fs_ls nd ka))]) (as := [.ref pb, .int (nI r)]) d_FR_same_46 vc_FR_159 ⟨by decide, by decide, Nat.le_of_ble_eq_true rfl⟩ (Nat.le_of_ble_eq_true rfl) h0 (c_FR_hold h0 hG hr hok hB hb (by omega)) rfl ?_
      refine fr_lcmp (pc := 49) d_FR_same_49 ?_
      refine fr_if_eq (pc := 50) (tgt := 55) d_FR_same_50 (by decide) (fun q2 => ?_) (fun q2 => ?_)
      · have hE := (fs_eq_l hR hok hA hB).mp ((bb_cmp2 _ _).mp q2)
        refine fr_iinc (pc := 55) (v := (nI (r + 1))) (L2 := [(0, .ref o), (1, .int (nI ka)), (2, .int (nI kb)), (3, .ref pa), (4, .ref pb), (5, .int (nI (r + 1)))]) d_FR_same_55 rfl (fi_1 _) (by decide) rfl ?_
        refine fr_goto (pc := 58) (tgt := 27) d_FR_same_58 (by decide) ?_
        have e : fs_al (fs_eq hu hg us nd NA ka NB kb) (m + 1) r = fs_al (fs_eq hu hg us nd NA ka NB kb) m (r + 1) := by rw [fs_al, hE, Bool.true_and]
        rw [e]
        exact ih (r + 1) (by omega) _ rfl
      · have hE : fs_eq hu hg us nd NA ka NB kb r = false := by
          cases hh : fs_eq hu hg us nd NA ka NB kb r with
          | false => rfl
          | true => exact absurd ((bb_cmp2 _ _).mpr ((fs_eq_l hR hok hA hB).mpr hh)) q2
        refine fr_iconst (pc := 53) (v := 0) d_FR_same_53 (by decide) ?_
        refine fr_st (st2 := [.int (bI (fs_al (fs_eq hu hg us nd NA ka NB kb) (m + 1) r))]) (by rw [fs_al, hE]; rfl) ?_
        exact fr_zret rfl (by first | exact bI_01 _ | exact Or.inl rfl | exact Or.inr rfl) d_FR_same_54 ⟨rfl, rfl⟩
theorem p_FR_same_ok {g : fw_G} {w : fw_W} {o gr a1 a2 a3 a4 na us n : Nat} {hu hg : Nat → Nat → Bool} {nd : fs_D} (hX : fs_X g (o, gr, a1, a2, a3, a4, na) (us, n, hu, hg, nd) w) {ka kb : Nat} {NA NB : fs_N} (hA : nd ka = some NA) (hB : nd kb = some NB) : fw_R g m_FR_same (fs_P g (o, gr, a1, a2, a3, a4, na) w (.inl (some (.int (bI (fs_al (fs_eq hu hg us (va_up (va_up nd ka (some (fs_st NA false))) kb (some (fs_st NB false))) (fs_st NA false) ka (fs_st NB false) kb) 8 0))))) (us, n, hu, hg, (va_up (va_up nd ka (some (fs_st NA false))) kb (some (fs_st NB false))))) 2 12 w 0 [(0, .ref o), (1, .int (nI ka)), (2, .int (nI kb))] [] := by
  obtain ⟨f1, f2, f3, f4, ad, lq, ld, lc, lt, hok, h0, hG, hR, hN, hr⟩ := fs_X_el hX
  have hb : n < 2 ^ 31 := by have := hok.2.2.1; omega
  have hb2 : us < 2 ^ 31 := by have := hok.2.1; omega
  obtain ⟨hka, pa, ha, hca, -, -⟩ := hr.2.1 ka NA hA
  obtain ⟨hkb, pb, hbb, hcb, -, -⟩ := hr.2.1 kb NB hB
  obtain ⟨-, -, how, hlen, hes, -, -⟩ := hok.2.2.2.2 ka NA hA
  obtain ⟨M, hM, hMs⟩ := fs_st_at hA hB
  have hF1 := fs_F2_up (x := .inr (2, fs_nc ka (fs_st NA false) (lq ka) (NA.2.1.bind ad))) fs_F2_id hca
  have hr1 := fs_rN_put hr (N2 := fs_st NA false) hA ha rfl
  have hok1 := fs_ok_up hok (N2 := fs_st NA false) hA rfl how hlen hes
  obtain ⟨-, p9, hp9, hcb1, -, -⟩ := hr1.2.1 kb M hM
  rw [hbb] at hp9; cases hp9
  obtain ⟨-, -, how2, hlen2, hes2, -, -⟩ := hok1.2.2.2.2 kb M hM
  have hF2 := fs_F2_up2 (x := .inr (2, fs_nc kb (fs_st M false) (lq kb) (M.2.1.bind ad))) hF1 hcb1
  have hr2 := fs_rN_put hr1 (N2 := fs_st M false) hM hbb rfl
  have hok2 := fs_ok_up hok1 (N2 := fs_st M false) hM rfl how2 hlen2 hes2
  have h02 := fs_F2_3 hF2 _ h0 (fun fs z => by cases z)
  have hG2 := fs_gr_fr hG (fun b e hb h1 _ => fs_F2_3 hF2 b hb (fun fs z => by have := h1 2 fs z; omega))
  refine fr_aload_n (pc := 0) d_FR_same_0 rfl rfl ?_
  refine fr_iload_n (pc := 1) d_FR_same_1 rfl rfl ?_
  refine fr_callv_p (pc := 2) (nc := 1) (ns := 6) (N := m_FR_nodeAt) (rest := []) (as := [.int (nI ka)]) d_FR_same_2 vc_FR_63 ⟨by decide, by decide, Nat.le_of_ble_eq_true rfl⟩ (Nat.le_of_ble_eq_true rfl) h0 (c_FR_nodeAt h0 hN hka ha) rfl ?_
  refine fr_astore_n (pc := 5) (L2 := [(0, .ref o), (1, .int (nI ka)), (2, .int (nI kb)), (3, .ref pa)]) d_FR_same_5 rfl (by decide) rfl ?_
  refine fr_aload_n (pc := 6) d_FR_same_6 rfl rfl ?_
  refine fr_iload_n (pc := 7) d_FR_same_7 rfl rfl ?_
  refine fr_callv_p (pc := 8) (nc := 0) (ns := 0) (N := m_FR_nodeAt) (rest := []) (as := [.int (nI kb)]) d_FR_same_8 vc_FR_63 ⟨by decide, by decide, Nat.le_of_ble_eq_true rfl⟩ (Nat.le_of_ble_eq_true rfl) h0 (c_FR_nodeAt h0 hN hkb hbb) rfl ?_
  refine fr_astore (pc := 11) (L2 := [(0, .ref o), (1, .int (nI ka)), (2, .int (nI kb)), (3, .ref pa), (4, .ref pb)]) d_FR_same_11 (by decide) rfl ?_
  refine fr_aload_n (pc := 13) d_FR_same_13 rfl rfl ?_
  refine fr_iconst (pc := 14) (v := 0) d_FR_same_14 (by decide) ?_
  refine fr_put (pc := 15) (fs2 := fs_nc ka (fs_st NA false) (lq ka) (NA.2.1.bind ad)) d_FR_same_15 fp_FR_same_110 hca (Nat.le_of_ble_eq_true rfl) rfl rfl rfl ?_
  refine fr_aload (pc := 18) d_FR_same_18 rfl ?_
  refine fr_iconst (pc := 20) (v := 0) d_FR_same_20 (by decide) ?_
  refine fr_put (pc := 21) (fs2 := fs_nc kb (fs_st M false) (lq kb) (M.2.1.bind ad)) d_FR_same_21 fp_FR_same_110 hcb1 (Nat.le_of_ble_eq_true rfl) rfl rfl rfl ?_
  refine fr_iconst (pc := 24) (v := 0) d_FR_same_24 (by decide) ?_
  refine fr_istore (pc := 25) (L2 := [(0, .ref o), (1, .int (nI ka)), (2, .int (nI kb)), (3, .ref pa), (4, .ref pb), (5, .int 0)]) d_FR_same_25 (by decide) rfl ?_
  have hXX := fs_X_F2 hok2 h0 hG hR hN hF2 hr2
  have hnd : va_up (va_up nd ka (some (fs_st NA false))) kb (some (fs_st M false)) = va_up (va_up nd ka (some (fs_st NA false))) kb (some (fs_st NB false)) := by rw [hMs]
  rw [hnd] at hr2 hok2 hXX
  exact fr_po (fun r u h => by obtain ⟨e1, e2⟩ := h; subst e2; exact ⟨e1, hXX, fs_F2_Fr hF2⟩) (c_FR_same_l h02 hG2 hr2 hok2 hR (fs_st_at2 hA hB) vu_self ha hbb 8 0 rfl _ rfl)
theorem p_FR_same_n1 {g : fw_G} {w : fw_W} {o gr a1 a2 a3 a4 na us n : Nat} {hu hg : Nat → Nat → Bool} {nd : fs_D} (hX : fs_X g (o, gr, a1, a2, a3, a4, na) (us, n, hu, hg, nd) w) {x y : Int32} (hx : ∀ k, x = nI k → nd k = none) : fw_R g m_FR_same (fs_P g (o, gr, a1, a2, a3, a4, na) w (.inr "java/util/NoSuchElementException") (us, n, hu, hg, nd)) 2 12 w 0 [(0, .ref o), (1, .int x), (2, .int y)] [] := by
  obtain ⟨f1, f2, f3, f4, ad, lq, ld, lc, lt, hok, h0, hG, hR, hN, hr⟩ := fs_X_el hX
  have hb : n < 2 ^ 31 := by have := hok.2.2.1; omega
  have hb2 : us < 2 ^ 31 := by have := hok.2.1; omega
  refine fr_aload_n (pc := 0) d_FR_same_0 rfl rfl ?_
  refine fr_iload_n (pc := 1) d_FR_same_1 rfl rfl ?_
  refine fr_callv_x (pc := 2) (nc := 1) (ns := 6) (N := m_FR_nodeAt) (rest := []) (as := [.int x]) d_FR_same_2 vc_FR_63 ⟨by decide, by decide, Nat.le_of_ble_eq_true rfl⟩ (Nat.le_of_ble_eq_true rfl) h0 (x_FR_nodeAt h0 hN (fun k _ e => hr.1 k (hx k e))) rfl ?_
  exact fx_out (by decide) ⟨rfl, hX, fs_Fr_id⟩
theorem p_FR_same_n2 {g : fw_G} {w : fw_W} {o gr a1 a2 a3 a4 na us n : Nat} {hu hg : Nat → Nat → Bool} {nd : fs_D} (hX : fs_X g (o, gr, a1, a2, a3, a4, na) (us, n, hu, hg, nd) w) {k : Nat} {N : fs_N} (hk : nd k = some N) {x : Int32} (hx : ∀ k, x = nI k → nd k = none) : fw_R g m_FR_same (fs_P g (o, gr, a1, a2, a3, a4, na) w (.inr "java/util/NoSuchElementException") (us, n, hu, hg, nd)) 2 12 w 0 [(0, .ref o), (1, .int (nI k)), (2, .int x)] [] := by
  obtain ⟨f1, f2, f3, f4, ad, lq, ld, lc, lt, hok, h0, hG, hR, hN, hr⟩ := fs_X_el hX
  have hb : n < 2 ^ 31 := by have := hok.2.2.1; omega
  have hb2 : us < 2 ^ 31 := by have := hok.2.1; omega
  obtain ⟨hk150, a, ha, hc, hl, hE⟩ := hr.2.1 k N hk
  obtain ⟨-, hk0, how, hlen, hes, hch, hdep⟩ := hok.2.2.2.2 k N hk
  refine fr_aload_n (pc := 0) d_FR_same_0 rfl rfl ?_
  refine fr_iload_n (pc := 1) d_FR_same_1 rfl rfl ?_
  refine fr_callv_p (pc := 2) (nc := 1) (ns := 6) (N := m_FR_nodeAt) (rest := []) (as := [.int (nI k)]) d_FR_same_2 vc_FR_63 ⟨by decide, by decide, Nat.le_of_ble_eq_true rfl⟩ (Nat.le_of_ble_eq_true rfl) h0 (c_FR_nodeAt h0 hN hk150 ha) rfl ?_
  refine fr_astore_n (pc := 5) (L2 := [(0, .ref o), (1, .int (nI k)), (2, .int x), (3, .ref a)]) d_FR_same_5 rfl (by decide) rfl ?_
  refine fr_aload_n (pc := 6) d_FR_same_6 rfl rfl ?_
  refine fr_iload_n (pc := 7) d_FR_same_7 rfl rfl ?_
  refine fr_callv_x (pc := 8) (nc := 0) (ns := 0) (N := m_FR_nodeAt) (rest := []) (as := [.int x]) d_FR_same_8 vc_FR_63 ⟨by decide, by decide, Nat.le_of_ble_eq_true rfl⟩ (Nat.le_of_ble_eq_true rfl) h0 (x_FR_nodeAt h0 hN (fun k _ e => hr.1 k (hx k e))) rfl ?_
  exact fx_out (by decide) ⟨rfl, hX, fs_Fr_id⟩
def fs_xx (q : Option (Nat × Nat × Bool)) (f : Nat) : Int32 := match q with
  | some x => if f = 0 then (if x.2.2 then 1 else 2) else if f = 1 then nI x.1 else nI x.2.1
  | none => if f = 0 then 3 else if f = 1 then -1 else -1
set_option maxRecDepth 20000 in
theorem c_FR_exp_l {g : fw_G} {nc ns : Nat} {w : fw_W} {o gr na us : Nat} (h0 : w o = some (.inr (0, [.ref gr, .ref na, .int (nI us)]))) {ng a1 a2 a3 a4 : Nat} {f1 f2 f3 f4 : Nat → Int64} (hG : gr_at g w gr a1 a2 a3 a4 ng f1 f2 f3 f4) {nd : fs_D} {ad : Nat → Option Nat} {lq ld lc : Nat → Nat} {lt : Nat → List Nat} (hr : fs_rN g w nd ad lq ld lc lt) (hok : fs_ok us ng nd) {n a r u f : Nat} {N : fs_N} (hA : nd n = some N) (ha : ad n = some a) (hr8 : r < 8) (hu64 : u < 64) (hf : f < 3) : ∀ (l : List Nat) (v p : Nat), fs_ch nd v l → ad v = some p → ∀ L : List (Nat × Value), L = [(0, .ref o), (1, .int (nI u)), (2, .int (nI n)), (3, .int (nI r)), (4, .int (nI f)), (5, .ref a), (6, .ref p)] → fw_R g m_FR_explain (fw_pv (.int (fs_xx (fs_dc nd (fun i u => bb (f4 i) u) N n r u (fs_lv nd (v :: l))) f)) w) nc ns w 71 L [] := by
  intro l
  induction l with
  | nil =>
    intro v p hc hp L hL
    subst hL
    obtain ⟨V, hV⟩ : ∃ V, nd v = some V := fs_ch_some _ _ hc v (Or.inl rfl)
    obtain ⟨hv150, p0, hp0, hcp, hlp, hEp⟩ := hr.2.1 v V hV
    rw [hp] at hp0; cases hp0
    obtain ⟨mc, hl1, -⟩ := id hlp
    obtain ⟨-, -, -, hlen12, -, -⟩ := hok.2.2.2.2 v V hV
    obtain ⟨V2, hV2, hpr⟩ := hc
    rw [hV] at hV2; cases hV2
    refine fr_aload (pc := 71) d_FR_explain_71 rfl ?_
    refine fr_ifnull (pc := 73) d_FR_explain_73 ?_
    refine fr_aload_n (pc := 76) d_FR_explain_76 rfl rfl ?_
    refine fr_aload (pc := 77) d_FR_explain_77 rfl ?_
    refine fr_aload (pc := 79) d_FR_explain_79 rfl ?_
    refine fr_iload_n (pc := 81) d_FR_explain_81 rfl rfl ?_
    refine fr_iload_n (pc := 82) d_FR_explain_82 rfl rfl ?_
    refine fr_callv_p (pc := 83) (nc := nc) (ns := ns) (N := m_FR_decidingPosition) (rest := []) (as := [.ref p, .ref a, .int (nI u), .int (nI r)]) d_FR_explain_83 vc_FR_176 ⟨by decide, by decide, Nat.le_of_ble_eq_true rfl⟩ (Nat.le_of_ble_eq_true rfl) h0 (c_FR_dp h0 hG hr hok hA hV ha hp hr8 hu64) rfl ?_
    cases hL1 : fs_lv1 (fs_hit (fun i u => bb (f4 i) u) N n v r u) (fs_es nd v) with
    | some x =>
      obtain ⟨ps, b⟩ := x
      obtain ⟨E, hE1, hE2⟩ := fs_lv1_at hL1
      have hes : fs_es nd v = V.2.2.2.2.2 := by simp [fs_es, hV]
      rw [hes] at hE1
      obtain ⟨hps, -⟩ := List.getElem?_eq_some_iff.mp hE1
      obtain ⟨y, hy⟩ : ∃ y, (lt v)[ps]? = some y := ⟨_, List.getElem?_eq_getElem (by rw [hEp.1]; exact hps)⟩
      have hcy := hEp.2 ps y E hy hE1
      have e : fs_dc nd (fun i u => bb (f4 i) u) N n r u (fs_lv nd (v :: [])) = some (v, ps, b) := by
        rw [fs_lv, fs_dc, hL1]
      rw [e]
      refine fr_st (st2 := [.int (nI ps)]) rfl ?_
      refine fr_istore (pc := 86) (L2 := [(0, .ref o), (1, .int (nI u)), (2, .int (nI n)), (3, .int (nI r)), (4, .int (nI f)), (5, .ref a), (6, .ref p), (7, .int (nI ps))]) d_FR_explain_86 (by decide) rfl ?_
      refine fr_iload (pc := 88) d_FR_explain_88 rfl ?_
      refine fr_iconst (pc := 90) (v := -1) d_FR_explain_90 (by decide) ?_
      refine fr_icmp_eq (pc := 91) (tgt := 135) d_FR_explain_91 (by decide) (fun q => ?_) (fun q => ?_)
      · exact absurd q (fs_ov_ne (by omega))
      · refine fr_aload (pc := 94) d_FR_explain_94 rfl ?_
        refine fr_get (pc := 96) (v := .ref (lq v)) d_FR_explain_96 fg_FR_119 hcp rfl ?_
        refine fr_iload (pc := 99) d_FR_explain_99 rfl ?_
        refine fr_callv_p (pc := 101) (nc := nc) (ns := ns) (N := m_AL_get) (rest := []) (as := [.int (nI ps)]) d_FR_explain_101 vc_FR_180 ⟨by decide, by decide, Nat.le_of_ble_eq_true rfl⟩ (Nat.le_of_ble_eq_true rfl) hl1 (c_AL_get hlp hy) rfl ?_
        refine fr_cast (pc := 104) (ci := 3) d_FR_explain_104 (fw_t 386 (by decide +kernel)) rfl hcy ?_
        refine fr_get (pc := 107) (v := .int (bI E.1)) d_FR_explain_107 fg_FR_183 hcy rfl ?_
        refine fr_st (st2 := [.int (bI b)]) (by rw [hE2]) ?_
        cases b with
        | true =>
          refine fr_if_eq (pc := 110) (tgt := 117) d_FR_explain_110 (by decide) (fun q2 => ?_) (fun q2 => ?_)
          · exact absurd q2 (by decide)
          · refine fr_iconst (pc := 113) (v := 1) d_FR_explain_113 (by decide) ?_
            refine fr_goto (pc := 114) (tgt := 118) d_FR_explain_114 (by decide) ?_
            refine fr_istore (pc := 118) (L2 := [(0, .ref o), (1, .int (nI u)), (2, .int (nI n)), (3, .int (nI r)), (4, .int (nI f)), (5, .ref a), (6, .ref p), (7, .int (nI ps)), (8, .int 1)]) d_FR_explain_118 (by decide) rfl ?_
            refine fr_iload (pc := 120) d_FR_explain_120 rfl ?_
            refine fr_iload (pc := 122) d_FR_explain_122 rfl ?_
            refine fr_aload (pc := 124) d_FR_explain_124 rfl ?_
            refine fr_get (pc := 126) (v := .int (nI v)) d_FR_explain_126 fg_FR_186 hcp rfl ?_
            refine fr_iload (pc := 129) d_FR_explain_129 rfl ?_
            refine fr_calls_p (pc := 131) (nc := nc) (ns := ns) (N := m_FR_fieldOf) (rest := []) (as := [.int (nI f), .int 1, .int (nI v), .int (nI ps)]) d_FR_explain_131 k_FR_fieldOf lk_FR_172 sc_FR_fieldOf np_FR_fieldOf ⟨by decide, by decide, Nat.le_of_ble_eq_true rfl⟩ (Nat.le_of_ble_eq_true rfl) (c_FR_fieldOf hf) rfl ?_
            exact fr_iret rfl d_FR_explain_134 ⟨rfl, rfl⟩
        | false =>
          refine fr_if_eq (pc := 110) (tgt := 117) d_FR_explain_110 (by decide) (fun q2 => ?_) (fun q2 => ?_)
          · refine fr_iconst (pc := 117) (v := 2) d_FR_explain_117 (by decide) ?_
            refine fr_istore (pc := 118) (L2 := [(0, .ref o), (1, .int (nI u)), (2, .int (nI n)), (3, .int (nI r)), (4, .int (nI f)), (5, .ref a), (6, .ref p), (7, .int (nI ps)), (8, .int 2)]) d_FR_explain_118 (by decide) rfl ?_
            refine fr_iload (pc := 120) d_FR_explain_120 rfl ?_
            refine fr_iload (pc := 122) d_FR_explain_122 rfl ?_
            refine fr_aload (pc := 124) d_FR_explain_124 rfl ?_
            refine fr_get (pc := 126) (v := .int (nI v)) d_FR_explain_126 fg_FR_186 hcp rfl ?_
            refine fr_iload (pc := 129) d_FR_explain_129 rfl ?_
            refine fr_calls_p (pc := 131) (nc := nc) (ns := ns) (N := m_FR_fieldOf) (rest := []) (as := [.int (nI f), .int 2, .int (nI v), .int (nI ps)]) d_FR_explain_131 k_FR_fieldOf lk_FR_172 sc_FR_fieldOf np_FR_fieldOf ⟨by decide, by decide, Nat.le_of_ble_eq_true rfl⟩ (Nat.le_of_ble_eq_true rfl) (c_FR_fieldOf hf) rfl ?_
            exact fr_iret rfl d_FR_explain_134 ⟨rfl, rfl⟩
          · exact absurd rfl q2
    | none =>
      refine fr_st (st2 := [.int (-1)]) rfl ?_
      refine fr_istore (pc := 86) (L2 := [(0, .ref o), (1, .int (nI u)), (2, .int (nI n)), (3, .int (nI r)), (4, .int (nI f)), (5, .ref a), (6, .ref p), (7, .int (-1))]) d_FR_explain_86 (by decide) rfl ?_
      refine fr_iload (pc := 88) d_FR_explain_88 rfl ?_
      refine fr_iconst (pc := 90) (v := -1) d_FR_explain_90 (by decide) ?_
      refine fr_icmp_eq (pc := 91) (tgt := 135) d_FR_explain_91 (by decide) (fun q => ?_) (fun q => ?_)
      · refine fr_aload (pc := 135) d_FR_explain_135 rfl ?_
        refine fr_callv_p (pc := 137) (nc := nc) (ns := ns) (N := m_ND_nextLevel) (rest := []) (as := []) d_FR_explain_137 vc_FR_189 ⟨by decide, by decide, Nat.le_of_ble_eq_true rfl⟩ (Nat.le_of_ble_eq_true rfl) hcp (c_ND_next hcp rfl rfl) rfl ?_
        refine fr_st (st2 := [.null]) (by rw [hpr]; cases V.2.2.2.1 <;> rfl) ?_
        have e : fs_dc nd (fun i u => bb (f4 i) u) N n r u (fs_lv nd (v :: [])) = none := by
          have e2 : fs_lv nd (v :: []) = [v] := by simp [fs_lv]
          rw [e2, fs_dc, hL1]; rfl
        rw [e]
        refine fr_astoreN (pc := 140) (L2 := [(0, .ref o), (1, .int (nI u)), (2, .int (nI n)), (3, .int (nI r)), (4, .int (nI f)), (5, .ref a), (6, .null), (7, .int (-1))]) d_FR_explain_140 (by decide) rfl ?_
        refine fr_goto (pc := 142) (tgt := 71) d_FR_explain_142 (by decide) ?_
        refine fr_aloadN (pc := 71) d_FR_explain_71 rfl ?_
        refine fr_ifnullN (pc := 73) (tgt := 145) d_FR_explain_73 (by decide) ?_
        refine fr_iload (pc := 145) d_FR_explain_145 rfl ?_
        refine fr_iconst (pc := 147) (v := 3) d_FR_explain_147 (by decide) ?_
        refine fr_iconst (pc := 148) (v := -1) d_FR_explain_148 (by decide) ?_
        refine fr_iconst (pc := 149) (v := -1) d_FR_explain_149 (by decide) ?_
        refine fr_calls_p (pc := 150) (nc := nc) (ns := ns) (N := m_FR_fieldOf) (rest := []) (as := [.int (nI f), .int 3, .int (-1), .int (-1)]) d_FR_explain_150 k_FR_fieldOf lk_FR_172 sc_FR_fieldOf np_FR_fieldOf ⟨by decide, by decide, Nat.le_of_ble_eq_true rfl⟩ (Nat.le_of_ble_eq_true rfl) (c_FR_fieldOf hf) rfl ?_
        exact fr_iret rfl d_FR_explain_153 ⟨rfl, rfl⟩
      · exact absurd rfl q
  | cons pa t ih =>
    intro v p hc hp L hL
    subst hL
    obtain ⟨V, hV⟩ : ∃ V, nd v = some V := fs_ch_some _ _ hc v (Or.inl rfl)
    obtain ⟨hv150, p0, hp0, hcp, hlp, hEp⟩ := hr.2.1 v V hV
    rw [hp] at hp0; cases hp0
    obtain ⟨mc, hl1, -⟩ := id hlp
    obtain ⟨-, -, -, hlen12, -, -⟩ := hok.2.2.2.2 v V hV
    obtain ⟨⟨V2, hV2, hpr⟩, hc2⟩ := hc
    rw [hV] at hV2; cases hV2
    obtain ⟨PA, hPA⟩ := fs_ch_some _ _ hc2 pa (Or.inl rfl)
    obtain ⟨-, p2, hp2, -, -, -⟩ := hr.2.1 pa PA hPA
    refine fr_aload (pc := 71) d_FR_explain_71 rfl ?_
    refine fr_ifnull (pc := 73) d_FR_explain_73 ?_
    refine fr_aload_n (pc := 76) d_FR_explain_76 rfl rfl ?_
    refine fr_aload (pc := 77) d_FR_explain_77 rfl ?_
    refine fr_aload (pc := 79) d_FR_explain_79 rfl ?_
    refine fr_iload_n (pc := 81) d_FR_explain_81 rfl rfl ?_
    refine fr_iload_n (pc := 82) d_FR_explain_82 rfl rfl ?_
    refine fr_callv_p (pc := 83) (nc := nc) (ns := ns) (N := m_FR_decidingPosition) (rest := []) (as := [.ref p, .ref a, .int (nI u), .int (nI r)]) d_FR_explain_83 vc_FR_176 ⟨by decide, by decide, Nat.le_of_ble_eq_true rfl⟩ (Nat.le_of_ble_eq_true rfl) h0 (c_FR_dp h0 hG hr hok hA hV ha hp hr8 hu64) rfl ?_
    cases hL1 : fs_lv1 (fs_hit (fun i u => bb (f4 i) u) N n v r u) (fs_es nd v) with
    | some x =>
      obtain ⟨ps, b⟩ := x
      obtain ⟨E, hE1, hE2⟩ := fs_lv1_at hL1
      have hes : fs_es nd v = V.2.2.2.2.2 := by simp [fs_es, hV]
      rw [hes] at hE1
      obtain ⟨hps, -⟩ := List.getElem?_eq_some_iff.mp hE1
      obtain ⟨y, hy⟩ : ∃ y, (lt v)[ps]? = some y := ⟨_, List.getElem?_eq_getElem (by rw [hEp.1]; exact hps)⟩
      have hcy := hEp.2 ps y E hy hE1
      have e : fs_dc nd (fun i u => bb (f4 i) u) N n r u (fs_lv nd (v :: pa :: t)) = some (v, ps, b) := by
        rw [fs_lv, fs_dc, hL1]
      rw [e]
      refine fr_st (st2 := [.int (nI ps)]) rfl ?_
      refine fr_istore (pc := 86) (L2 := [(0, .ref o), (1, .int (nI u)), (2, .int (nI n)), (3, .int (nI r)), (4, .int (nI f)), (5, .ref a), (6, .ref p), (7, .int (nI ps))]) d_FR_explain_86 (by decide) rfl ?_
      refine fr_iload (pc := 88) d_FR_explain_88 rfl ?_
      refine fr_iconst (pc := 90) (v := -1) d_FR_explain_90 (by decide) ?_
      refine fr_icmp_eq (pc := 91) (tgt := 135) d_FR_explain_91 (by decide) (fun q => ?_) (fun q => ?_)
      · exact absurd q (fs_ov_ne (by omega))
      · refine fr_aload (pc := 94) d_FR_explain_94 rfl ?_
        refine fr_get (pc := 96) (v := .ref (lq v)) d_FR_explain_96 fg_FR_119 hcp rfl ?_
        refine fr_iload (pc := 99) d_FR_explain_99 rfl ?_
        refine fr_callv_p (pc := 101) (nc := nc) (ns := ns) (N := m_AL_get) (rest := []) (as := [.int (nI ps)]) d_FR_explain_101 vc_FR_180 ⟨by decide, by decide, Nat.le_of_ble_eq_true rfl⟩ (Nat.le_of_ble_eq_true rfl) hl1 (c_AL_get hlp hy) rfl ?_
        refine fr_cast (pc := 104) (ci := 3) d_FR_explain_104 (fw_t 386 (by decide +kernel)) rfl hcy ?_
        refine fr_get (pc := 107) (v := .int (bI E.1)) d_FR_explain_107 fg_FR_183 hcy rfl ?_
        refine fr_st (st2 := [.int (bI b)]) (by rw [hE2]) ?_
        cases b with
        | true =>
          refine fr_if_eq (pc := 110) (tgt := 117) d_FR_explain_110 (by decide) (fun q2 => ?_) (fun q2 => ?_)
          · exact absurd q2 (by decide)
          · refine fr_iconst (pc := 113) (v := 1) d_FR_explain_113 (by decide) ?_
            refine fr_goto (pc := 114) (tgt := 118) d_FR_explain_114 (by decide) ?_
            refine fr_istore (pc := 118) (L2 := [(0, .ref o), (1, .int (nI u)), (2, .int (nI n)), (3, .int (nI r)), (4, .int (nI f)), (5, .ref a), (6, .ref p), (7, .int (nI ps)), (8, .int 1)]) d_FR_explain_118 (by decide) rfl ?_
            refine fr_iload (pc := 120) d_FR_explain_120 rfl ?_
            refine fr_iload (pc := 122) d_FR_explain_122 rfl ?_
            refine fr_aload (pc := 124) d_FR_explain_124 rfl ?_
            refine fr_get (pc := 126) (v := .int (nI v)) d_FR_explain_126 fg_FR_186 hcp rfl ?_
            refine fr_iload (pc := 129) d_FR_explain_129 rfl ?_
            refine fr_calls_p (pc := 131) (nc := nc) (ns := ns) (N := m_FR_fieldOf) (rest := []) (as := [.int (nI f), .int 1, .int (nI v), .int (nI ps)]) d_FR_explain_131 k_FR_fieldOf lk_FR_172 sc_FR_fieldOf np_FR_fieldOf ⟨by decide, by decide, Nat.le_of_ble_eq_true rfl⟩ (Nat.le_of_ble_eq_true rfl) (c_FR_fieldOf hf) rfl ?_
            exact fr_iret rfl d_FR_explain_134 ⟨rfl, rfl⟩
        | false =>
          refine fr_if_eq (pc := 110) (tgt := 117) d_FR_explain_110 (by decide) (fun q2 => ?_) (fun q2 => ?_)
          · refine fr_iconst (pc := 117) (v := 2) d_FR_explain_117 (by decide) ?_
            refine fr_istore (pc := 118) (L2 := [(0, .ref o), (1, .int (nI u)), (2, .int (nI n)), (3, .int (nI r)), (4, .int (nI f)), (5, .ref a), (6, .ref p), (7, .int (nI ps)), (8, .int 2)]) d_FR_explain_118 (by decide) rfl ?_
            refine fr_iload (pc := 120) d_FR_explain_120 rfl ?_
            refine fr_iload (pc := 122) d_FR_explain_122 rfl ?_
            refine fr_aload (pc := 124) d_FR_explain_124 rfl ?_
            refine fr_get (pc := 126) (v := .int (nI v)) d_FR_explain_126 fg_FR_186 hcp rfl ?_
            refine fr_iload (pc := 129) d_FR_explain_129 rfl ?_
            refine fr_calls_p (pc := 131) (nc := nc) (ns := ns) (N := m_FR_fieldOf) (rest := []) (as := [.int (nI f), .int 2, .int (nI v), .int (nI ps)]) d_FR_explain_131 k_FR_fieldOf lk_FR_172 sc_FR_fieldOf np_FR_fieldOf ⟨by decide, by decide, Nat.le_of_ble_eq_true rfl⟩ (Nat.le_of_ble_eq_true rfl) (c_FR_fieldOf hf) rfl ?_
            exact fr_iret rfl d_FR_explain_134 ⟨rfl, rfl⟩
          · exact absurd rfl q2
    | none =>
      refine fr_st (st2 := [.int (-1)]) rfl ?_
      refine fr_istore (pc := 86) (L2 := [(0, .ref o), (1, .int (nI u)), (2, .int (nI n)), (3, .int (nI r)), (4, .int (nI f)), (5, .ref a), (6, .ref p), (7, .int (-1))]) d_FR_explain_86 (by decide) rfl ?_
      refine fr_iload (pc := 88) d_FR_explain_88 rfl ?_
      refine fr_iconst (pc := 90) (v := -1) d_FR_explain_90 (by decide) ?_
      refine fr_icmp_eq (pc := 91) (tgt := 135) d_FR_explain_91 (by decide) (fun q => ?_) (fun q => ?_)
      · refine fr_aload (pc := 135) d_FR_explain_135 rfl ?_
        refine fr_callv_p (pc := 137) (nc := nc) (ns := ns) (N := m_ND_nextLevel) (rest := []) (as := []) d_FR_explain_137 vc_FR_189 ⟨by decide, by decide, Nat.le_of_ble_eq_true rfl⟩ (Nat.le_of_ble_eq_true rfl) hcp (c_ND_next hcp rfl rfl) rfl ?_
        cases hbl : V.2.2.2.1 with
        | true =>
          refine fr_st (st2 := [.null]) rfl ?_
          have e : fs_dc nd (fun i u => bb (f4 i) u) N n r u (fs_lv nd (v :: pa :: t)) = none := by
            have e2 : fs_lv nd (v :: pa :: t) = [v] := by simp [fs_lv, fs_bl, hV, hbl]
            rw [e2, fs_dc, hL1]; rfl
          rw [e]
          refine fr_astoreN (pc := 140) (L2 := [(0, .ref o), (1, .int (nI u)), (2, .int (nI n)), (3, .int (nI r)), (4, .int (nI f)), (5, .ref a), (6, .null), (7, .int (-1))]) d_FR_explain_140 (by decide) rfl ?_
          refine fr_goto (pc := 142) (tgt := 71) d_FR_explain_142 (by decide) ?_
          refine fr_aloadN (pc := 71) d_FR_explain_71 rfl ?_
          refine fr_ifnullN (pc := 73) (tgt := 145) d_FR_explain_73 (by decide) ?_
          refine fr_iload (pc := 145) d_FR_explain_145 rfl ?_
          refine fr_iconst (pc := 147) (v := 3) d_FR_explain_147 (by decide) ?_
          refine fr_iconst (pc := 148) (v := -1) d_FR_explain_148 (by decide) ?_
          refine fr_iconst (pc := 149) (v := -1) d_FR_explain_149 (by decide) ?_
          refine fr_calls_p (pc := 150) (nc := nc) (ns := ns) (N := m_FR_fieldOf) (rest := []) (as := [.int (nI f), .int 3, .int (-1), .int (-1)]) d_FR_explain_150 k_FR_fieldOf lk_FR_172 sc_FR_fieldOf np_FR_fieldOf ⟨by decide, by decide, Nat.le_of_ble_eq_true rfl⟩ (Nat.le_of_ble_eq_true rfl) (c_FR_fieldOf hf) rfl ?_
          exact fr_iret rfl d_FR_explain_153 ⟨rfl, rfl⟩
        | false =>
          refine fr_st (st2 := [.ref p2]) (by rw [hpr]; show [va_rf (ad pa)] = _; rw [rf_some hp2]) ?_
          refine fr_astore (pc := 140) (L2 := [(0, .ref o), (1, .int (nI u)), (2, .int (nI n)), (3, .int (nI r)), (4, .int (nI f)), (5, .ref a), (6, .ref p2), (7, .int (-1))]) d_FR_explain_140 (by decide) rfl ?_
          refine fr_goto (pc := 142) (tgt := 71) d_FR_explain_142 (by decide) ?_
          have e : fs_dc nd (fun i u => bb (f4 i) u) N n r u (fs_lv nd (v :: pa :: t)) = fs_dc nd (fun i u => bb (f4 i) u) N n r u (fs_lv nd (pa :: t)) := by
            have e2 : fs_lv nd (v :: pa :: t) = v :: fs_lv nd (pa :: t) := by
              rw [fs_lv]; simp [fs_bl, hV, hbl]
            rw [e2, fs_dc, hL1]
          rw [e]
          exact fr_Ld (ih pa p2 hc2 hp2 _ rfl)
      · exact absurd rfl q
set_option maxRecDepth 20000 in
theorem p_FR_explain_ok {g : fw_G} {w : fw_W} {o gr a1 a2 a3 a4 na us n : Nat} {hu hg : Nat → Nat → Bool} {nd : fs_D} (hX : fs_X g (o, gr, a1, a2, a3, a4, na) (us, n, hu, hg, nd) w) {k : Nat} {N : fs_N} (hk : nd k = some N) {u r f : Nat} (hu2 : u < us) (hr8 : r < 8) (hf : f < 3) : fw_R g m_FR_explain (fs_P g (o, gr, a1, a2, a3, a4, na) w (.inl (some (.int (if r = 7 ∧ N.2.2.1 = u then (if f = 0 then 0 else if f = 1 then nI k else -1) else fs_xx (fs_dc (va_up nd k (some (fs_st N false))) (fs_in hu hg) (fs_st N false) k r u (fs_ls (va_up nd k (some (fs_st N false))) k)) f)))) (us, n, hu, hg, (va_up nd k (some (fs_st N false))))) 4 24 w 0 [(0, .ref o), (1, .int (nI u)), (2, .int (nI k)), (3, .int (nI r)), (4, .int (nI f))] [] := by
  obtain ⟨f1, f2, f3, f4, ad, lq, ld, lc, lt, hok, h0, hG, hR, hN, hr⟩ := fs_X_el hX
  have hb : n < 2 ^ 31 := by have := hok.2.2.1; omega
  have hb2 : us < 2 ^ 31 := by have := hok.2.1; omega
  obtain ⟨hk150, a, ha, hc, hl, hE⟩ := hr.2.1 k N hk
  obtain ⟨-, hk0, how, hlen, hes, hch, hdep⟩ := hok.2.2.2.2 k N hk
  have hF1 := fs_F2_up (x := .inr (2, fs_nc k (fs_st N false) (lq k) (N.2.1.bind ad))) fs_F2_id hc
  have hr1 := fs_rN_put hr (N2 := fs_st N false) hk ha rfl
  have hok1 := fs_ok_up hok (N2 := fs_st N false) hk rfl how hlen hes
  have h01 := fs_F2_3 hF1 _ h0 (fun fs z => by cases z)
  have hG1 := fs_gr_fr hG (fun b e hb h1 _ => fs_F2_3 hF1 b hb (fun fs z => by have := h1 2 fs z; omega))
  have hE1 : ∀ v r u, fw_pv v (fw_up w a (.inr (2, fs_nc k (fs_st N false) (lq k) (N.2.1.bind ad)))) r u → fs_P g (o, gr, a1, a2, a3, a4, na) w (.inl (some v)) (us, n, hu, hg, (va_up nd k (some (fs_st N false)))) r u := by
    rintro v r u ⟨e1, e2⟩
    subst e2
    exact ⟨e1, fs_X_F2 hok1 h0 hG hR hN hF1 hr1, fs_F2_Fr hF1⟩
  have hus := hok.2.1
  refine fr_aload_n (pc := 0) d_FR_explain_0 rfl rfl ?_
  refine fr_iload_n (pc := 1) d_FR_explain_1 rfl rfl ?_
  refine fr_callv_n (pc := 2) (nc := 3) (ns := 18) (N := m_FR_requireUser) (rest := []) (as := [.int (nI u)]) d_FR_explain_2 vc_FR_67 ⟨by decide, by decide, Nat.le_of_ble_eq_true rfl⟩ (Nat.le_of_ble_eq_true rfl) h0 (c_FR_requireUser h0 hu2 hb2) rfl ?_
  refine fr_aload_n (pc := 5) d_FR_explain_5 rfl rfl ?_
  refine fr_iload_n (pc := 6) d_FR_explain_6 rfl rfl ?_
  refine fr_callv_p (pc := 7) (nc := 2) (ns := 12) (N := m_FR_nodeAt) (rest := []) (as := [.int (nI k)]) d_FR_explain_7 vc_FR_63 ⟨by decide, by decide, Nat.le_of_ble_eq_true rfl⟩ (Nat.le_of_ble_eq_true rfl) h0 (c_FR_nodeAt h0 hN hk150 ha) rfl ?_
  refine fr_astore (pc := 10) (L2 := [(0, .ref o), (1, .int (nI u)), (2, .int (nI k)), (3, .int (nI r)), (4, .int (nI f)), (5, .ref a)]) d_FR_explain_10 (by decide) rfl ?_
  refine fr_iload_n (pc := 12) d_FR_explain_12 rfl rfl ?_
  refine fr_calls_n (pc := 13) (nc := 1) (ns := 6) (N := m_FR_requireRight) (rest := []) (as := [.int (nI r)]) d_FR_explain_13 k_FR_requireRight lk_FR_167 sc_FR_requireRight np_FR_requireRight ⟨by decide, by decide, Nat.le_of_ble_eq_true rfl⟩ (Nat.le_of_ble_eq_true rfl) (c_FR_requireRight hr8) rfl ?_
  refine fr_iload (pc := 16) d_FR_explain_16 rfl ?_
  refine fr_if_lt (pc := 18) (tgt := 27) d_FR_explain_18 (by decide) (fun q => ?_) (fun q => ?_)
  · exact absurd q (ix_nn (by omega))
  · refine fr_iload (pc := 21) d_FR_explain_21 rfl ?_
    refine fr_iconst (pc := 23) (v := 2) d_FR_explain_23 (by decide) ?_
    refine fr_icmp_le (pc := 24) (tgt := 37) d_FR_explain_24 (by decide) (fun q2 => ?_) (fun q2 => ?_)
    · refine fr_aload (pc := 37) d_FR_explain_37 rfl ?_
      refine fr_iconst (pc := 39) (v := 0) d_FR_explain_39 (by decide) ?_
      refine fr_put (pc := 40) (fs2 := fs_nc k (fs_st N false) (lq k) (N.2.1.bind ad)) d_FR_explain_40 fp_FR_explain_110 hc (Nat.le_of_ble_eq_true rfl) rfl rfl rfl ?_
      refine fr_po (hE1 _) ?_
      refine fr_iload_n (pc := 43) d_FR_explain_43 rfl rfl ?_
      refine fr_bipush (pc := 44) (v := 7) d_FR_explain_44 (by decide) ?_
      refine fr_icmp_ne (pc := 46) (tgt := 67) d_FR_explain_46 (by decide) (fun q3 => ?_) (fun q3 => ?_)
      · have h7 : ¬ (r = 7 ∧ N.2.2.1 = u) := fun z => q3 (by rw [z.1]; rfl)
        rw [if_neg h7]
        refine fr_aload (pc := 67) d_FR_explain_67 rfl ?_
        refine fr_astore (pc := 69) (L2 := [(0, .ref o), (1, .int (nI u)), (2, .int (nI k)), (3, .int (nI r)), (4, .int (nI f)), (5, .ref a), (6, .ref a)]) d_FR_explain_69 (by decide) rfl ?_
        have hfi : (fun i u => bb (f4 i) u) = fs_in hu hg := by funext i u; exact fs_in_f4 hR i u
        have hh := @c_FR_exp_l g 1 6 _ o gr na us h01 n a1 a2 a3 a4 f1 f2 f3 f4 hG1 (va_up nd k (some (fs_st N false))) ad lq ld lc lt hr1 hok1 k a r u f (fs_st N false) vu_self ha hr8 (by omega) hf _ k a (fs_ok_ch hok1 k _ vu_self) ha _ rfl
        rw [hfi] at hh
        exact hh
      · have h7 : r = 7 := (ni_eq (b := 7) (by omega) (by omega)).mp q3
        refine fr_aload (pc := 49) d_FR_explain_49 rfl ?_
        refine fr_get (pc := 51) (v := .int (nI N.2.2.1)) d_FR_explain_51 fg_FR_156 fw_up_self rfl ?_
        refine fr_iload_n (pc := 54) d_FR_explain_54 rfl rfl ?_
        refine fr_icmp_ne (pc := 55) (tgt := 67) d_FR_explain_55 (by decide) (fun q4 => ?_) (fun q4 => ?_)
        · have h8 : ¬ (r = 7 ∧ N.2.2.1 = u) := fun z => q4 (by rw [z.2])
          rw [if_neg h8]
          refine fr_aload (pc := 67) d_FR_explain_67 rfl ?_
          refine fr_astore (pc := 69) (L2 := [(0, .ref o), (1, .int (nI u)), (2, .int (nI k)), (3, .int (nI r)), (4, .int (nI f)), (5, .ref a), (6, .ref a)]) d_FR_explain_69 (by decide) rfl ?_
          have hfi : (fun i u => bb (f4 i) u) = fs_in hu hg := by funext i u; exact fs_in_f4 hR i u
          have hh := @c_FR_exp_l g 1 6 _ o gr na us h01 n a1 a2 a3 a4 f1 f2 f3 f4 hG1 (va_up nd k (some (fs_st N false))) ad lq ld lc lt hr1 hok1 k a r u f (fs_st N false) vu_self ha hr8 (by omega) hf _ k a (fs_ok_ch hok1 k _ vu_self) ha _ rfl
          rw [hfi] at hh
          exact hh
        · have h8 : N.2.2.1 = u := (ni_eq (by omega) (by omega)).mp q4
          rw [if_pos ⟨h7, h8⟩]
          refine fr_iload (pc := 58) d_FR_explain_58 rfl ?_
          refine fr_iconst (pc := 60) (v := 0) d_FR_explain_60 (by decide) ?_
          refine fr_iload_n (pc := 61) d_FR_explain_61 rfl rfl ?_
          refine fr_iconst (pc := 62) (v := -1) d_FR_explain_62 (by decide) ?_
          refine fr_calls_p (pc := 63) (nc := 1) (ns := 6) (N := m_FR_fieldOf) (rest := []) (as := [.int (nI f), .int 0, .int (nI k), .int (-1)]) d_FR_explain_63 k_FR_fieldOf lk_FR_172 sc_FR_fieldOf np_FR_fieldOf ⟨by decide, by decide, Nat.le_of_ble_eq_true rfl⟩ (Nat.le_of_ble_eq_true rfl) (c_FR_fieldOf hf) rfl ?_
          exact fr_iret rfl d_FR_explain_66 ⟨rfl, rfl⟩
    · exact absurd ((ni_le (b := 2) (by omega) (by omega)).mpr (by omega)) q2
set_option maxRecDepth 20000 in
theorem p_FR_explain_n1 {g : fw_G} {w : fw_W} {o gr a1 a2 a3 a4 na us n : Nat} {hu hg : Nat → Nat → Bool} {nd : fs_D} (hX : fs_X g (o, gr, a1, a2, a3, a4, na) (us, n, hu, hg, nd) w) {x y z v : Int32} (hx : fs_no2 x us) : fw_R g m_FR_explain (fs_P g (o, gr, a1, a2, a3, a4, na) w (.inr "java/util/NoSuchElementException") (us, n, hu, hg, nd)) 4 24 w 0 [(0, .ref o), (1, .int x), (2, .int y), (3, .int z), (4, .int v)] [] := by
  obtain ⟨f1, f2, f3, f4, ad, lq, ld, lc, lt, hok, h0, hG, hR, hN, hr⟩ := fs_X_el hX
  have hb : n < 2 ^ 31 := by have := hok.2.2.1; omega
  have hb2 : us < 2 ^ 31 := by have := hok.2.1; omega
  refine fr_aload_n (pc := 0) d_FR_explain_0 rfl rfl ?_
  refine fr_iload_n (pc := 1) d_FR_explain_1 rfl rfl ?_
  refine fr_callv_x (pc := 2) (nc := 3) (ns := 18) (N := m_FR_requireUser) (rest := []) (as := [.int x]) d_FR_explain_2 vc_FR_67 ⟨by decide, by decide, Nat.le_of_ble_eq_true rfl⟩ (Nat.le_of_ble_eq_true rfl) h0 (x_FR_requireUser h0 hx hb2) rfl ?_
  exact fx_out (by decide) ⟨rfl, hX, fs_Fr_id⟩
set_option maxRecDepth 20000 in
theorem p_FR_explain_n2 {g : fw_G} {w : fw_W} {o gr a1 a2 a3 a4 na us n : Nat} {hu hg : Nat → Nat → Bool} {nd : fs_D} (hX : fs_X g (o, gr, a1, a2, a3, a4, na) (us, n, hu, hg, nd) w) {u : Nat} {x z v : Int32} (hu2 : u < us) (hx : ∀ k, x = nI k → nd k = none) : fw_R g m_FR_explain (fs_P g (o, gr, a1, a2, a3, a4, na) w (.inr "java/util/NoSuchElementException") (us, n, hu, hg, nd)) 4 24 w 0 [(0, .ref o), (1, .int (nI u)), (2, .int x), (3, .int z), (4, .int v)] [] := by
  obtain ⟨f1, f2, f3, f4, ad, lq, ld, lc, lt, hok, h0, hG, hR, hN, hr⟩ := fs_X_el hX
  have hb : n < 2 ^ 31 := by have := hok.2.2.1; omega
  have hb2 : us < 2 ^ 31 := by have := hok.2.1; omega
  refine fr_aload_n (pc := 0) d_FR_explain_0 rfl rfl ?_
  refine fr_iload_n (pc := 1) d_FR_explain_1 rfl rfl ?_
  refine fr_callv_n (pc := 2) (nc := 3) (ns := 18) (N := m_FR_requireUser) (rest := []) (as := [.int (nI u)]) d_FR_explain_2 vc_FR_67 ⟨by decide, by decide, Nat.le_of_ble_eq_true rfl⟩ (Nat.le_of_ble_eq_true rfl) h0 (c_FR_requireUser h0 hu2 hb2) rfl ?_
  refine fr_aload_n (pc := 5) d_FR_explain_5 rfl rfl ?_
  refine fr_iload_n (pc := 6) d_FR_explain_6 rfl rfl ?_
  refine fr_callv_x (pc := 7) (nc := 2) (ns := 12) (N := m_FR_nodeAt) (rest := []) (as := [.int x]) d_FR_explain_7 vc_FR_63 ⟨by decide, by decide, Nat.le_of_ble_eq_true rfl⟩ (Nat.le_of_ble_eq_true rfl) h0 (x_FR_nodeAt h0 hN (fun k _ e => hr.1 k (hx k e))) rfl ?_
  exact fx_out (by decide) ⟨rfl, hX, fs_Fr_id⟩
set_option maxRecDepth 20000 in
theorem p_FR_explain_n3 {g : fw_G} {w : fw_W} {o gr a1 a2 a3 a4 na us n : Nat} {hu hg : Nat → Nat → Bool} {nd : fs_D} (hX : fs_X g (o, gr, a1, a2, a3, a4, na) (us, n, hu, hg, nd) w) {k : Nat} {N : fs_N} (hk : nd k = some N) {u : Nat} {z v : Int32} (hu2 : u < us) (hz : fs_no2 z 8) : fw_R g m_FR_explain (fs_P g (o, gr, a1, a2, a3, a4, na) w (.inr "java/lang/IllegalArgumentException") (us, n, hu, hg, nd)) 4 24 w 0 [(0, .ref o), (1, .int (nI u)), (2, .int (nI k)), (3, .int z), (4, .int v)] [] := by
  obtain ⟨f1, f2, f3, f4, ad, lq, ld, lc, lt, hok, h0, hG, hR, hN, hr⟩ := fs_X_el hX
  have hb : n < 2 ^ 31 := by have := hok.2.2.1; omega
  have hb2 : us < 2 ^ 31 := by have := hok.2.1; omega
  obtain ⟨hk150, a, ha, hc, hl, hE⟩ := hr.2.1 k N hk
  obtain ⟨-, hk0, how, hlen, hes, hch, hdep⟩ := hok.2.2.2.2 k N hk
  refine fr_aload_n (pc := 0) d_FR_explain_0 rfl rfl ?_
  refine fr_iload_n (pc := 1) d_FR_explain_1 rfl rfl ?_
  refine fr_callv_n (pc := 2) (nc := 3) (ns := 18) (N := m_FR_requireUser) (rest := []) (as := [.int (nI u)]) d_FR_explain_2 vc_FR_67 ⟨by decide, by decide, Nat.le_of_ble_eq_true rfl⟩ (Nat.le_of_ble_eq_true rfl) h0 (c_FR_requireUser h0 hu2 hb2) rfl ?_
  refine fr_aload_n (pc := 5) d_FR_explain_5 rfl rfl ?_
  refine fr_iload_n (pc := 6) d_FR_explain_6 rfl rfl ?_
  refine fr_callv_p (pc := 7) (nc := 2) (ns := 12) (N := m_FR_nodeAt) (rest := []) (as := [.int (nI k)]) d_FR_explain_7 vc_FR_63 ⟨by decide, by decide, Nat.le_of_ble_eq_true rfl⟩ (Nat.le_of_ble_eq_true rfl) h0 (c_FR_nodeAt h0 hN hk150 ha) rfl ?_
  refine fr_astore (pc := 10) (L2 := [(0, .ref o), (1, .int (nI u)), (2, .int (nI k)), (3, .int z), (4, .int v), (5, .ref a)]) d_FR_explain_10 (by decide) rfl ?_
  refine fr_iload_n (pc := 12) d_FR_explain_12 rfl rfl ?_
  refine fr_calls_x (pc := 13) (nc := 1) (ns := 6) (N := m_FR_requireRight) (rest := []) (as := [.int z]) d_FR_explain_13 k_FR_requireRight lk_FR_167 sc_FR_requireRight np_FR_requireRight ⟨by decide, by decide, Nat.le_of_ble_eq_true rfl⟩ (Nat.le_of_ble_eq_true rfl) (x_FR_requireRight hz) rfl ?_
  exact fx_out (by decide) ⟨rfl, hX, fs_Fr_id⟩
set_option maxRecDepth 20000 in
theorem p_FR_explain_n4 {g : fw_G} {w : fw_W} {o gr a1 a2 a3 a4 na us n : Nat} {hu hg : Nat → Nat → Bool} {nd : fs_D} (hX : fs_X g (o, gr, a1, a2, a3, a4, na) (us, n, hu, hg, nd) w) {k : Nat} {N : fs_N} (hk : nd k = some N) {u r : Nat} {v : Int32} (hu2 : u < us) (hr8 : r < 8) (hv : fs_no2 v 3) : fw_R g m_FR_explain (fs_P g (o, gr, a1, a2, a3, a4, na) w (.inr "java/lang/IllegalArgumentException") (us, n, hu, hg, nd)) 4 24 w 0 [(0, .ref o), (1, .int (nI u)), (2, .int (nI k)), (3, .int (nI r)), (4, .int v)] [] := by
  obtain ⟨f1, f2, f3, f4, ad, lq, ld, lc, lt, hok, h0, hG, hR, hN, hr⟩ := fs_X_el hX
  have hb : n < 2 ^ 31 := by have := hok.2.2.1; omega
  have hb2 : us < 2 ^ 31 := by have := hok.2.1; omega
  obtain ⟨hk150, a, ha, hc, hl, hE⟩ := hr.2.1 k N hk
  obtain ⟨-, hk0, how, hlen, hes, hch, hdep⟩ := hok.2.2.2.2 k N hk
  refine fr_aload_n (pc := 0) d_FR_explain_0 rfl rfl ?_
  refine fr_iload_n (pc := 1) d_FR_explain_1 rfl rfl ?_
  refine fr_callv_n (pc := 2) (nc := 3) (ns := 18) (N := m_FR_requireUser) (rest := []) (as := [.int (nI u)]) d_FR_explain_2 vc_FR_67 ⟨by decide, by decide, Nat.le_of_ble_eq_true rfl⟩ (Nat.le_of_ble_eq_true rfl) h0 (c_FR_requireUser h0 hu2 hb2) rfl ?_
  refine fr_aload_n (pc := 5) d_FR_explain_5 rfl rfl ?_
  refine fr_iload_n (pc := 6) d_FR_explain_6 rfl rfl ?_
  refine fr_callv_p (pc := 7) (nc := 2) (ns := 12) (N := m_FR_nodeAt) (rest := []) (as := [.int (nI k)]) d_FR_explain_7 vc_FR_63 ⟨by decide, by decide, Nat.le_of_ble_eq_true rfl⟩ (Nat.le_of_ble_eq_true rfl) h0 (c_FR_nodeAt h0 hN hk150 ha) rfl ?_
  refine fr_astore (pc := 10) (L2 := [(0, .ref o), (1, .int (nI u)), (2, .int (nI k)), (3, .int (nI r)), (4, .int v), (5, .ref a)]) d_FR_explain_10 (by decide) rfl ?_
  refine fr_iload_n (pc := 12) d_FR_explain_12 rfl rfl ?_
  refine fr_calls_n (pc := 13) (nc := 1) (ns := 6) (N := m_FR_requireRight) (rest := []) (as := [.int (nI r)]) d_FR_explain_13 k_FR_requireRight lk_FR_167 sc_FR_requireRight np_FR_requireRight ⟨by decide, by decide, Nat.le_of_ble_eq_true rfl⟩ (Nat.le_of_ble_eq_true rfl) (c_FR_requireRight hr8) rfl ?_
  refine fr_iload (pc := 16) d_FR_explain_16 rfl ?_
  refine fr_if_lt (pc := 18) (tgt := 27) d_FR_explain_18 (by decide) (fun q => ?_) (fun q => ?_)
  · exact fr_throw (pc := 27) (nc := 0) (ns := 0) th_FR_170 d_FR_explain_27 d_FR_explain_30 d_FR_explain_31 d_FR_explain_33 d_FR_explain_36 (by decide) (by decide) (by decide) ⟨rfl, hX, fs_Fr_id⟩
  · refine fr_iload (pc := 21) d_FR_explain_21 rfl ?_
    refine fr_iconst (pc := 23) (v := 2) d_FR_explain_23 (by decide) ?_
    refine fr_icmp_le (pc := 24) (tgt := 37) d_FR_explain_24 (by decide) (fun q2 => ?_) (fun q2 => ?_)
    · obtain ⟨h3, h4⟩ := ix_of q
      rw [h4] at q2
      have h5 := (ni_le (b := 2) h3 (by omega)).mp q2
      exact absurd h4 (hv _ (by omega))
    · exact fr_throw (pc := 27) (nc := 0) (ns := 0) th_FR_170 d_FR_explain_27 d_FR_explain_30 d_FR_explain_31 d_FR_explain_33 d_FR_explain_36 (by decide) (by decide) (by decide) ⟨rfl, hX, fs_Fr_id⟩

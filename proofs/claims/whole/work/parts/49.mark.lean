def fs_f5 (nd : fs_D) (t k : Nat) : Nat := match nd k with
  | some _ => if fs_un nd k t = true then (fs_ab nd k).length - (fs_ab nd t).length else 0
  | none => 0
theorem c_FR_heightOf_l {g : fw_G} {nc ns : Nat} {w : fw_W} {o gr na us : Nat} (h0 : w o = some (.inr (0, [.ref gr, .ref na, .int (nI us)]))) {nd : fs_D} {ad : Nat → Option Nat} {lq ld lc : Nat → Nat} {lt : Nat → List Nat} (hN : w na = some (fs_no g ad)) (hr : fs_rN g w nd ad lq ld lc lt) (hch : ∀ k N, nd k = some N → fs_ch nd k (fs_ab nd k)) (hd : ∀ k N, nd k = some N → (fs_ab nd k).length ≤ 20) {t b : Nat} {T : fs_N} (ht : nd t = some T) (hb : ad t = some b) : ∀ m k c, k + m = 150 → c ≤ 20 → ∀ L : List (Nat × Value), L = [(0, .ref o), (1, .ref b), (2, .int (nI (fs_ab nd t).length)), (3, .int (nI c)), (4, .ref na), (5, .int (nI 150)), (6, .int (nI k))] → fw_R g m_FR_heightOf (fw_pv (.int (nI (fs_hi (fs_f5 nd t) m k c))) w) nc ns w 21 L [] := by
  intro m
  induction m with
  | zero =>
    intro k c hk hc20 L hL
    have hk2 : k = 150 := by omega
    subst hk2 hL
    refine fr_iload (pc := 21) d_FR_heightOf_21 rfl ?_
    refine fr_iload (pc := 23) d_FR_heightOf_23 rfl ?_
    refine fr_icmp_ge (pc := 25) (tgt := 67) d_FR_heightOf_25 (by decide) (fun q => ?_) (fun q => ?_)
    · refine fr_iload_n (pc := 67) d_FR_heightOf_67 rfl rfl ?_
      exact fr_iret rfl d_FR_heightOf_68 ⟨rfl, rfl⟩
    · exact absurd ((ni_le (a := 150) (b := 150) (by omega) (by omega)).mpr (by omega)) q
  | succ m ih =>
    intro k c hk hc20 L hL
    subst hL
    refine fr_iload (pc := 21) d_FR_heightOf_21 rfl ?_
    refine fr_iload (pc := 23) d_FR_heightOf_23 rfl ?_
    refine fr_icmp_ge (pc := 25) (tgt := 67) d_FR_heightOf_25 (by decide) (fun q => ?_) (fun q => ?_)
    · exact absurd ((ni_le (a := 150) (by omega) (by omega)).mp q) (by omega)
    · refine fr_aload (pc := 28) d_FR_heightOf_28 rfl ?_
      refine fr_iload (pc := 30) d_FR_heightOf_30 rfl ?_
      refine fr_aaldN (pc := 32) (t := 3) (n := 150) (k := k) (C := "FolderRights$Node") (f := ad) d_FR_heightOf_32 rfl hN (by omega) (by omega) ?_
      cases hA : nd k with
      | none =>
        refine fr_st (st2 := [.null]) (by rw [rf_none (hr.1 k hA)]) ?_
        refine fr_astoreN (pc := 33) (L2 := [(0, .ref o), (1, .ref b), (2, .int (nI (fs_ab nd t).length)), (3, .int (nI c)), (4, .ref na), (5, .int (nI 150)), (6, .int (nI k)), (7, .null)]) d_FR_heightOf_33 (by decide) rfl ?_
        refine fr_aloadN (pc := 35) d_FR_heightOf_35 rfl ?_
        refine fr_ifnullN (pc := 37) (tgt := 61) d_FR_heightOf_37 (by decide) ?_
        refine fr_iinc (pc := 61) (v := (nI (k + 1))) (L2 := [(0, .ref o), (1, .ref b), (2, .int (nI (fs_ab nd t).length)), (3, .int (nI c)), (4, .ref na), (5, .int (nI 150)), (6, .int (nI (k + 1))), (7, .null)]) d_FR_heightOf_61 rfl (fi_1 _) (by decide) rfl ?_
        refine fr_goto (pc := 64) (tgt := 21) d_FR_heightOf_64 (by decide) ?_
        have e : fs_hi (fs_f5 nd t) (m + 1) k c = fs_hi (fs_f5 nd t) m (k + 1) c := by simp [fs_hi, fs_f5, hA]
        rw [e]
        exact fr_Ld (ih (k + 1) c (by omega) hc20 _ rfl)
      | some N =>
        obtain ⟨-, a, ha, hc, hl, hE⟩ := hr.2.1 k N hA
        refine fr_st (st2 := [.ref a]) (by rw [rf_some ha]) ?_
        refine fr_astore (pc := 33) (L2 := [(0, .ref o), (1, .ref b), (2, .int (nI (fs_ab nd t).length)), (3, .int (nI c)), (4, .ref na), (5, .int (nI 150)), (6, .int (nI k)), (7, .ref a)]) d_FR_heightOf_33 (by decide) rfl ?_
        refine fr_aload (pc := 35) d_FR_heightOf_35 rfl ?_
        refine fr_ifnull (pc := 37) d_FR_heightOf_37 ?_
        refine fr_aload (pc := 40) d_FR_heightOf_40 rfl ?_
        refine fr_aload_n (pc := 42) d_FR_heightOf_42 rfl rfl ?_
        refine fr_callv_p (pc := 43) (nc := nc) (ns := ns) (N := m_ND_liesWithin) (rest := []) (as := [.ref b]) d_FR_heightOf_43 vc_FR_88 ⟨by decide, by decide, Nat.le_of_ble_eq_true rfl⟩ (Nat.le_of_ble_eq_true rfl) hc (c_lies hr (hch k N hA) ha ht hb) rfl ?_
        refine fr_if_eq (pc := 46) (tgt := 61) d_FR_heightOf_46 (by decide) (fun z => ?_) (fun z => ?_)
        · refine fr_iinc (pc := 61) (v := (nI (k + 1))) (L2 := [(0, .ref o), (1, .ref b), (2, .int (nI (fs_ab nd t).length)), (3, .int (nI c)), (4, .ref na), (5, .int (nI 150)), (6, .int (nI (k + 1))), (7, .ref a)]) d_FR_heightOf_61 rfl (fi_1 _) (by decide) rfl ?_
          refine fr_goto (pc := 64) (tgt := 21) d_FR_heightOf_64 (by decide) ?_
          have hs := bI_0.mp z
          have e : fs_hi (fs_f5 nd t) (m + 1) k c = fs_hi (fs_f5 nd t) m (k + 1) c := by simp [fs_hi, fs_f5, hA, hs]
          rw [e]
          exact fr_Ld (ih (k + 1) c (by omega) hc20 _ rfl)
        · have hs := ts_nf (fun x => z (bI_0.mpr x))
          have hle := fs_dep_le (hch k N hA) (hch t T ht) hs
          have h20 := hd k N hA
          refine fr_iload_n (pc := 49) d_FR_heightOf_49 rfl rfl ?_
          refine fr_aload (pc := 50) d_FR_heightOf_50 rfl ?_
          refine fr_callv_p (pc := 52) (nc := nc) (ns := ns) (N := m_ND_depth) (rest := [.int (nI c)]) (as := []) d_FR_heightOf_52 vc_FR_80 ⟨by decide, by decide, Nat.le_of_ble_eq_true rfl⟩ (Nat.le_of_ble_eq_true rfl) hc (c_dep hr (hch k N hA) ha) rfl ?_
          refine fr_iload_n (pc := 55) d_FR_heightOf_55 rfl rfl ?_
          refine fr_isub (pc := 56) d_FR_heightOf_56 ?_
          refine fr_st (st2 := [.int (nI ((fs_ab nd k).length - (fs_ab nd t).length)), .int (nI c)]) (by rw [ni_sub hle]) ?_
          refine fr_calls_p (pc := 57) (nc := nc) (ns := ns) (N := m_MA_max) (rest := []) (as := [.int (nI c), .int (nI ((fs_ab nd k).length - (fs_ab nd t).length))]) d_FR_heightOf_57 k_MA_max lk_FR_240 sc_MA_max np_MA_max ⟨by decide, by decide, Nat.le_of_ble_eq_true rfl⟩ (Nat.le_of_ble_eq_true rfl) (c_MA_max (by omega) (by omega)) rfl ?_
          refine fr_istore_n (pc := 60) (L2 := [(0, .ref o), (1, .ref b), (2, .int (nI (fs_ab nd t).length)), (3, .int (nI (max c ((fs_ab nd k).length - (fs_ab nd t).length)))), (4, .ref na), (5, .int (nI 150)), (6, .int (nI k)), (7, .ref a)]) d_FR_heightOf_60 rfl (by decide) rfl ?_
          refine fr_iinc (pc := 61) (v := (nI (k + 1))) (L2 := [(0, .ref o), (1, .ref b), (2, .int (nI (fs_ab nd t).length)), (3, .int (nI (max c ((fs_ab nd k).length - (fs_ab nd t).length)))), (4, .ref na), (5, .int (nI 150)), (6, .int (nI (k + 1))), (7, .ref a)]) d_FR_heightOf_61 rfl (fi_1 _) (by decide) rfl ?_
          refine fr_goto (pc := 64) (tgt := 21) d_FR_heightOf_64 (by decide) ?_
          have e : fs_hi (fs_f5 nd t) (m + 1) k c = fs_hi (fs_f5 nd t) m (k + 1) (max c ((fs_ab nd k).length - (fs_ab nd t).length)) := by simp [fs_hi, fs_f5, hA, hs]
          rw [e]
          exact fr_Ld (ih (k + 1) _ (by omega) (by omega) _ rfl)
theorem c_FR_heightOf {g : fw_G} {nc ns : Nat} {w : fw_W} {o gr na us : Nat} (h0 : w o = some (.inr (0, [.ref gr, .ref na, .int (nI us)]))) {nd : fs_D} {ad : Nat → Option Nat} {lq ld lc : Nat → Nat} {lt : Nat → List Nat} (hN : w na = some (fs_no g ad)) (hr : fs_rN g w nd ad lq ld lc lt) (hch : ∀ k N, nd k = some N → fs_ch nd k (fs_ab nd k)) (hd : ∀ k N, nd k = some N → (fs_ab nd k).length ≤ 20) {t b : Nat} {T : fs_N} (ht : nd t = some T) (hb : ad t = some b) : fw_R g m_FR_heightOf (fw_pv (.int (nI (fs_hi (fs_f5 nd t) 150 0 0))) w) nc ns w 0 [(0, .ref o), (1, .ref b)] [] := by
  obtain ⟨-, b0, hb0, hcb, -, -⟩ := hr.2.1 t T ht
  rw [hb] at hb0; cases hb0
  refine fr_aload_n (pc := 0) d_FR_heightOf_0 rfl rfl ?_
  refine fr_callv_p (pc := 1) (nc := nc) (ns := ns) (N := m_ND_depth) (rest := []) (as := []) d_FR_heightOf_1 vc_FR_80 ⟨by decide, by decide, Nat.le_of_ble_eq_true rfl⟩ (Nat.le_of_ble_eq_true rfl) hcb (c_dep hr (hch t T ht) hb) rfl ?_
  refine fr_istore_n (pc := 4) (L2 := [(0, .ref o), (1, .ref b), (2, .int (nI (fs_ab nd t).length))]) d_FR_heightOf_4 rfl (by decide) rfl ?_
  refine fr_iconst (pc := 5) (v := 0) d_FR_heightOf_5 (by decide) ?_
  refine fr_istore_n (pc := 6) (L2 := [(0, .ref o), (1, .ref b), (2, .int (nI (fs_ab nd t).length)), (3, .int 0)]) d_FR_heightOf_6 rfl (by decide) rfl ?_
  refine fr_aload_n (pc := 7) d_FR_heightOf_7 rfl rfl ?_
  refine fr_get (pc := 8) (v := .ref na) d_FR_heightOf_8 fg_FR_18 h0 rfl ?_
  refine fr_astore (pc := 11) (L2 := [(0, .ref o), (1, .ref b), (2, .int (nI (fs_ab nd t).length)), (3, .int 0), (4, .ref na)]) d_FR_heightOf_11 (by decide) rfl ?_
  refine fr_aload (pc := 13) d_FR_heightOf_13 rfl ?_
  refine fr_alen (pc := 15) (t := 3) (v := (nI 150)) d_FR_heightOf_15 rfl hN rfl ?_
  refine fr_istore (pc := 16) (L2 := [(0, .ref o), (1, .ref b), (2, .int (nI (fs_ab nd t).length)), (3, .int 0), (4, .ref na), (5, .int (nI 150))]) d_FR_heightOf_16 (by decide) rfl ?_
  refine fr_iconst (pc := 18) (v := 0) d_FR_heightOf_18 (by decide) ?_
  refine fr_istore (pc := 19) (L2 := [(0, .ref o), (1, .ref b), (2, .int (nI (fs_ab nd t).length)), (3, .int 0), (4, .ref na), (5, .int (nI 150)), (6, .int 0)]) d_FR_heightOf_19 (by decide) rfl ?_
  exact c_FR_heightOf_l h0 hN hr hch hd ht hb 150 0 0 rfl (by omega) _ rfl
def fs_st (N : fs_N) (b : Bool) : fs_N := (N.1, N.2.1, N.2.2.1, N.2.2.2.1, b, N.2.2.2.2.2)
def fs_mk (nd : fs_D) (t i : Nat) : fs_D := fun k => match nd k with
  | some N => some (if k < i ∧ k ≠ t ∧ fs_un nd k t = true then fs_st N true else N)
  | none => none
theorem fs_mk_0 {nd : fs_D} {t : Nat} : fs_mk nd t 0 = nd := by
  funext k
  cases h : nd k with
  | none => simp [fs_mk, h]
  | some N => simp [fs_mk, h]
theorem fs_mk_at {nd : fs_D} {t k : Nat} : fs_mk nd t k k = nd k := by
  cases h : nd k with
  | none => simp [fs_mk, h]
  | some N => simp [fs_mk, h]
theorem fs_mk_no {nd : fs_D} {t k : Nat} (h : ∀ N, nd k = some N → ¬ (k ≠ t ∧ fs_un nd k t = true)) : fs_mk nd t (k + 1) = fs_mk nd t k := by
  funext j
  cases hj : nd j with
  | none => simp [fs_mk, hj]
  | some N =>
    by_cases e : j = k
    · subst e
      have := h N hj
      simp only [fs_mk, hj]
      rw [if_neg (fun z => this z.2), if_neg (fun z => this z.2)]
    · have e2 : j < k + 1 ↔ j < k := by omega
      simp only [fs_mk, hj, e2]
theorem fs_mk_yes {nd : fs_D} {t k : Nat} {N : fs_N} (hk : nd k = some N) (h1 : k ≠ t) (h2 : fs_un nd k t = true) : fs_mk nd t (k + 1) = va_up (fs_mk nd t k) k (some (fs_st N true)) := by
  funext j
  by_cases e : j = k
  · subst e
    rw [vu_self]
    simp only [fs_mk, hk]
    rw [if_pos ⟨by omega, h1, h2⟩]
  · rw [vu_ne e]
    cases hj : nd j with
    | none => simp [fs_mk, hj]
    | some M =>
      have e2 : j < k + 1 ↔ j < k := by omega
      simp only [fs_mk, hj, e2]
theorem fs_mk_pa {nd : fs_D} {t i : Nat} (k : Nat) : (fs_mk nd t i k).map (fun N => N.2.1) = (nd k).map (fun N => N.2.1) := by
  cases h : nd k with
  | none => simp [fs_mk, h]
  | some N =>
    simp only [fs_mk, h, Option.map_some]
    split <;> rfl
theorem fs_ab_eq {nd nd2 : fs_D} (h : ∀ k, (nd2 k).map (fun N => N.2.1) = (nd k).map (fun N => N.2.1)) (k : Nat) : fs_ab nd2 k = fs_ab nd k := fs_an_eq h 21 k
theorem fs_un_eq {nd nd2 : fs_D} (h : ∀ k, (nd2 k).map (fun N => N.2.1) = (nd k).map (fun N => N.2.1)) (k t : Nat) : fs_un nd2 k t = fs_un nd k t := by unfold fs_un; rw [fs_ab_eq h]
theorem c_FR_mark_l {g : fw_G} {nc ns : Nat} {w : fw_W} {o gr na us : Nat} (h0 : w o = some (.inr (0, [.ref gr, .ref na, .int (nI us)]))) {nd : fs_D} {ad : Nat → Option Nat} {lq ld lc : Nat → Nat} {lt : Nat → List Nat} (hN : w na = some (fs_no g ad)) (hch : ∀ k N, nd k = some N → fs_ch nd k (fs_ab nd k)) {t b : Nat} {T : fs_N} (ht : nd t = some T) (hb : ad t = some b) : ∀ m k, k + m = 150 → ∀ w2, fs_rN g w2 (fs_mk nd t k) ad lq ld lc lt → fs_F2 w w2 → ∀ L : List (Nat × Value), L = [(0, .ref o), (1, .ref b), (2, .ref na), (3, .int (nI 150)), (4, .int (nI k))] → fw_R g m_FR_markStaleBelow (fun r u => r = .inl none ∧ fs_rN g u (fs_mk nd t 150) ad lq ld lc lt ∧ fs_F2 w u) nc ns w2 11 L [] := by
  intro m
  induction m with
  | zero =>
    intro k hk w2 hr hF L hL
    have hk2 : k = 150 := by omega
    subst hk2 hL
    refine fr_iload (pc := 11) d_FR_markStaleBelow_11 rfl ?_
    refine fr_iload_n (pc := 13) d_FR_markStaleBelow_13 rfl rfl ?_
    refine fr_icmp_ge (pc := 14) (tgt := 55) d_FR_markStaleBelow_14 (by decide) (fun q => ?_) (fun q => ?_)
    · exact fr_vret rfl d_FR_markStaleBelow_55 ⟨rfl, hr, hF⟩
    · exact absurd ((ni_le (a := 150) (b := 150) (by omega) (by omega)).mpr (by omega)) q
  | succ m ih =>
    intro k hk w2 hr hF L hL
    subst hL
    have hN2 : w2 na = some (fs_no g ad) := fs_F2_3 hF na hN (fun fs z => by cases z)
    refine fr_iload (pc := 11) d_FR_markStaleBelow_11 rfl ?_
    refine fr_iload_n (pc := 13) d_FR_markStaleBelow_13 rfl rfl ?_
    refine fr_icmp_ge (pc := 14) (tgt := 55) d_FR_markStaleBelow_14 (by decide) (fun q => ?_) (fun q => ?_)
    · exact absurd ((ni_le (a := 150) (by omega) (by omega)).mp q) (by omega)
    · refine fr_aload_n (pc := 17) d_FR_markStaleBelow_17 rfl rfl ?_
      refine fr_iload (pc := 18) d_FR_markStaleBelow_18 rfl ?_
      refine fr_aaldN (pc := 20) (t := 3) (n := 150) (k := k) (C := "FolderRights$Node") (f := ad) d_FR_markStaleBelow_20 rfl hN2 (by omega) (by omega) ?_
      cases hA : nd k with
      | none =>
        have hB : fs_mk nd t k k = none := fs_mk_at.trans hA
        refine fr_st (st2 := [.null]) (by rw [rf_none (hr.1 k hB)]) ?_
        refine fr_astoreN (pc := 21) (L2 := [(0, .ref o), (1, .ref b), (2, .ref na), (3, .int (nI 150)), (4, .int (nI k)), (5, .null)]) d_FR_markStaleBelow_21 (by decide) rfl ?_
        refine fr_aloadN (pc := 23) d_FR_markStaleBelow_23 rfl ?_
        refine fr_ifnullN (pc := 25) (tgt := 49) d_FR_markStaleBelow_25 (by decide) ?_
        refine fr_iinc (pc := 49) (v := (nI (k + 1))) (L2 := [(0, .ref o), (1, .ref b), (2, .ref na), (3, .int (nI 150)), (4, .int (nI (k + 1))), (5, .null)]) d_FR_markStaleBelow_49 rfl (fi_1 _) (by decide) rfl ?_
        refine fr_goto (pc := 52) (tgt := 11) d_FR_markStaleBelow_52 (by decide) ?_
        have e : fs_mk nd t (k + 1) = fs_mk nd t k := fs_mk_no (fun M hM z => by rw [hA] at hM; cases hM)
        rw [← e] at hr
        exact fr_Ld (ih (k + 1) (by omega) _ hr hF _ rfl)
      | some N =>
        have hB : fs_mk nd t k k = some N := fs_mk_at.trans hA
        obtain ⟨-, a, ha, hc, hl, hE⟩ := hr.2.1 k N hB
        refine fr_st (st2 := [.ref a]) (by rw [rf_some ha]) ?_
        refine fr_astore (pc := 21) (L2 := [(0, .ref o), (1, .ref b), (2, .ref na), (3, .int (nI 150)), (4, .int (nI k)), (5, .ref a)]) d_FR_markStaleBelow_21 (by decide) rfl ?_
        refine fr_aload (pc := 23) d_FR_markStaleBelow_23 rfl ?_
        refine fr_ifnull (pc := 25) d_FR_markStaleBelow_25 ?_
        refine fr_aload (pc := 28) d_FR_markStaleBelow_28 rfl ?_
        refine fr_aload_n (pc := 30) d_FR_markStaleBelow_30 rfl rfl ?_
        refine fr_acmp_eq (pc := 31) (tgt := 49) (ry := (some b)) (rx := (some a)) d_FR_markStaleBelow_31 (by decide) (fun z => ?_) (fun z => ?_)
        · refine fr_iinc (pc := 49) (v := (nI (k + 1))) (L2 := [(0, .ref o), (1, .ref b), (2, .ref na), (3, .int (nI 150)), (4, .int (nI (k + 1))), (5, .ref a)]) d_FR_markStaleBelow_49 rfl (fi_1 _) (by decide) rfl ?_
          refine fr_goto (pc := 52) (tgt := 11) d_FR_markStaleBelow_52 (by decide) ?_
          have hkt : k = t := by
            obtain ⟨T2, hT2⟩ : ∃ T2, fs_mk nd t k t = some T2 := by
              simp only [fs_mk, ht]; exact ⟨_, rfl⟩
            exact fs_inj hr hB hT2 ha (hb.trans z.symm)
          have e : fs_mk nd t (k + 1) = fs_mk nd t k := fs_mk_no (fun M hM z => by exact z.1 hkt)
          rw [← e] at hr
          exact fr_Ld (ih (k + 1) (by omega) _ hr hF _ rfl)
        · have hkt : k ≠ t := fun e => z (by rw [← ha, ← hb, e])
          refine fr_aload (pc := 34) d_FR_markStaleBelow_34 rfl ?_
          refine fr_aload_n (pc := 36) d_FR_markStaleBelow_36 rfl rfl ?_
          obtain ⟨T2, hT2⟩ : ∃ T2, fs_mk nd t k t = some T2 := by
            simp only [fs_mk, ht]; exact ⟨_, rfl⟩
          have hc2 : fs_ch (fs_mk nd t k) k (fs_ab (fs_mk nd t k) k) := by
            rw [fs_ab_eq fs_mk_pa]; exact fs_ch_eq fs_mk_pa _ _ (hch k N hA)
          have hun := fs_un_eq (nd := nd) (nd2 := fs_mk nd t k) fs_mk_pa k t
          refine fr_callv_p (pc := 37) (nc := nc) (ns := ns) (N := m_ND_liesWithin) (rest := []) (as := [.ref b]) d_FR_markStaleBelow_37 vc_FR_88 ⟨by decide, by decide, Nat.le_of_ble_eq_true rfl⟩ (Nat.le_of_ble_eq_true rfl) hc (c_lies hr hc2 ha hT2 hb) rfl ?_
          refine fr_if_eq (pc := 40) (tgt := 49) d_FR_markStaleBelow_40 (by decide) (fun y => ?_) (fun y => ?_)
          · refine fr_iinc (pc := 49) (v := (nI (k + 1))) (L2 := [(0, .ref o), (1, .ref b), (2, .ref na), (3, .int (nI 150)), (4, .int (nI (k + 1))), (5, .ref a)]) d_FR_markStaleBelow_49 rfl (fi_1 _) (by decide) rfl ?_
            refine fr_goto (pc := 52) (tgt := 11) d_FR_markStaleBelow_52 (by decide) ?_
            have hs := bI_0.mp y
            have e : fs_mk nd t (k + 1) = fs_mk nd t k := fs_mk_no (fun M hM z => by rw [hun] at hs; rw [hs] at z; exact absurd z.2 (by decide))
            rw [← e] at hr
            exact fr_Ld (ih (k + 1) (by omega) _ hr hF _ rfl)
          · have hs := ts_nf (fun x => y (bI_0.mpr x))
            rw [hun] at hs
            refine fr_aload (pc := 43) d_FR_markStaleBelow_43 rfl ?_
            refine fr_iconst (pc := 45) (v := 1) d_FR_markStaleBelow_45 (by decide) ?_
            refine fr_put (pc := 46) (fs2 := fs_nc k (fs_st N true) (lq k) (N.2.1.bind ad)) d_FR_markStaleBelow_46 fp_FR_markStaleBelow_110 hc (Nat.le_of_ble_eq_true rfl) rfl rfl rfl ?_
            have hr2 := fs_rN_put hr (N2 := fs_st N true) hB ha rfl
            rw [← fs_mk_yes hA hkt hs] at hr2
            refine fr_iinc (pc := 49) (v := (nI (k + 1))) (L2 := [(0, .ref o), (1, .ref b), (2, .ref na), (3, .int (nI 150)), (4, .int (nI (k + 1))), (5, .ref a)]) d_FR_markStaleBelow_49 rfl (fi_1 _) (by decide) rfl ?_
            refine fr_goto (pc := 52) (tgt := 11) d_FR_markStaleBelow_52 (by decide) ?_
            exact fr_Ld (ih (k + 1) (by omega) _ hr2 (fs_F2_up2 hF hc) _ rfl)
theorem c_FR_mark {g : fw_G} {nc ns : Nat} {w : fw_W} {o gr na us : Nat} (h0 : w o = some (.inr (0, [.ref gr, .ref na, .int (nI us)]))) {nd : fs_D} {ad : Nat → Option Nat} {lq ld lc : Nat → Nat} {lt : Nat → List Nat} (hN : w na = some (fs_no g ad)) (hch : ∀ k N, nd k = some N → fs_ch nd k (fs_ab nd k)) {t b : Nat} {T : fs_N} (ht : nd t = some T) (hb : ad t = some b) (hr : fs_rN g w nd ad lq ld lc lt) : fw_R g m_FR_markStaleBelow (fun r u => r = .inl none ∧ fs_rN g u (fs_mk nd t 150) ad lq ld lc lt ∧ fs_F2 w u) nc ns w 0 [(0, .ref o), (1, .ref b)] [] := by
  refine fr_aload_n (pc := 0) d_FR_markStaleBelow_0 rfl rfl ?_
  refine fr_get (pc := 1) (v := .ref na) d_FR_markStaleBelow_1 fg_FR_18 h0 rfl ?_
  refine fr_astore_n (pc := 4) (L2 := [(0, .ref o), (1, .ref b), (2, .ref na)]) d_FR_markStaleBelow_4 rfl (by decide) rfl ?_
  refine fr_aload_n (pc := 5) d_FR_markStaleBelow_5 rfl rfl ?_
  refine fr_alen (pc := 6) (t := 3) (v := (nI 150)) d_FR_markStaleBelow_6 rfl hN rfl ?_
  refine fr_istore_n (pc := 7) (L2 := [(0, .ref o), (1, .ref b), (2, .ref na), (3, .int (nI 150))]) d_FR_markStaleBelow_7 rfl (by decide) rfl ?_
  refine fr_iconst (pc := 8) (v := 0) d_FR_markStaleBelow_8 (by decide) ?_
  refine fr_istore (pc := 9) (L2 := [(0, .ref o), (1, .ref b), (2, .ref na), (3, .int (nI 150)), (4, .int 0)]) d_FR_markStaleBelow_9 (by decide) rfl ?_
  exact c_FR_mark_l h0 hN hch ht hb 150 0 rfl w (by rw [fs_mk_0]; exact hr) fs_F2_id _ rfl

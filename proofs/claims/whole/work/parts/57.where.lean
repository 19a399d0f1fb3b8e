def fs_wk (nd : fs_D) (i : Nat) : fs_D := fun k => match nd k with
  | some N => some (if k < i then fs_st N false else N)
  | none => none
theorem fs_wk_0 {nd : fs_D} : fs_wk nd 0 = nd := by
  funext k
  cases h : nd k with
  | none => simp [fs_wk, h]
  | some N => simp [fs_wk, h]
theorem fs_wk_at {nd : fs_D} {k : Nat} : fs_wk nd k k = nd k := by
  cases h : nd k with
  | none => simp [fs_wk, h]
  | some N => simp [fs_wk, h]
theorem fs_wk_no {nd : fs_D} {k : Nat} (h : nd k = none) : fs_wk nd (k + 1) = fs_wk nd k := by
  funext j
  cases hj : nd j with
  | none => simp [fs_wk, hj]
  | some N =>
    have e : j ≠ k := fun e => by subst e; rw [h] at hj; cases hj
    have e2 : j < k + 1 ↔ j < k := by omega
    simp only [fs_wk, hj, e2]
theorem fs_wk_yes {nd : fs_D} {k : Nat} {N : fs_N} (h : nd k = some N) : fs_wk nd (k + 1) = va_up (fs_wk nd k) k (some (fs_st N false)) := by
  funext j
  by_cases e : j = k
  · subst e
    rw [vu_self]
    simp only [fs_wk, h]
    rw [if_pos (by omega)]
  · rw [vu_ne e]
    cases hj : nd j with
    | none => simp [fs_wk, hj]
    | some M =>
      have e2 : j < k + 1 ↔ j < k := by omega
      simp only [fs_wk, hj, e2]
theorem fs_wk_pa {nd : fs_D} {i : Nat} (k : Nat) : (fs_wk nd i k).map (fun N => N.2.1) = (nd k).map (fun N => N.2.1) := by
  cases h : nd k with
  | none => simp [fs_wk, h]
  | some N =>
    simp only [fs_wk, h, Option.map_some]
    split <;> rfl
theorem fs_ok_wk {us n : Nat} {nd : fs_D} (h : fs_ok us n nd) {i : Nat} : fs_ok us n (fs_wk nd i) := by
  refine fs_ok_t h fs_wk_pa (fun j M hj => ?_)
  cases hk : nd j with
  | none => simp [fs_wk, hk] at hj
  | some N =>
    obtain ⟨-, -, e3, e4, e5, -⟩ := h.2.2.2.2 j N hk
    simp only [fs_wk, hk] at hj
    split at hj <;> (cases hj; exact ⟨e3, e4, e5⟩)
noncomputable def fs_wp (hu hg : Nat → Nat → Bool) (nd : fs_D) (r u i : Nat) : Bool := match nd i with
  | some N => fs_has hu hg (fs_wk nd (i + 1)) (fs_st N false) i r u
  | none => false
def fs_wS (nd : fs_D) (q : Option Nat) : fs_D := match q with
  | some i => fs_wk nd (i + 1)
  | none => fs_wk nd 150
theorem c_FR_where_l {g : fw_G} {nc ns : Nat} {w : fw_W} {o gr na us : Nat} (h0 : w o = some (.inr (0, [.ref gr, .ref na, .int (nI us)]))) {ng a1 a2 a3 a4 : Nat} {f1 f2 f3 f4 : Nat → Int64} (hG : gr_at g w gr a1 a2 a3 a4 ng f1 f2 f3 f4) {nd : fs_D} {ad : Nat → Option Nat} {lq ld lc : Nat → Nat} {lt : Nat → List Nat} (hN : w na = some (fs_no g ad)) (hok : fs_ok us ng nd) {hu hg : Nat → Nat → Bool} (hR : gr_rep hu hg ng us f1 f2 f3 f4) {r u qq : Nat} (hr8 : r < 8) (hu2 : u < us) (hq : qq < 2 ^ 31) : ∀ m i c, i + m = 150 → c ≤ i → ∀ w2, fs_rN g w2 (fs_wk nd i) ad lq ld lc lt → fs_F2 w w2 → ∀ L : List (Nat × Value), L = [(0, .ref o), (1, .int (nI u)), (2, .int (nI r)), (3, .int (nI qq)), (4, .int (nI c)), (5, .ref na), (6, .int (nI 150)), (7, .int (nI i))] → fw_R g m_FR_where (fun r9 u9 => r9 = .inl (some (.int (fs_ov (fs_wh (fs_wp hu hg nd r u) qq m i c)))) ∧ fs_rN g u9 (fs_wS nd (fs_wh (fs_wp hu hg nd r u) qq m i c)) ad lq ld lc lt ∧ fs_F2 w u9) nc ns w2 30 L [] := by
  have hus := hok.2.1
  intro m
  induction m with
  | zero =>
    intro i c hi hci w2 hr hF L hL
    have hk2 : i = 150 := by omega
    subst hk2 hL
    refine fr_iload (pc := 30) d_FR_where_30 rfl ?_
    refine fr_iload (pc := 32) d_FR_where_32 rfl ?_
    refine fr_icmp_ge (pc := 34) (tgt := 90) d_FR_where_34 (by decide) (fun q => ?_) (fun q => ?_)
    · refine fr_iconst (pc := 90) (v := -1) d_FR_where_90 (by decide) ?_
      exact fr_iret rfl d_FR_where_91 ⟨rfl, hr, hF⟩
    · exact absurd ((ni_le (a := 150) (b := 150) (by omega) (by omega)).mpr (by omega)) q
  | succ m ih =>
    intro i c hi hci w2 hr hF L hL
    subst hL
    have hN2 : w2 na = some (fs_no g ad) := fs_F2_3 hF na hN (fun fs z => by cases z)
    refine fr_iload (pc := 30) d_FR_where_30 rfl ?_
    refine fr_iload (pc := 32) d_FR_where_32 rfl ?_
    refine fr_icmp_ge (pc := 34) (tgt := 90) d_FR_where_34 (by decide) (fun q => ?_) (fun q => ?_)
    · exact absurd ((ni_le (a := 150) (by omega) (by omega)).mp q) (by omega)
    · refine fr_aload (pc := 37) d_FR_where_37 rfl ?_
      refine fr_iload (pc := 39) d_FR_where_39 rfl ?_
      refine fr_aaldN (pc := 41) (t := 3) (n := 150) (k := i) (C := "FolderRights$Node") (f := ad) d_FR_where_41 rfl hN2 (by omega) (by omega) ?_
      cases hA : nd i with
      | none =>
        refine fr_st (st2 := [.null]) (by rw [rf_none (hr.1 i (fs_wk_at.trans hA))]) ?_
        refine fr_astoreN (pc := 42) (L2 := [(0, .ref o), (1, .int (nI u)), (2, .int (nI r)), (3, .int (nI qq)), (4, .int (nI c)), (5, .ref na), (6, .int (nI 150)), (7, .int (nI i)), (8, .null)]) d_FR_where_42 (by decide) rfl ?_
        refine fr_aloadN (pc := 44) d_FR_where_44 rfl ?_
        refine fr_ifnullN (pc := 46) (tgt := 84) d_FR_where_46 (by decide) ?_
        refine fr_iinc (pc := 84) (v := (nI (i + 1))) (L2 := [(0, .ref o), (1, .int (nI u)), (2, .int (nI r)), (3, .int (nI qq)), (4, .int (nI c)), (5, .ref na), (6, .int (nI 150)), (7, .int (nI (i + 1))), (8, .null)]) d_FR_where_84 rfl (fi_1 _) (by decide) rfl ?_
        refine fr_goto (pc := 87) (tgt := 30) d_FR_where_87 (by decide) ?_
        have hP : fs_wp hu hg nd r u i = false := by simp [fs_wp, hA]
        rw [← fs_wk_no hA] at hr
        have e : fs_wh (fs_wp hu hg nd r u) qq (m + 1) i c = fs_wh (fs_wp hu hg nd r u) qq m (i + 1) c := by rw [fs_wh, if_neg (by rw [hP]; decide)]
        rw [e]
        exact fr_Ld (ih (i + 1) c (by omega) (by omega) _ hr hF _ rfl)
      | some N =>
        have hB : fs_wk nd i i = some N := fs_wk_at.trans hA
        obtain ⟨-, a, ha, hc, -, -⟩ := hr.2.1 i N hB
        refine fr_st (st2 := [.ref a]) (by rw [rf_some ha]) ?_
        refine fr_astore (pc := 42) (L2 := [(0, .ref o), (1, .int (nI u)), (2, .int (nI r)), (3, .int (nI qq)), (4, .int (nI c)), (5, .ref na), (6, .int (nI 150)), (7, .int (nI i)), (8, .ref a)]) d_FR_where_42 (by decide) rfl ?_
        refine fr_aload (pc := 44) d_FR_where_44 rfl ?_
        refine fr_ifnull (pc := 46) d_FR_where_46 ?_
        refine fr_aload (pc := 49) d_FR_where_49 rfl ?_
        refine fr_iconst (pc := 51) (v := 0) d_FR_where_51 (by decide) ?_
        refine fr_put (pc := 52) (fs2 := fs_nc i (fs_st N false) (lq i) (N.2.1.bind ad)) d_FR_where_52 fp_FR_where_110 hc (Nat.le_of_ble_eq_true rfl) rfl rfl rfl ?_
        have hr3 := fs_rN_put hr (N2 := fs_st N false) hB ha rfl
        rw [← fs_wk_yes hA] at hr3
        have hF3 := fs_F2_up2 (x := .inr (2, fs_nc i (fs_st N false) (lq i) (N.2.1.bind ad))) hF hc
        have h03 := fs_F2_3 hF3 _ h0 (fun fs z => by cases z)
        have hG3 := fs_gr_fr hG (fun b e hb h1 _ => fs_F2_3 hF3 b hb (fun fs z => by have := h1 2 fs z; omega))
        have hok3 : fs_ok us ng (fs_wk nd (i + 1)) := fs_ok_wk hok
        have hA3 : fs_wk nd (i + 1) i = some (fs_st N false) := by rw [fs_wk_yes hA, vu_self]
        refine fr_aload_n (pc := 55) d_FR_where_55 rfl rfl ?_
        refine fr_aload (pc := 56) d_FR_where_56 rfl ?_
        refine fr_iload_n (pc := 58) d_FR_where_58 rfl rfl ?_
        refine fr_callv_p (pc := 59) (nc := nc) (ns := ns) (N := m_FR_holders) (rest := []) (as := [.ref a, .int (nI r)]) d_FR_where_59 vc_FR_159 ⟨by decide, by decide, Nat.le_of_ble_eq_true rfl⟩ (Nat.le_of_ble_eq_true rfl) h03 (c_FR_hold h03 hG3 hr3 hok3 hA3 ha hr8) rfl ?_
        refine fr_iload_n (pc := 62) d_FR_where_62 rfl rfl ?_
        refine fr_calls_p (pc := 63) (nc := nc) (ns := ns) (N := m_FR_isSet) (rest := []) (as := [.long (fs_hs (fs_wk nd (i + 1)) f4 (fs_st N false) i r (if r = 7 then (1 : Int64) <<< ((nI (fs_st N false).2.2.1).toInt64 &&& 63) else 0) (if r = 7 then (1 : Int64) <<< ((nI (fs_st N false).2.2.1).toInt64 &&& 63) else 0) (fs_ls (fs_wk nd (i + 1)) i)), .int (nI u)]) d_FR_where_63 k_FR_isSet lk_FR_163 sc_FR_isSet np_FR_isSet ⟨by decide, by decide, Nat.le_of_ble_eq_true rfl⟩ (Nat.le_of_ble_eq_true rfl) (c_FR_isSet (by omega)) rfl ?_
        have hP : bb (fs_hs (fs_wk nd (i + 1)) f4 (fs_st N false) i r (if r = 7 then (1 : Int64) <<< ((nI (fs_st N false).2.2.1).toInt64 &&& 63) else 0) (if r = 7 then (1 : Int64) <<< ((nI (fs_st N false).2.2.1).toInt64 &&& 63) else 0) (fs_ls (fs_wk nd (i + 1)) i)) u = fs_wp hu hg nd r u i := by rw [fs_hold_b hR hok3 hA3 (by omega)]; simp [fs_wp, hA]
        rw [hP]
        refine fr_if_eq (pc := 66) (tgt := 84) d_FR_where_66 (by decide) (fun q2 => ?_) (fun q2 => ?_)
        · refine fr_iinc (pc := 84) (v := (nI (i + 1))) (L2 := [(0, .ref o), (1, .int (nI u)), (2, .int (nI r)), (3, .int (nI qq)), (4, .int (nI c)), (5, .ref na), (6, .int (nI 150)), (7, .int (nI (i + 1))), (8, .ref a)]) d_FR_where_84 rfl (fi_1 _) (by decide) rfl ?_
          refine fr_goto (pc := 87) (tgt := 30) d_FR_where_87 (by decide) ?_
          have e : fs_wh (fs_wp hu hg nd r u) qq (m + 1) i c = fs_wh (fs_wp hu hg nd r u) qq m (i + 1) c := by rw [fs_wh, if_neg (by rw [bI_0.mp q2]; decide)]
          rw [e]
          exact fr_Ld (ih (i + 1) c (by omega) (by omega) _ hr3 hF3 _ rfl)
        · have hP2 := ts_nf (fun z => q2 (bI_0.mpr z))
          refine fr_iload (pc := 69) d_FR_where_69 rfl ?_
          refine fr_iload_n (pc := 71) d_FR_where_71 rfl rfl ?_
          refine fr_icmp_ne (pc := 72) (tgt := 81) d_FR_where_72 (by decide) (fun q3 => ?_) (fun q3 => ?_)
          · have hne : ¬ c = qq := fun z => q3 (by rw [z])
            refine fr_iinc (pc := 81) (v := (nI (c + 1))) (L2 := [(0, .ref o), (1, .int (nI u)), (2, .int (nI r)), (3, .int (nI qq)), (4, .int (nI (c + 1))), (5, .ref na), (6, .int (nI 150)), (7, .int (nI i)), (8, .ref a)]) d_FR_where_81 rfl (fi_1 _) (by decide) rfl ?_
            refine fr_iinc (pc := 84) (v := (nI (i + 1))) (L2 := [(0, .ref o), (1, .int (nI u)), (2, .int (nI r)), (3, .int (nI qq)), (4, .int (nI (c + 1))), (5, .ref na), (6, .int (nI 150)), (7, .int (nI (i + 1))), (8, .ref a)]) d_FR_where_84 rfl (fi_1 _) (by decide) rfl ?_
            refine fr_goto (pc := 87) (tgt := 30) d_FR_where_87 (by decide) ?_
            have e : fs_wh (fs_wp hu hg nd r u) qq (m + 1) i c = fs_wh (fs_wp hu hg nd r u) qq m (i + 1) (c + 1) := by rw [fs_wh, if_pos hP2, if_neg hne]
            rw [e]
            exact fr_Ld (ih (i + 1) (c + 1) (by omega) (by omega) _ hr3 hF3 _ rfl)
          · have heq : c = qq := (ni_eq (by omega) hq).mp q3
            refine fr_aload (pc := 75) d_FR_where_75 rfl ?_
            refine fr_get (pc := 77) (v := .int (nI i)) d_FR_where_77 fg_FR_186 fw_up_self rfl ?_
            have e : fs_wh (fs_wp hu hg nd r u) qq (m + 1) i c = some i := by rw [fs_wh, if_pos hP2, if_pos heq]
            rw [e]
            exact fr_iret rfl d_FR_where_80 ⟨rfl, hr3, hF3⟩
theorem p_FR_where_ok {g : fw_G} {w : fw_W} {o gr a1 a2 a3 a4 na us n : Nat} {hu hg : Nat → Nat → Bool} {nd : fs_D} (hX : fs_X g (o, gr, a1, a2, a3, a4, na) (us, n, hu, hg, nd) w) {u r qq : Nat} (hu2 : u < us) (hr8 : r < 8) (hq : qq < 2 ^ 31) : fw_R g m_FR_where (fs_P g (o, gr, a1, a2, a3, a4, na) w (.inl (some (.int (fs_ov (fs_wh (fs_wp hu hg nd r u) qq 150 0 0))))) (us, n, hu, hg, fs_wS nd (fs_wh (fs_wp hu hg nd r u) qq 150 0 0))) 3 18 w 0 [(0, .ref o), (1, .int (nI u)), (2, .int (nI r)), (3, .int (nI qq))] [] := by
  obtain ⟨f1, f2, f3, f4, ad, lq, ld, lc, lt, hok, h0, hG, hR, hN, hr⟩ := fs_X_el hX
  have hb : n < 2 ^ 31 := by have := hok.2.2.1; omega
  have hb2 : us < 2 ^ 31 := by have := hok.2.1; omega
  have hoS : fs_ok us n (fs_wS nd (fs_wh (fs_wp hu hg nd r u) qq 150 0 0)) := by
    unfold fs_wS; split <;> exact fs_ok_wk hok
  refine fr_po (fun r9 u9 h => ?_) (Post := (fun r9 u9 => r9 = .inl (some (.int (fs_ov (fs_wh (fs_wp hu hg nd r u) qq 150 0 0)))) ∧ fs_rN g u9 (fs_wS nd (fs_wh (fs_wp hu hg nd r u) qq 150 0 0)) ad lq ld lc lt ∧ fs_F2 w u9)) ?_
  · obtain ⟨e1, e2, e3⟩ := h; exact ⟨e1, fs_X_F2 hoS h0 hG hR hN e3 e2, fs_F2_Fr e3⟩
  refine fr_aload_n (pc := 0) d_FR_where_0 rfl rfl ?_
  refine fr_iload_n (pc := 1) d_FR_where_1 rfl rfl ?_
  refine fr_callv_n (pc := 2) (nc := 2) (ns := 12) (N := m_FR_requireUser) (rest := []) (as := [.int (nI u)]) d_FR_where_2 vc_FR_67 ⟨by decide, by decide, Nat.le_of_ble_eq_true rfl⟩ (Nat.le_of_ble_eq_true rfl) h0 (c_FR_requireUser h0 hu2 hb2) rfl ?_
  refine fr_iload_n (pc := 5) d_FR_where_5 rfl rfl ?_
  refine fr_calls_n (pc := 6) (nc := 1) (ns := 6) (N := m_FR_requireRight) (rest := []) (as := [.int (nI r)]) d_FR_where_6 k_FR_requireRight lk_FR_167 sc_FR_requireRight np_FR_requireRight ⟨by decide, by decide, Nat.le_of_ble_eq_true rfl⟩ (Nat.le_of_ble_eq_true rfl) (c_FR_requireRight hr8) rfl ?_
  refine fr_iload_n (pc := 9) d_FR_where_9 rfl rfl ?_
  refine fr_calls_n (pc := 10) (nc := 0) (ns := 0) (N := m_FR_requirePlace) (rest := []) (as := [.int (nI qq)]) d_FR_where_10 k_FR_requirePlace lk_FR_193 sc_FR_requirePlace np_FR_requirePlace ⟨by decide, by decide, Nat.le_of_ble_eq_true rfl⟩ (Nat.le_of_ble_eq_true rfl) (c_FR_requirePlace (ix_nn hq)) rfl ?_
  refine fr_iconst (pc := 13) (v := 0) d_FR_where_13 (by decide) ?_
  refine fr_istore (pc := 14) (L2 := [(0, .ref o), (1, .int (nI u)), (2, .int (nI r)), (3, .int (nI qq)), (4, .int 0)]) d_FR_where_14 (by decide) rfl ?_
  refine fr_aload_n (pc := 16) d_FR_where_16 rfl rfl ?_
  refine fr_get (pc := 17) (v := .ref na) d_FR_where_17 fg_FR_18 h0 rfl ?_
  refine fr_astore (pc := 20) (L2 := [(0, .ref o), (1, .int (nI u)), (2, .int (nI r)), (3, .int (nI qq)), (4, .int 0), (5, .ref na)]) d_FR_where_20 (by decide) rfl ?_
  refine fr_aload (pc := 22) d_FR_where_22 rfl ?_
  refine fr_alen (pc := 24) (t := 3) (v := (nI 150)) d_FR_where_24 rfl hN rfl ?_
  refine fr_istore (pc := 25) (L2 := [(0, .ref o), (1, .int (nI u)), (2, .int (nI r)), (3, .int (nI qq)), (4, .int 0), (5, .ref na), (6, .int (nI 150))]) d_FR_where_25 (by decide) rfl ?_
  refine fr_iconst (pc := 27) (v := 0) d_FR_where_27 (by decide) ?_
  refine fr_istore (pc := 28) (L2 := [(0, .ref o), (1, .int (nI u)), (2, .int (nI r)), (3, .int (nI qq)), (4, .int 0), (5, .ref na), (6, .int (nI 150)), (7, .int 0)]) d_FR_where_28 (by decide) rfl ?_
  exact c_FR_where_l h0 hG hN hok hR hr8 hu2 hq 150 0 0 rfl (Nat.le_refl _) w (by rw [fs_wk_0]; exact hr) fs_F2_id _ rfl
theorem p_FR_where_n1 {g : fw_G} {w : fw_W} {o gr a1 a2 a3 a4 na us n : Nat} {hu hg : Nat → Nat → Bool} {nd : fs_D} (hX : fs_X g (o, gr, a1, a2, a3, a4, na) (us, n, hu, hg, nd) w) {x y z : Int32} (hx : fs_no2 x us) : fw_R g m_FR_where (fs_P g (o, gr, a1, a2, a3, a4, na) w (.inr "java/util/NoSuchElementException") (us, n, hu, hg, nd)) 3 18 w 0 [(0, .ref o), (1, .int x), (2, .int y), (3, .int z)] [] := by
  obtain ⟨f1, f2, f3, f4, ad, lq, ld, lc, lt, hok, h0, hG, hR, hN, hr⟩ := fs_X_el hX
  have hb : n < 2 ^ 31 := by have := hok.2.2.1; omega
  have hb2 : us < 2 ^ 31 := by have := hok.2.1; omega
  refine fr_aload_n (pc := 0) d_FR_where_0 rfl rfl ?_
  refine fr_iload_n (pc := 1) d_FR_where_1 rfl rfl ?_
  refine fr_callv_x (pc := 2) (nc := 2) (ns := 12) (N := m_FR_requireUser) (rest := []) (as := [.int x]) d_FR_where_2 vc_FR_67 ⟨by decide, by decide, Nat.le_of_ble_eq_true rfl⟩ (Nat.le_of_ble_eq_true rfl) h0 (x_FR_requireUser h0 hx hb2) rfl ?_
  exact fx_out (by decide) ⟨rfl, hX, fs_Fr_id⟩
theorem p_FR_where_n2 {g : fw_G} {w : fw_W} {o gr a1 a2 a3 a4 na us n : Nat} {hu hg : Nat → Nat → Bool} {nd : fs_D} (hX : fs_X g (o, gr, a1, a2, a3, a4, na) (us, n, hu, hg, nd) w) {u : Nat} {y z : Int32} (hu2 : u < us) (hy : fs_no2 y 8) : fw_R g m_FR_where (fs_P g (o, gr, a1, a2, a3, a4, na) w (.inr "java/lang/IllegalArgumentException") (us, n, hu, hg, nd)) 3 18 w 0 [(0, .ref o), (1, .int (nI u)), (2, .int y), (3, .int z)] [] := by
  obtain ⟨f1, f2, f3, f4, ad, lq, ld, lc, lt, hok, h0, hG, hR, hN, hr⟩ := fs_X_el hX
  have hb : n < 2 ^ 31 := by have := hok.2.2.1; omega
  have hb2 : us < 2 ^ 31 := by have := hok.2.1; omega
  refine fr_aload_n (pc := 0) d_FR_where_0 rfl rfl ?_
  refine fr_iload_n (pc := 1) d_FR_where_1 rfl rfl ?_
  refine fr_callv_n (pc := 2) (nc := 2) (ns := 12) (N := m_FR_requireUser) (rest := []) (as := [.int (nI u)]) d_FR_where_2 vc_FR_67 ⟨by decide, by decide, Nat.le_of_ble_eq_true rfl⟩ (Nat.le_of_ble_eq_true rfl) h0 (c_FR_requireUser h0 hu2 hb2) rfl ?_
  refine fr_iload_n (pc := 5) d_FR_where_5 rfl rfl ?_
  refine fr_calls_x (pc := 6) (nc := 1) (ns := 6) (N := m_FR_requireRight) (rest := []) (as := [.int y]) d_FR_where_6 k_FR_requireRight lk_FR_167 sc_FR_requireRight np_FR_requireRight ⟨by decide, by decide, Nat.le_of_ble_eq_true rfl⟩ (Nat.le_of_ble_eq_true rfl) (x_FR_requireRight hy) rfl ?_
  exact fx_out (by decide) ⟨rfl, hX, fs_Fr_id⟩
theorem p_FR_where_n3 {g : fw_G} {w : fw_W} {o gr a1 a2 a3 a4 na us n : Nat} {hu hg : Nat → Nat → Bool} {nd : fs_D} (hX : fs_X g (o, gr, a1, a2, a3, a4, na) (us, n, hu, hg, nd) w) {u r : Nat} {z : Int32} (hu2 : u < us) (hr8 : r < 8) (hz : z < 0) : fw_R g m_FR_where (fs_P g (o, gr, a1, a2, a3, a4, na) w (.inr "java/lang/IllegalArgumentException") (us, n, hu, hg, nd)) 3 18 w 0 [(0, .ref o), (1, .int (nI u)), (2, .int (nI r)), (3, .int z)] [] := by
  obtain ⟨f1, f2, f3, f4, ad, lq, ld, lc, lt, hok, h0, hG, hR, hN, hr⟩ := fs_X_el hX
  have hb : n < 2 ^ 31 := by have := hok.2.2.1; omega
  have hb2 : us < 2 ^ 31 := by have := hok.2.1; omega
  refine fr_aload_n (pc := 0) d_FR_where_0 rfl rfl ?_
  refine fr_iload_n (pc := 1) d_FR_where_1 rfl rfl ?_
  refine fr_callv_n (pc := 2) (nc := 2) (ns := 12) (N := m_FR_requireUser) (rest := []) (as := [.int (nI u)]) d_FR_where_2 vc_FR_67 ⟨by decide, by decide, Nat.le_of_ble_eq_true rfl⟩ (Nat.le_of_ble_eq_true rfl) h0 (c_FR_requireUser h0 hu2 hb2) rfl ?_
  refine fr_iload_n (pc := 5) d_FR_where_5 rfl rfl ?_
  refine fr_calls_n (pc := 6) (nc := 1) (ns := 6) (N := m_FR_requireRight) (rest := []) (as := [.int (nI r)]) d_FR_where_6 k_FR_requireRight lk_FR_167 sc_FR_requireRight np_FR_requireRight ⟨by decide, by decide, Nat.le_of_ble_eq_true rfl⟩ (Nat.le_of_ble_eq_true rfl) (c_FR_requireRight hr8) rfl ?_
  refine fr_iload_n (pc := 9) d_FR_where_9 rfl rfl ?_
  refine fr_calls_x (pc := 10) (nc := 0) (ns := 0) (N := m_FR_requirePlace) (rest := []) (as := [.int z]) d_FR_where_10 k_FR_requirePlace lk_FR_193 sc_FR_requirePlace np_FR_requirePlace ⟨by decide, by decide, Nat.le_of_ble_eq_true rfl⟩ (Nat.le_of_ble_eq_true rfl) (x_FR_requirePlace hz) rfl ?_
  exact fx_out (by decide) ⟨rfl, hX, fs_Fr_id⟩

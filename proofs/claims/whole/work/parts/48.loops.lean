theorem fr_Ld {g : fw_G} {M : fw_M} {Post : fw_O → fw_W → Prop} {nc ns : Nat} {w : fw_W} {pc : Nat} {L : List (Nat × Value)} {rest : List Value} (kk : fw_R g M Post nc ns w pc L.dropLast rest) : fw_R g M Post nc ns w pc L rest := fr_L (fun _ hq => List.dropLast_subset _ hq) kk
theorem ni_add (a b : Nat) : nI a + nI b = nI (a + b) := (Int32.ofNat_add a b).symm
theorem ni_sub {a b : Nat} (h : b ≤ a) : nI a - nI b = nI (a - b) := by
  have e : nI a = nI (a - b) + nI b := by rw [ni_add]; congr 1; omega
  rw [e]; exact Int32.add_sub_cancel _ _
def fs_sum (f : Nat → Nat) : Nat → Nat → Nat
  | 0, _ => 0
  | m + 1, k => f k + fs_sum f m (k + 1)
def fs_hi (f : Nat → Nat) : Nat → Nat → Nat → Nat
  | 0, _, c => c
  | m + 1, k, c => fs_hi f m (k + 1) (max c (f k))
theorem fs_an_eq {nd nd2 : fs_D} (h : ∀ k, (nd2 k).map (fun N => N.2.1) = (nd k).map (fun N => N.2.1)) : ∀ f k, fs_an nd2 f k = fs_an nd f k := by
  intro f
  induction f with
  | zero => intro k; rfl
  | succ f ih =>
    intro k
    have hk := h k
    cases h1 : nd k with
    | none =>
      rw [h1] at hk
      cases h2 : nd2 k with
      | none => simp [fs_an, h1, h2]
      | some N2 => rw [h2] at hk; cases hk
    | some N =>
      rw [h1] at hk
      cases h2 : nd2 k with
      | none => rw [h2] at hk; cases hk
      | some N2 =>
        rw [h2] at hk
        have hk3 : N2.2.1 = N.2.1 := Option.some.inj hk
        cases h3 : N.2.1 with
        | none => simp [fs_an, h1, h2, hk3, h3]
        | some p => simp [fs_an, h1, h2, hk3, h3, ih p]
theorem fs_ch_eq {nd nd2 : fs_D} (h : ∀ k, (nd2 k).map (fun N => N.2.1) = (nd k).map (fun N => N.2.1)) : ∀ l k, fs_ch nd k l → fs_ch nd2 k l := by
  have key : ∀ k N, nd k = some N → ∃ N2, nd2 k = some N2 ∧ N2.2.1 = N.2.1 := by
    intro k N hN
    have hk := h k
    rw [hN] at hk
    cases h2 : nd2 k with
    | none => rw [h2] at hk; cases hk
    | some N2 => rw [h2] at hk; exact ⟨N2, rfl, Option.some.inj hk⟩
  intro l
  induction l with
  | nil =>
    rintro k ⟨N, h1, h2⟩
    obtain ⟨N2, e1, e2⟩ := key k N h1
    exact ⟨N2, e1, e2.trans h2⟩
  | cons p t ih =>
    rintro k ⟨⟨N, h1, h2⟩, h3⟩
    obtain ⟨N2, e1, e2⟩ := key k N h1
    exact ⟨⟨N2, e1, e2.trans h2⟩, ih p h3⟩
theorem fs_ch_tail {nd : fs_D} : ∀ (l : List Nat) (k t : Nat), fs_ch nd k l → t ∈ l → ∃ l2, fs_ch nd t l2 ∧ l2.length < l.length := by
  intro l
  induction l with
  | nil => intro k t _ h; cases h
  | cons p r ih =>
    intro k t h hm
    rcases List.mem_cons.mp hm with rfl | hm
    · exact ⟨r, h.2, by simp⟩
    · obtain ⟨l2, e1, e2⟩ := ih p t h.2 hm
      exact ⟨l2, e1, by simp only [List.length_cons]; omega⟩
theorem fs_ch_uq {nd : fs_D} : ∀ (l l2 : List Nat) (k : Nat), fs_ch nd k l → fs_ch nd k l2 → l = l2 := by
  intro l
  induction l with
  | nil =>
    intro l2 k h1 h2
    obtain ⟨N, e1, e2⟩ := h1
    cases l2 with
    | nil => rfl
    | cons p t => obtain ⟨⟨M, f1, f2⟩, -⟩ := h2; rw [e1] at f1; cases f1; rw [e2] at f2; cases f2
  | cons p r ih =>
    intro l2 k h1 h2
    obtain ⟨⟨N, e1, e2⟩, e3⟩ := h1
    cases l2 with
    | nil => obtain ⟨M, f1, f2⟩ := h2; rw [e1] at f1; cases f1; rw [e2] at f2; cases f2
    | cons p2 t => obtain ⟨⟨M, f1, f2⟩, f3⟩ := h2; rw [e1] at f1; cases f1; rw [e2] at f2; cases f2; rw [ih t p e3 f3]
theorem fs_dep_le {nd : fs_D} {k t : Nat} (hk : fs_ch nd k (fs_ab nd k)) (ht : fs_ch nd t (fs_ab nd t)) (h : fs_un nd k t = true) : (fs_ab nd t).length ≤ (fs_ab nd k).length := by
  rcases of_decide_eq_true h with rfl | hm
  · exact Nat.le_refl _
  · obtain ⟨l2, e1, e2⟩ := fs_ch_tail _ _ _ hk hm
    rw [fs_ch_uq _ _ _ ht e1]; omega
theorem fs_par {g : fw_G} {w : fw_W} {nd : fs_D} {ad : Nat → Option Nat} {lq ld lc : Nat → Nat} {lt : Nat → List Nat} (h : fs_rN g w nd ad lq ld lc lt) {k t b : Nat} {N T : fs_N} (hN : nd k = some N) (hc : fs_ch nd k (fs_ab nd k)) (ht : nd t = some T) (hb : ad t = some b) : N.2.1.bind ad = some b ↔ N.2.1 = some t := by
  constructor
  · intro hh
    cases hp : N.2.1 with
    | none => rw [hp] at hh; cases hh
    | some p =>
      rw [hp] at hh
      have hh2 : ad p = some b := hh
      cases hA : nd p with
      | none => rw [h.1 p hA] at hh2; cases hh2
      | some P => rw [fs_inj h hA ht hh2 hb]
  · intro hh
    rw [hh]; exact hb
theorem c_dep {g : fw_G} {nc ns : Nat} {w : fw_W} {nd : fs_D} {ad : Nat → Option Nat} {lq ld lc : Nat → Nat} {lt : Nat → List Nat} (hr : fs_rN g w nd ad lq ld lc lt) {k a : Nat} (hc : fs_ch nd k (fs_ab nd k)) (ha : ad k = some a) : fw_R g m_ND_depth (fw_pv (.int (nI (fs_ab nd k).length)) w) nc ns w 0 [(0, .ref a)] [] := by
  obtain ⟨l2, e1, e2⟩ := fs_cl hr _ _ _ hc ha
  have e3 : l2.length = (fs_ab nd k).length := by have := congrArg List.length e2; simpa using this
  rw [← e3]
  exact c_ND_depth e1
theorem c_lies {g : fw_G} {nc ns : Nat} {w : fw_W} {nd : fs_D} {ad : Nat → Option Nat} {lq ld lc : Nat → Nat} {lt : Nat → List Nat} (hr : fs_rN g w nd ad lq ld lc lt) {k a t b : Nat} {T : fs_N} (hc : fs_ch nd k (fs_ab nd k)) (ha : ad k = some a) (ht : nd t = some T) (hb : ad t = some b) : fw_R g m_ND_liesWithin (fw_pv (.int (bI (fs_un nd k t))) w) nc ns w 0 [(0, .ref a), (1, .ref b)] [] := by
  obtain ⟨l2, e1, e2⟩ := fs_cl hr _ _ _ hc ha
  rw [← fs_un_at hr hc ha ht hb e2]
  exact c_ND_lies e1
def fs_f1 (nd : fs_D) (k : Nat) : Nat := match nd k with
  | some _ => 1
  | none => 0
def fs_f2 (nd : fs_D) (k : Nat) : Nat := match nd k with
  | some N => N.2.2.2.2.2.length
  | none => 0
def fs_f3 (nd : fs_D) (k : Nat) : Nat := match nd k with
  | some N => if N.2.2.2.2.1 = true then 1 else 0
  | none => 0
def fs_f4 (nd : fs_D) (t k : Nat) : Nat := match nd k with
  | some N => if N.2.1 = some t then 1 else 0
  | none => 0
theorem c_FR_countNodes_l {g : fw_G} {nc ns : Nat} {w : fw_W} {o gr na us : Nat} (h0 : w o = some (.inr (0, [.ref gr, .ref na, .int (nI us)]))) {nd : fs_D} {ad : Nat → Option Nat} {lq ld lc : Nat → Nat} {lt : Nat → List Nat} (hN : w na = some (fs_no g ad)) (hr : fs_rN g w nd ad lq ld lc lt) : ∀ m k c, k + m = 150 → ∀ L : List (Nat × Value), L = [(0, .ref o), (1, .int (nI c)), (2, .ref na), (3, .int (nI 150)), (4, .int (nI k))] → fw_R g m_FR_countNodes (fw_pv (.int (nI (c + fs_sum (fs_f1 nd) m k))) w) nc ns w 13 L [] := by
  intro m
  induction m with
  | zero =>
    intro k c hk L hL
    have hk2 : k = 150 := by omega
    subst hk2 hL
    refine fr_iload (pc := 13) d_FR_countNodes_13 rfl ?_
    refine fr_iload_n (pc := 15) d_FR_countNodes_15 rfl rfl ?_
    refine fr_icmp_ge (pc := 16) (tgt := 39) d_FR_countNodes_16 (by decide) (fun q => ?_) (fun q => ?_)
    · refine fr_iload_n (pc := 39) d_FR_countNodes_39 rfl rfl ?_
      exact fr_iret rfl d_FR_countNodes_40 ⟨rfl, rfl⟩
    · exact absurd ((ni_le (a := 150) (b := 150) (by omega) (by omega)).mpr (by omega)) q
  | succ m ih =>
    intro k c hk L hL
    subst hL
    refine fr_iload (pc := 13) d_FR_countNodes_13 rfl ?_
    refine fr_iload_n (pc := 15) d_FR_countNodes_15 rfl rfl ?_
    refine fr_icmp_ge (pc := 16) (tgt := 39) d_FR_countNodes_16 (by decide) (fun q => ?_) (fun q => ?_)
    · exact absurd ((ni_le (a := 150) (by omega) (by omega)).mp q) (by omega)
    · refine fr_aload_n (pc := 19) d_FR_countNodes_19 rfl rfl ?_
      refine fr_iload (pc := 20) d_FR_countNodes_20 rfl ?_
      refine fr_aaldN (pc := 22) (t := 3) (n := 150) (k := k) (C := "FolderRights$Node") (f := ad) d_FR_countNodes_22 rfl hN (by omega) (by omega) ?_
      cases hA : nd k with
      | none =>
        refine fr_st (st2 := [.null]) (by rw [rf_none (hr.1 k hA)]) ?_
        refine fr_astoreN (pc := 23) (L2 := [(0, .ref o), (1, .int (nI c)), (2, .ref na), (3, .int (nI 150)), (4, .int (nI k)), (5, .null)]) d_FR_countNodes_23 (by decide) rfl ?_
        refine fr_aloadN (pc := 25) d_FR_countNodes_25 rfl ?_
        refine fr_ifnullN (pc := 27) (tgt := 33) d_FR_countNodes_27 (by decide) ?_
        refine fr_iinc (pc := 33) (v := (nI (k + 1))) (L2 := [(0, .ref o), (1, .int (nI c)), (2, .ref na), (3, .int (nI 150)), (4, .int (nI (k + 1))), (5, .null)]) d_FR_countNodes_33 rfl (fi_1 _) (by decide) rfl ?_
        refine fr_goto (pc := 36) (tgt := 13) d_FR_countNodes_36 (by decide) ?_
        have e : c + fs_sum (fs_f1 nd) (m + 1) k = (c) + fs_sum (fs_f1 nd) m (k + 1) := by simp [fs_sum, hA, fs_f1, fs_f2, fs_f3, fs_f4, *] <;> omega
        rw [e]
        exact fr_Ld (ih (k + 1) (c) (by omega) _ rfl)
      | some N =>
        obtain ⟨-, a, ha, hc, hl, hE⟩ := hr.2.1 k N hA
        refine fr_st (st2 := [.ref a]) (by rw [rf_some ha]) ?_
        refine fr_astore (pc := 23) (L2 := [(0, .ref o), (1, .int (nI c)), (2, .ref na), (3, .int (nI 150)), (4, .int (nI k)), (5, .ref a)]) d_FR_countNodes_23 (by decide) rfl ?_
        refine fr_aload (pc := 25) d_FR_countNodes_25 rfl ?_
        refine fr_ifnull (pc := 27) d_FR_countNodes_27 ?_
        refine fr_iinc (pc := 30) (v := (nI (c + 1))) (L2 := [(0, .ref o), (1, .int (nI (c + 1))), (2, .ref na), (3, .int (nI 150)), (4, .int (nI k)), (5, .ref a)]) d_FR_countNodes_30 rfl (fi_1 _) (by decide) rfl ?_
        refine fr_iinc (pc := 33) (v := (nI (k + 1))) (L2 := [(0, .ref o), (1, .int (nI (c + 1))), (2, .ref na), (3, .int (nI 150)), (4, .int (nI (k + 1))), (5, .ref a)]) d_FR_countNodes_33 rfl (fi_1 _) (by decide) rfl ?_
        refine fr_goto (pc := 36) (tgt := 13) d_FR_countNodes_36 (by decide) ?_
        have e : c + fs_sum (fs_f1 nd) (m + 1) k = (c + 1) + fs_sum (fs_f1 nd) m (k + 1) := by simp [fs_sum, hA, fs_f1, fs_f2, fs_f3, fs_f4, *] <;> omega
        rw [e]
        exact fr_Ld (ih (k + 1) (c + 1) (by omega) _ rfl)
theorem c_FR_countNodes {g : fw_G} {nc ns : Nat} {w : fw_W} {o gr na us : Nat} (h0 : w o = some (.inr (0, [.ref gr, .ref na, .int (nI us)]))) {nd : fs_D} {ad : Nat → Option Nat} {lq ld lc : Nat → Nat} {lt : Nat → List Nat} (hN : w na = some (fs_no g ad)) (hr : fs_rN g w nd ad lq ld lc lt) : fw_R g m_FR_countNodes (fw_pv (.int (nI (0 + fs_sum (fs_f1 nd) 150 0))) w) nc ns w 0 [(0, .ref o)] [] := by
  refine fr_iconst (pc := 0) (v := 0) d_FR_countNodes_0 (by decide) ?_
  refine fr_istore_n (pc := 1) (L2 := [(0, .ref o), (1, .int 0)]) d_FR_countNodes_1 rfl (by decide) rfl ?_
  refine fr_aload_n (pc := 2) d_FR_countNodes_2 rfl rfl ?_
  refine fr_get (pc := 3) (v := .ref na) d_FR_countNodes_3 fg_FR_18 h0 rfl ?_
  refine fr_astore_n (pc := 6) (L2 := [(0, .ref o), (1, .int 0), (2, .ref na)]) d_FR_countNodes_6 rfl (by decide) rfl ?_
  refine fr_aload_n (pc := 7) d_FR_countNodes_7 rfl rfl ?_
  refine fr_alen (pc := 8) (t := 3) (v := (nI 150)) d_FR_countNodes_8 rfl hN rfl ?_
  refine fr_istore_n (pc := 9) (L2 := [(0, .ref o), (1, .int 0), (2, .ref na), (3, .int (nI 150))]) d_FR_countNodes_9 rfl (by decide) rfl ?_
  refine fr_iconst (pc := 10) (v := 0) d_FR_countNodes_10 (by decide) ?_
  refine fr_istore (pc := 11) (L2 := [(0, .ref o), (1, .int 0), (2, .ref na), (3, .int (nI 150)), (4, .int 0)]) d_FR_countNodes_11 (by decide) rfl ?_
  exact c_FR_countNodes_l h0 hN hr 150 0 0 rfl _ rfl
theorem c_FR_countEntries_l {g : fw_G} {nc ns : Nat} {w : fw_W} {o gr na us : Nat} (h0 : w o = some (.inr (0, [.ref gr, .ref na, .int (nI us)]))) {nd : fs_D} {ad : Nat → Option Nat} {lq ld lc : Nat → Nat} {lt : Nat → List Nat} (hN : w na = some (fs_no g ad)) (hr : fs_rN g w nd ad lq ld lc lt) : ∀ m k c, k + m = 150 → ∀ L : List (Nat × Value), L = [(0, .ref o), (1, .int (nI c)), (2, .ref na), (3, .int (nI 150)), (4, .int (nI k))] → fw_R g m_FR_countEntries (fw_pv (.int (nI (c + fs_sum (fs_f2 nd) m k))) w) nc ns w 13 L [] := by
  intro m
  induction m with
  | zero =>
    intro k c hk L hL
    have hk2 : k = 150 := by omega
    subst hk2 hL
    refine fr_iload (pc := 13) d_FR_countEntries_13 rfl ?_
    refine fr_iload_n (pc := 15) d_FR_countEntries_15 rfl rfl ?_
    refine fr_icmp_ge (pc := 16) (tgt := 47) d_FR_countEntries_16 (by decide) (fun q => ?_) (fun q => ?_)
    · refine fr_iload_n (pc := 47) d_FR_countEntries_47 rfl rfl ?_
      exact fr_iret rfl d_FR_countEntries_48 ⟨rfl, rfl⟩
    · exact absurd ((ni_le (a := 150) (b := 150) (by omega) (by omega)).mpr (by omega)) q
  | succ m ih =>
    intro k c hk L hL
    subst hL
    refine fr_iload (pc := 13) d_FR_countEntries_13 rfl ?_
    refine fr_iload_n (pc := 15) d_FR_countEntries_15 rfl rfl ?_
    refine fr_icmp_ge (pc := 16) (tgt := 47) d_FR_countEntries_16 (by decide) (fun q => ?_) (fun q => ?_)
    · exact absurd ((ni_le (a := 150) (by omega) (by omega)).mp q) (by omega)
    · refine fr_aload_n (pc := 19) d_FR_countEntries_19 rfl rfl ?_
      refine fr_iload (pc := 20) d_FR_countEntries_20 rfl ?_
      refine fr_aaldN (pc := 22) (t := 3) (n := 150) (k := k) (C := "FolderRights$Node") (f := ad) d_FR_countEntries_22 rfl hN (by omega) (by omega) ?_
      cases hA : nd k with
      | none =>
        refine fr_st (st2 := [.null]) (by rw [rf_none (hr.1 k hA)]) ?_
        refine fr_astoreN (pc := 23) (L2 := [(0, .ref o), (1, .int (nI c)), (2, .ref na), (3, .int (nI 150)), (4, .int (nI k)), (5, .null)]) d_FR_countEntries_23 (by decide) rfl ?_
        refine fr_aloadN (pc := 25) d_FR_countEntries_25 rfl ?_
        refine fr_ifnullN (pc := 27) (tgt := 41) d_FR_countEntries_27 (by decide) ?_
        refine fr_iinc (pc := 41) (v := (nI (k + 1))) (L2 := [(0, .ref o), (1, .int (nI c)), (2, .ref na), (3, .int (nI 150)), (4, .int (nI (k + 1))), (5, .null)]) d_FR_countEntries_41 rfl (fi_1 _) (by decide) rfl ?_
        refine fr_goto (pc := 44) (tgt := 13) d_FR_countEntries_44 (by decide) ?_
        have e : c + fs_sum (fs_f2 nd) (m + 1) k = (c) + fs_sum (fs_f2 nd) m (k + 1) := by simp [fs_sum, hA, fs_f1, fs_f2, fs_f3, fs_f4, *] <;> omega
        rw [e]
        exact fr_Ld (ih (k + 1) (c) (by omega) _ rfl)
      | some N =>
        obtain ⟨-, a, ha, hc, hl, hE⟩ := hr.2.1 k N hA
        refine fr_st (st2 := [.ref a]) (by rw [rf_some ha]) ?_
        refine fr_astore (pc := 23) (L2 := [(0, .ref o), (1, .int (nI c)), (2, .ref na), (3, .int (nI 150)), (4, .int (nI k)), (5, .ref a)]) d_FR_countEntries_23 (by decide) rfl ?_
        refine fr_aload (pc := 25) d_FR_countEntries_25 rfl ?_
        refine fr_ifnull (pc := 27) d_FR_countEntries_27 ?_
        refine fr_iload_n (pc := 30) d_FR_countEntries_30 rfl rfl ?_
        refine fr_aload (pc := 31) d_FR_countEntries_31 rfl ?_
        refine fr_get (pc := 33) (v := .ref (lq k)) d_FR_countEntries_33 fg_FR_119 hc rfl ?_
        have hq := hl
        obtain ⟨mc, hq1, -⟩ := hq
        refine fr_callv_p (pc := 36) (nc := nc) (ns := ns) (N := m_AL_size) (rest := [.int (nI c)]) (as := []) d_FR_countEntries_36 vc_FR_123 ⟨by decide, by decide, Nat.le_of_ble_eq_true rfl⟩ (Nat.le_of_ble_eq_true rfl) hq1 (c_AL_size hl) rfl ?_
        refine fr_iadd (pc := 39) d_FR_countEntries_39 ?_
        refine fr_st (st2 := [.int (nI (c + (lt k).length))]) (by rw [ni_add]) ?_
        refine fr_istore_n (pc := 40) (L2 := [(0, .ref o), (1, .int (nI (c + (lt k).length))), (2, .ref na), (3, .int (nI 150)), (4, .int (nI k)), (5, .ref a)]) d_FR_countEntries_40 rfl (by decide) rfl ?_
        refine fr_iinc (pc := 41) (v := (nI (k + 1))) (L2 := [(0, .ref o), (1, .int (nI (c + (lt k).length))), (2, .ref na), (3, .int (nI 150)), (4, .int (nI (k + 1))), (5, .ref a)]) d_FR_countEntries_41 rfl (fi_1 _) (by decide) rfl ?_
        refine fr_goto (pc := 44) (tgt := 13) d_FR_countEntries_44 (by decide) ?_
        have eL := hE.1
        have e : c + fs_sum (fs_f2 nd) (m + 1) k = (c + (lt k).length) + fs_sum (fs_f2 nd) m (k + 1) := by simp [fs_sum, hA, fs_f1, fs_f2, fs_f3, fs_f4, *] <;> omega
        rw [e]
        exact fr_Ld (ih (k + 1) (c + (lt k).length) (by omega) _ rfl)
theorem c_FR_countEntries {g : fw_G} {nc ns : Nat} {w : fw_W} {o gr na us : Nat} (h0 : w o = some (.inr (0, [.ref gr, .ref na, .int (nI us)]))) {nd : fs_D} {ad : Nat → Option Nat} {lq ld lc : Nat → Nat} {lt : Nat → List Nat} (hN : w na = some (fs_no g ad)) (hr : fs_rN g w nd ad lq ld lc lt) : fw_R g m_FR_countEntries (fw_pv (.int (nI (0 + fs_sum (fs_f2 nd) 150 0))) w) nc ns w 0 [(0, .ref o)] [] := by
  refine fr_iconst (pc := 0) (v := 0) d_FR_countEntries_0 (by decide) ?_
  refine fr_istore_n (pc := 1) (L2 := [(0, .ref o), (1, .int 0)]) d_FR_countEntries_1 rfl (by decide) rfl ?_
  refine fr_aload_n (pc := 2) d_FR_countEntries_2 rfl rfl ?_
  refine fr_get (pc := 3) (v := .ref na) d_FR_countEntries_3 fg_FR_18 h0 rfl ?_
  refine fr_astore_n (pc := 6) (L2 := [(0, .ref o), (1, .int 0), (2, .ref na)]) d_FR_countEntries_6 rfl (by decide) rfl ?_
  refine fr_aload_n (pc := 7) d_FR_countEntries_7 rfl rfl ?_
  refine fr_alen (pc := 8) (t := 3) (v := (nI 150)) d_FR_countEntries_8 rfl hN rfl ?_
  refine fr_istore_n (pc := 9) (L2 := [(0, .ref o), (1, .int 0), (2, .ref na), (3, .int (nI 150))]) d_FR_countEntries_9 rfl (by decide) rfl ?_
  refine fr_iconst (pc := 10) (v := 0) d_FR_countEntries_10 (by decide) ?_
  refine fr_istore (pc := 11) (L2 := [(0, .ref o), (1, .int 0), (2, .ref na), (3, .int (nI 150)), (4, .int 0)]) d_FR_countEntries_11 (by decide) rfl ?_
  exact c_FR_countEntries_l h0 hN hr 150 0 0 rfl _ rfl
theorem c_FR_stale_p_l {g : fw_G} {nc ns : Nat} {w : fw_W} {o gr na us : Nat} (h0 : w o = some (.inr (0, [.ref gr, .ref na, .int (nI us)]))) {nd : fs_D} {ad : Nat → Option Nat} {lq ld lc : Nat → Nat} {lt : Nat → List Nat} (hN : w na = some (fs_no g ad)) (hr : fs_rN g w nd ad lq ld lc lt) : ∀ m k c, k + m = 150 → ∀ L : List (Nat × Value), L = [(0, .ref o), (1, .int (nI c)), (2, .ref na), (3, .int (nI 150)), (4, .int (nI k))] → fw_R g m_FR_stale (fw_pv (.int (nI (c + fs_sum (fs_f3 nd) m k))) w) nc ns w 13 L [] := by
  intro m
  induction m with
  | zero =>
    intro k c hk L hL
    have hk2 : k = 150 := by omega
    subst hk2 hL
    refine fr_iload (pc := 13) d_FR_stale_13 rfl ?_
    refine fr_iload_n (pc := 15) d_FR_stale_15 rfl rfl ?_
    refine fr_icmp_ge (pc := 16) (tgt := 47) d_FR_stale_16 (by decide) (fun q => ?_) (fun q => ?_)
    · refine fr_iload_n (pc := 47) d_FR_stale_47 rfl rfl ?_
      exact fr_iret rfl d_FR_stale_48 ⟨rfl, rfl⟩
    · exact absurd ((ni_le (a := 150) (b := 150) (by omega) (by omega)).mpr (by omega)) q
  | succ m ih =>
    intro k c hk L hL
    subst hL
    refine fr_iload (pc := 13) d_FR_stale_13 rfl ?_
    refine fr_iload_n (pc := 15) d_FR_stale_15 rfl rfl ?_
    refine fr_icmp_ge (pc := 16) (tgt := 47) d_FR_stale_16 (by decide) (fun q => ?_) (fun q => ?_)
    · exact absurd ((ni_le (a := 150) (by omega) (by omega)).mp q) (by omega)
    · refine fr_aload_n (pc := 19) d_FR_stale_19 rfl rfl ?_
      refine fr_iload (pc := 20) d_FR_stale_20 rfl ?_
      refine fr_aaldN (pc := 22) (t := 3) (n := 150) (k := k) (C := "FolderRights$Node") (f := ad) d_FR_stale_22 rfl hN (by omega) (by omega) ?_
      cases hA : nd k with
      | none =>
        refine fr_st (st2 := [.null]) (by rw [rf_none (hr.1 k hA)]) ?_
        refine fr_astoreN (pc := 23) (L2 := [(0, .ref o), (1, .int (nI c)), (2, .ref na), (3, .int (nI 150)), (4, .int (nI k)), (5, .null)]) d_FR_stale_23 (by decide) rfl ?_
        refine fr_aloadN (pc := 25) d_FR_stale_25 rfl ?_
        refine fr_ifnullN (pc := 27) (tgt := 41) d_FR_stale_27 (by decide) ?_
        refine fr_iinc (pc := 41) (v := (nI (k + 1))) (L2 := [(0, .ref o), (1, .int (nI c)), (2, .ref na), (3, .int (nI 150)), (4, .int (nI (k + 1))), (5, .null)]) d_FR_stale_41 rfl (fi_1 _) (by decide) rfl ?_
        refine fr_goto (pc := 44) (tgt := 13) d_FR_stale_44 (by decide) ?_
        have e : c + fs_sum (fs_f3 nd) (m + 1) k = (c) + fs_sum (fs_f3 nd) m (k + 1) := by simp [fs_sum, hA, fs_f1, fs_f2, fs_f3, fs_f4, *] <;> omega
        rw [e]
        exact fr_Ld (ih (k + 1) (c) (by omega) _ rfl)
      | some N =>
        obtain ⟨-, a, ha, hc, hl, hE⟩ := hr.2.1 k N hA
        refine fr_st (st2 := [.ref a]) (by rw [rf_some ha]) ?_
        refine fr_astore (pc := 23) (L2 := [(0, .ref o), (1, .int (nI c)), (2, .ref na), (3, .int (nI 150)), (4, .int (nI k)), (5, .ref a)]) d_FR_stale_23 (by decide) rfl ?_
        refine fr_aload (pc := 25) d_FR_stale_25 rfl ?_
        refine fr_ifnull (pc := 27) d_FR_stale_27 ?_
        refine fr_aload (pc := 30) d_FR_stale_30 rfl ?_
        refine fr_get (pc := 32) (v := .int (bI N.2.2.2.2.1)) d_FR_stale_32 fg_FR_110 hc rfl ?_
        refine fr_if_eq (pc := 35) (tgt := 41) d_FR_stale_35 (by decide) (fun q => ?_) (fun q => ?_)
        · refine fr_iinc (pc := 41) (v := (nI (k + 1))) (L2 := [(0, .ref o), (1, .int (nI c)), (2, .ref na), (3, .int (nI 150)), (4, .int (nI (k + 1))), (5, .ref a)]) d_FR_stale_41 rfl (fi_1 _) (by decide) rfl ?_
          refine fr_goto (pc := 44) (tgt := 13) d_FR_stale_44 (by decide) ?_
          have hs := bI_0.mp q
          have e : c + fs_sum (fs_f3 nd) (m + 1) k = (c) + fs_sum (fs_f3 nd) m (k + 1) := by simp [fs_sum, hA, fs_f1, fs_f2, fs_f3, fs_f4, *] <;> omega
          rw [e]
          exact fr_Ld (ih (k + 1) (c) (by omega) _ rfl)
        · refine fr_iinc (pc := 38) (v := (nI (c + 1))) (L2 := [(0, .ref o), (1, .int (nI (c + 1))), (2, .ref na), (3, .int (nI 150)), (4, .int (nI k)), (5, .ref a)]) d_FR_stale_38 rfl (fi_1 _) (by decide) rfl ?_
          refine fr_iinc (pc := 41) (v := (nI (k + 1))) (L2 := [(0, .ref o), (1, .int (nI (c + 1))), (2, .ref na), (3, .int (nI 150)), (4, .int (nI (k + 1))), (5, .ref a)]) d_FR_stale_41 rfl (fi_1 _) (by decide) rfl ?_
          refine fr_goto (pc := 44) (tgt := 13) d_FR_stale_44 (by decide) ?_
          have hs := ts_nf (fun z => q (bI_0.mpr z))
          have e : c + fs_sum (fs_f3 nd) (m + 1) k = (c + 1) + fs_sum (fs_f3 nd) m (k + 1) := by simp [fs_sum, hA, fs_f1, fs_f2, fs_f3, fs_f4, *] <;> omega
          rw [e]
          exact fr_Ld (ih (k + 1) (c + 1) (by omega) _ rfl)
theorem c_FR_stale_p {g : fw_G} {nc ns : Nat} {w : fw_W} {o gr na us : Nat} (h0 : w o = some (.inr (0, [.ref gr, .ref na, .int (nI us)]))) {nd : fs_D} {ad : Nat → Option Nat} {lq ld lc : Nat → Nat} {lt : Nat → List Nat} (hN : w na = some (fs_no g ad)) (hr : fs_rN g w nd ad lq ld lc lt) : fw_R g m_FR_stale (fw_pv (.int (nI (0 + fs_sum (fs_f3 nd) 150 0))) w) nc ns w 0 [(0, .ref o)] [] := by
  refine fr_iconst (pc := 0) (v := 0) d_FR_stale_0 (by decide) ?_
  refine fr_istore_n (pc := 1) (L2 := [(0, .ref o), (1, .int 0)]) d_FR_stale_1 rfl (by decide) rfl ?_
  refine fr_aload_n (pc := 2) d_FR_stale_2 rfl rfl ?_
  refine fr_get (pc := 3) (v := .ref na) d_FR_stale_3 fg_FR_18 h0 rfl ?_
  refine fr_astore_n (pc := 6) (L2 := [(0, .ref o), (1, .int 0), (2, .ref na)]) d_FR_stale_6 rfl (by decide) rfl ?_
  refine fr_aload_n (pc := 7) d_FR_stale_7 rfl rfl ?_
  refine fr_alen (pc := 8) (t := 3) (v := (nI 150)) d_FR_stale_8 rfl hN rfl ?_
  refine fr_istore_n (pc := 9) (L2 := [(0, .ref o), (1, .int 0), (2, .ref na), (3, .int (nI 150))]) d_FR_stale_9 rfl (by decide) rfl ?_
  refine fr_iconst (pc := 10) (v := 0) d_FR_stale_10 (by decide) ?_
  refine fr_istore (pc := 11) (L2 := [(0, .ref o), (1, .int 0), (2, .ref na), (3, .int (nI 150)), (4, .int 0)]) d_FR_stale_11 (by decide) rfl ?_
  exact c_FR_stale_p_l h0 hN hr 150 0 0 rfl _ rfl
theorem c_FR_childrenOf_l {g : fw_G} {nc ns : Nat} {w : fw_W} {o gr na us : Nat} (h0 : w o = some (.inr (0, [.ref gr, .ref na, .int (nI us)]))) {nd : fs_D} {ad : Nat → Option Nat} {lq ld lc : Nat → Nat} {lt : Nat → List Nat} (hN : w na = some (fs_no g ad)) (hr : fs_rN g w nd ad lq ld lc lt) (hch : ∀ k N, nd k = some N → fs_ch nd k (fs_ab nd k)) {t b : Nat} {T : fs_N} (ht : nd t = some T) (hb : ad t = some b) : ∀ m k c, k + m = 150 → ∀ L : List (Nat × Value), L = [(0, .ref o), (1, .ref b), (2, .int (nI c)), (3, .ref na), (4, .int (nI 150)), (5, .int (nI k))] → fw_R g m_FR_childrenOf (fw_pv (.int (nI (c + fs_sum (fs_f4 nd t) m k))) w) nc ns w 14 L [] := by
  intro m
  induction m with
  | zero =>
    intro k c hk L hL
    have hk2 : k = 150 := by omega
    subst hk2 hL
    refine fr_iload (pc := 14) d_FR_childrenOf_14 rfl ?_
    refine fr_iload (pc := 16) d_FR_childrenOf_16 rfl ?_
    refine fr_icmp_ge (pc := 18) (tgt := 50) d_FR_childrenOf_18 (by decide) (fun q => ?_) (fun q => ?_)
    · refine fr_iload_n (pc := 50) d_FR_childrenOf_50 rfl rfl ?_
      exact fr_iret rfl d_FR_childrenOf_51 ⟨rfl, rfl⟩
    · exact absurd ((ni_le (a := 150) (b := 150) (by omega) (by omega)).mpr (by omega)) q
  | succ m ih =>
    intro k c hk L hL
    subst hL
    refine fr_iload (pc := 14) d_FR_childrenOf_14 rfl ?_
    refine fr_iload (pc := 16) d_FR_childrenOf_16 rfl ?_
    refine fr_icmp_ge (pc := 18) (tgt := 50) d_FR_childrenOf_18 (by decide) (fun q => ?_) (fun q => ?_)
    · exact absurd ((ni_le (a := 150) (by omega) (by omega)).mp q) (by omega)
    · refine fr_aload_n (pc := 21) d_FR_childrenOf_21 rfl rfl ?_
      refine fr_iload (pc := 22) d_FR_childrenOf_22 rfl ?_
      refine fr_aaldN (pc := 24) (t := 3) (n := 150) (k := k) (C := "FolderRights$Node") (f := ad) d_FR_childrenOf_24 rfl hN (by omega) (by omega) ?_
      cases hA : nd k with
      | none =>
        refine fr_st (st2 := [.null]) (by rw [rf_none (hr.1 k hA)]) ?_
        refine fr_astoreN (pc := 25) (L2 := [(0, .ref o), (1, .ref b), (2, .int (nI c)), (3, .ref na), (4, .int (nI 150)), (5, .int (nI k)), (6, .null)]) d_FR_childrenOf_25 (by decide) rfl ?_
        refine fr_aloadN (pc := 27) d_FR_childrenOf_27 rfl ?_
        refine fr_ifnullN (pc := 29) (tgt := 44) d_FR_childrenOf_29 (by decide) ?_
        refine fr_iinc (pc := 44) (v := (nI (k + 1))) (L2 := [(0, .ref o), (1, .ref b), (2, .int (nI c)), (3, .ref na), (4, .int (nI 150)), (5, .int (nI (k + 1))), (6, .null)]) d_FR_childrenOf_44 rfl (fi_1 _) (by decide) rfl ?_
        refine fr_goto (pc := 47) (tgt := 14) d_FR_childrenOf_47 (by decide) ?_
        have e : c + fs_sum (fs_f4 nd t) (m + 1) k = (c) + fs_sum (fs_f4 nd t) m (k + 1) := by simp [fs_sum, hA, fs_f1, fs_f2, fs_f3, fs_f4, *] <;> omega
        rw [e]
        exact fr_Ld (ih (k + 1) (c) (by omega) _ rfl)
      | some N =>
        obtain ⟨-, a, ha, hc, hl, hE⟩ := hr.2.1 k N hA
        refine fr_st (st2 := [.ref a]) (by rw [rf_some ha]) ?_
        refine fr_astore (pc := 25) (L2 := [(0, .ref o), (1, .ref b), (2, .int (nI c)), (3, .ref na), (4, .int (nI 150)), (5, .int (nI k)), (6, .ref a)]) d_FR_childrenOf_25 (by decide) rfl ?_
        refine fr_aload (pc := 27) d_FR_childrenOf_27 rfl ?_
        refine fr_ifnull (pc := 29) d_FR_childrenOf_29 ?_
        refine fr_aload (pc := 32) d_FR_childrenOf_32 rfl ?_
        refine fr_get (pc := 34) (v := va_rf (N.2.1.bind ad)) d_FR_childrenOf_34 fg_FR_103 hc rfl ?_
        refine fr_aload_n (pc := 37) d_FR_childrenOf_37 rfl rfl ?_
        have hp := fs_par hr hA (hch k N hA) ht hb
        refine fr_acmp_ne (pc := 38) (tgt := 44) (ry := (some b)) (rx := (N.2.1.bind ad)) d_FR_childrenOf_38 (by decide) (fun q => ?_) (fun q => ?_)
        · refine fr_iinc (pc := 44) (v := (nI (k + 1))) (L2 := [(0, .ref o), (1, .ref b), (2, .int (nI c)), (3, .ref na), (4, .int (nI 150)), (5, .int (nI (k + 1))), (6, .ref a)]) d_FR_childrenOf_44 rfl (fi_1 _) (by decide) rfl ?_
          refine fr_goto (pc := 47) (tgt := 14) d_FR_childrenOf_47 (by decide) ?_
          have hs : ¬ N.2.1 = some t := fun z => q (hp.mpr z)
          have e : c + fs_sum (fs_f4 nd t) (m + 1) k = (c) + fs_sum (fs_f4 nd t) m (k + 1) := by simp [fs_sum, hA, fs_f1, fs_f2, fs_f3, fs_f4, *] <;> omega
          rw [e]
          exact fr_Ld (ih (k + 1) (c) (by omega) _ rfl)
        · refine fr_iinc (pc := 41) (v := (nI (c + 1))) (L2 := [(0, .ref o), (1, .ref b), (2, .int (nI (c + 1))), (3, .ref na), (4, .int (nI 150)), (5, .int (nI k)), (6, .ref a)]) d_FR_childrenOf_41 rfl (fi_1 _) (by decide) rfl ?_
          refine fr_iinc (pc := 44) (v := (nI (k + 1))) (L2 := [(0, .ref o), (1, .ref b), (2, .int (nI (c + 1))), (3, .ref na), (4, .int (nI 150)), (5, .int (nI (k + 1))), (6, .ref a)]) d_FR_childrenOf_44 rfl (fi_1 _) (by decide) rfl ?_
          refine fr_goto (pc := 47) (tgt := 14) d_FR_childrenOf_47 (by decide) ?_
          have hs := hp.mp q
          have e : c + fs_sum (fs_f4 nd t) (m + 1) k = (c + 1) + fs_sum (fs_f4 nd t) m (k + 1) := by simp [fs_sum, hA, fs_f1, fs_f2, fs_f3, fs_f4, *] <;> omega
          rw [e]
          exact fr_Ld (ih (k + 1) (c + 1) (by omega) _ rfl)
theorem c_FR_childrenOf {g : fw_G} {nc ns : Nat} {w : fw_W} {o gr na us : Nat} (h0 : w o = some (.inr (0, [.ref gr, .ref na, .int (nI us)]))) {nd : fs_D} {ad : Nat → Option Nat} {lq ld lc : Nat → Nat} {lt : Nat → List Nat} (hN : w na = some (fs_no g ad)) (hr : fs_rN g w nd ad lq ld lc lt) (hch : ∀ k N, nd k = some N → fs_ch nd k (fs_ab nd k)) {t b : Nat} {T : fs_N} (ht : nd t = some T) (hb : ad t = some b) : fw_R g m_FR_childrenOf (fw_pv (.int (nI (0 + fs_sum (fs_f4 nd t) 150 0))) w) nc ns w 0 [(0, .ref o), (1, .ref b)] [] := by
  refine fr_iconst (pc := 0) (v := 0) d_FR_childrenOf_0 (by decide) ?_
  refine fr_istore_n (pc := 1) (L2 := [(0, .ref o), (1, .ref b), (2, .int 0)]) d_FR_childrenOf_1 rfl (by decide) rfl ?_
  refine fr_aload_n (pc := 2) d_FR_childrenOf_2 rfl rfl ?_
  refine fr_get (pc := 3) (v := .ref na) d_FR_childrenOf_3 fg_FR_18 h0 rfl ?_
  refine fr_astore_n (pc := 6) (L2 := [(0, .ref o), (1, .ref b), (2, .int 0), (3, .ref na)]) d_FR_childrenOf_6 rfl (by decide) rfl ?_
  refine fr_aload_n (pc := 7) d_FR_childrenOf_7 rfl rfl ?_
  refine fr_alen (pc := 8) (t := 3) (v := (nI 150)) d_FR_childrenOf_8 rfl hN rfl ?_
  refine fr_istore (pc := 9) (L2 := [(0, .ref o), (1, .ref b), (2, .int 0), (3, .ref na), (4, .int (nI 150))]) d_FR_childrenOf_9 (by decide) rfl ?_
  refine fr_iconst (pc := 11) (v := 0) d_FR_childrenOf_11 (by decide) ?_
  refine fr_istore (pc := 12) (L2 := [(0, .ref o), (1, .ref b), (2, .int 0), (3, .ref na), (4, .int (nI 150)), (5, .int 0)]) d_FR_childrenOf_12 (by decide) rfl ?_
  exact c_FR_childrenOf_l h0 hN hr hch ht hb 150 0 0 rfl _ rfl

theorem fw_ud {w : fw_W} {a b : Nat} {x y z y2 : va_E} (h : a ≠ b) : fw_up (fw_up (fw_up (fw_up w a x) b y) a z) b y2 = fw_up (fw_up w a z) b y2 := by
  funext c
  by_cases h2 : c = b
  · subst h2; rw [fw_up_self, fw_up_self]
  · by_cases h1 : c = a
    · subst h1; rw [fw_up_ne h2, fw_up_self, fw_up_ne h2, fw_up_self]
    · rw [fw_up_ne h2, fw_up_ne h1, fw_up_ne h2, fw_up_ne h1, fw_up_ne h2, fw_up_ne h1]
def li_ins (ts : List Nat) (i e : Nat) : List Nat := ts.take i ++ e :: ts.drop i
def li_del (ts : List Nat) (i : Nat) : List Nat := ts.take i ++ ts.drop (i + 1)
theorem li_ins_len {ts : List Nat} {i e : Nat} (h : i ≤ ts.length) : (li_ins ts i e).length = ts.length + 1 := by
  unfold li_ins
  rw [List.length_append, List.length_cons, List.length_take, List.length_drop]
  omega
theorem li_del_len {ts : List Nat} {i : Nat} (h : i < ts.length) : (li_del ts i).length = ts.length - 1 := by
  unfold li_del
  rw [List.length_append, List.length_take, List.length_drop]
  omega
theorem li_ins_at {ts : List Nat} {i e : Nat} (h : i ≤ ts.length) (j : Nat) : (li_ins ts i e)[j]? = if j < i then ts[j]? else if j = i then some e else ts[j - 1]? := by
  unfold li_ins
  have hl : (ts.take i).length = i := by rw [List.length_take]; omega
  by_cases h1 : j < i
  · rw [if_pos h1, List.getElem?_append_left (by omega), List.getElem?_take_of_lt h1]
  · rw [if_neg h1, List.getElem?_append_right (by omega), hl]
    by_cases h2 : j = i
    · rw [if_pos h2, h2, Nat.sub_self]; rfl
    · rw [if_neg h2, show j - i = (j - i - 1) + 1 by omega, List.getElem?_cons_succ, List.getElem?_drop, show i + (j - i - 1) = j - 1 by omega]
theorem li_del_at {ts : List Nat} {i : Nat} (h : i < ts.length) (j : Nat) : (li_del ts i)[j]? = if j < i then ts[j]? else ts[j + 1]? := by
  unfold li_del
  have hl : (ts.take i).length = i := by rw [List.length_take]; omega
  by_cases h1 : j < i
  · rw [if_pos h1, List.getElem?_append_left (by omega), List.getElem?_take_of_lt h1]
  · rw [if_neg h1, List.getElem?_append_right (by omega), hl, List.getElem?_drop, show i + 1 + (j - i) = j + 1 by omega]
theorem li_ins_mem {ts : List Nat} {i e y : Nat} (h : y ∈ li_ins ts i e) : y = e ∨ y ∈ ts := by
  unfold li_ins at h
  rcases List.mem_append.mp h with h | h
  · exact Or.inr (List.mem_of_mem_take h)
  · rcases List.mem_cons.mp h with h | h
    · exact Or.inl h
    · exact Or.inr (List.mem_of_mem_drop h)
theorem li_del_mem {ts : List Nat} {i y : Nat} (h : y ∈ li_del ts i) : y ∈ ts := by
  unfold li_del at h
  rcases List.mem_append.mp h with h | h
  · exact List.mem_of_mem_take h
  · exact List.mem_of_mem_drop h
theorem li_add {ts : List Nat} {i e : Nat} (h : i ≤ ts.length) : va_up (va_cpy (li_f ts) (li_f ts) i (i + 1) (ts.length - i)) i (some e) = li_f (li_ins ts i e) := by
  funext j
  show _ = (li_ins ts i e)[j]?
  rw [li_ins_at h]
  unfold va_up va_cpy li_f
  by_cases h2 : j = i
  · rw [if_pos h2, if_neg (by omega), if_pos h2]
  · rw [if_neg h2]
    by_cases h1 : j < i
    · rw [if_neg (by omega), if_pos h1]
    · rw [if_neg h1, if_neg h2]
      by_cases h3 : j ≤ ts.length
      · rw [if_pos (by omega), show i + (j - (i + 1)) = j - 1 by omega]
      · rw [if_neg (by omega), List.getElem?_eq_none (by omega), List.getElem?_eq_none (by omega)]
theorem li_rem {ts : List Nat} {i : Nat} (h : i < ts.length) : va_up (va_cpy (li_f ts) (li_f ts) (i + 1) i (ts.length - 1 - i)) (ts.length - 1) none = li_f (li_del ts i) := by
  funext j
  show _ = (li_del ts i)[j]?
  rw [li_del_at h]
  unfold va_up va_cpy li_f
  by_cases h2 : j = ts.length - 1
  · rw [if_pos h2, if_neg (by omega), List.getElem?_eq_none (by omega)]
  · rw [if_neg h2]
    by_cases h1 : j < i
    · rw [if_neg (by omega), if_pos h1]
    · rw [if_neg h1]
      by_cases h3 : j < ts.length - 1
      · rw [if_pos (by omega), show i + 1 + (j - i) = j + 1 by omega]
      · rw [if_neg (by omega), List.getElem?_eq_none (by omega), List.getElem?_eq_none (by omega)]
theorem li_cpy0 (f : Nat → Option Nat) (i j : Nat) : va_cpy f f i j 0 = f := by
  funext k
  unfold va_cpy
  rw [if_neg (by omega)]
theorem c_AL_add_t {g : fw_G} {P : fw_O → fw_W → Prop} {nc ns : Nat} {w : fw_W} {a x i e cp : Nat} {mc : Int32} {ts : List Nat} {fe : List Value} (h1 : w a = some (.inr (4, [.int mc, .ref x, .int (nI ts.length)]))) (h2 : w x = some (li_o g cp (li_f ts))) (h3 : ts.length < cp) (h4 : cp ≤ 15) (h5 : ∀ y ∈ ts, ∃ fs, w y = some (.inr (3, fs))) (h6 : w e = some (.inr (3, fe))) (hi : i ≤ ts.length)
    (hP : P (.inl none) (fw_up (fw_up w x (li_o g cp (li_f (li_ins ts i e)))) a (.inr (4, [.int mc, .ref x, .int (nI (ts.length + 1))])))) : fw_R g m_AL_add P nc ns w 38 [(0, .ref a), (1, .int (nI i)), (2, .ref e), (3, .int (nI ts.length)), (4, .ref x)] [] := by
  have hax : a ≠ x := fun q => by rw [q, h2] at h1; cases h1
  have hex : e ≠ x := fun q => by rw [q, h2] at h6; cases h6
  refine fr_aload (pc := 38) d_AL_add_38 rfl ?_
  refine fr_iload_n (pc := 40) d_AL_add_40 rfl rfl ?_
  refine fr_aload (pc := 41) d_AL_add_41 rfl ?_
  refine fr_iload_n (pc := 43) d_AL_add_43 rfl rfl ?_
  refine fr_iconst (pc := 44) (v := 1) d_AL_add_44 (by decide) ?_
  refine fr_iadd (pc := 45) d_AL_add_45 ?_
  refine fr_iload_n (pc := 46) d_AL_add_46 rfl rfl ?_
  refine fr_iload_n (pc := 47) d_AL_add_47 rfl rfl ?_
  refine fr_isub (pc := 48) d_AL_add_48 ?_
  refine fr_st (st2 := [.int (nI (ts.length - i)), .int (nI (i + 1)), .ref x, .int (nI i), .ref x]) (by rw [nI_succ, pk_sub hi]) ?_
  refine fr_copy (pc := 49) (n0 := cp) (n1 := cp) (sp := i) (dp := (i + 1)) (k := (ts.length - i)) (f := (li_f ts)) (f1 := (li_f ts)) (f2 := (va_cpy (li_f ts) (li_f ts) i (i + 1) (ts.length - i))) d_AL_add_49 (fw_t 465 (by decide +kernel)) (fw_t 462 (by decide +kernel)) (fw_t 461 (by decide +kernel)) (fw_t 18 (by decide +kernel)) (fw_t 884 (by decide +kernel)) h2 h2 (by omega) (by omega) (by omega) (by omega) (fun k hk y hy => h5 y (List.mem_of_getElem? hy)) rfl (by decide) (by decide +kernel) ?_
  refine fr_aload (pc := 52) d_AL_add_52 rfl ?_
  refine fr_iload_n (pc := 54) d_AL_add_54 rfl rfl ?_
  refine fr_aload_n (pc := 55) d_AL_add_55 rfl rfl ?_
  refine fr_aastO (pc := 56) (t := 4) (E := "java/lang/Object") (ci := 3) d_AL_add_56 rfl (fw_t 884 (by decide +kernel)) rfl fw_up_self (fw_up_at h6 hex) (vp_in_nI (n := i) (N := cp) (by omega) (by omega)) ?_
  rw [fw_uu, nI_clamp (by omega : i < 2 ^ 31), li_add hi]
  refine fr_aload_n (pc := 57) d_AL_add_57 rfl rfl ?_
  refine fr_iload_n (pc := 58) d_AL_add_58 rfl rfl ?_
  refine fr_iconst (pc := 59) (v := 1) d_AL_add_59 (by decide) ?_
  refine fr_iadd (pc := 60) d_AL_add_60 ?_
  refine fr_st (st2 := [.int (nI (ts.length + 1)), .ref a]) (by rw [nI_succ]) ?_
  refine fr_put (pc := 61) (fs2 := [.int mc, .ref x, .int (nI (ts.length + 1))]) d_AL_add_61 fp_AL_add_48 (fw_up_at h1 hax) (Nat.le_of_ble_eq_true rfl) rfl rfl rfl ?_
  exact fr_vret rfl d_AL_add_64 hP
theorem c_AL_add {g : fw_G} {w : fw_W} {a d cap i e : Nat} {ts : List Nat} {fe : List Value} (h : li_at g w a d cap ts) (hl : ts.length ≤ 11) (hi : i ≤ ts.length) (he : w e = some (.inr (3, fe))) (hde : w (fw_df g) = none) : fw_R g m_AL_add (fun r u => r = .inl none ∧ ∃ d2 cap2, li_at g u a d2 cap2 (li_ins ts i e) ∧ (∀ b, b ≠ a → b ≠ d2 → u b = w b) ∧ ((d2 = d ∧ w d ≠ none) ∨ w d2 = none)) 2 25 w 0 [(0, .ref a), (1, .int (nI i)), (2, .ref e)] [] := by
  obtain ⟨mc, h1, h12, h5, hc⟩ := id h
  have hae : e ≠ a := fun q => by rw [q, h1] at he; cases he
  refine fr_aload_n (pc := 0) d_AL_add_0 rfl rfl ?_
  refine fr_iload_n (pc := 1) d_AL_add_1 rfl rfl ?_
  refine fr_callv_n (pc := 2) (nc := 2) (ns := 25) (N := m_AL_rangeCheckForAdd) (rest := []) (as := [.int (nI i)]) d_AL_add_2 vc_AL_135 ⟨by decide, by decide, Nat.le_of_ble_eq_true rfl⟩ (Nat.le_of_ble_eq_true rfl) h1 (c_AL_rng h1 rfl hi (by omega)) rfl ?_
  refine fr_aload_n (pc := 5) d_AL_add_5 rfl rfl ?_
  refine fr_dup (pc := 6) d_AL_add_6 rfl ?_
  refine fr_get (pc := 7) (v := .int mc) d_AL_add_7 fg_AL_63 h1 rfl ?_
  refine fr_iconst (pc := 10) (v := 1) d_AL_add_10 (by decide) ?_
  refine fr_iadd (pc := 11) d_AL_add_11 ?_
  refine fr_put (pc := 12) (fs2 := [.int (mc + 1), .ref d, .int (nI ts.length)]) d_AL_add_12 fp_AL_add_63 h1 (Nat.le_of_ble_eq_true rfl) rfl rfl rfl ?_
  refine fr_aload_n (pc := 15) d_AL_add_15 rfl rfl ?_
  refine fr_get (pc := 16) (v := .int (nI ts.length)) d_AL_add_16 fg_AL_48 fw_up_self rfl ?_
  refine fr_dup (pc := 19) d_AL_add_19 rfl ?_
  refine fr_istore_n (pc := 20) (L2 := [(0, .ref a), (1, .int (nI i)), (2, .ref e), (3, .int (nI ts.length))]) d_AL_add_20 rfl (by decide) rfl ?_
  refine fr_aload_n (pc := 21) d_AL_add_21 rfl rfl ?_
  refine fr_get (pc := 22) (v := .ref d) d_AL_add_22 fg_AL_9 fw_up_self rfl ?_
  refine fr_dup (pc := 25) d_AL_add_25 rfl ?_
  refine fr_astore (pc := 26) (L2 := [(0, .ref a), (1, .int (nI i)), (2, .ref e), (3, .int (nI ts.length)), (4, .ref d)]) d_AL_add_26 (by decide) rfl ?_
  have h5w : ∀ y ∈ ts, ∃ fs, (fw_up w a (.inr (4, [.int (mc + 1), .ref d, .int (nI ts.length)]))) y = some (.inr (3, fs)) := fun y hy => by obtain ⟨fs, q⟩ := h5 y hy; exact ⟨fs, fw_up_at q (fun z => by rw [z, h1] at q; cases q)⟩
  rcases hc with ⟨hd0, ht0⟩ | ⟨hd1, hd2, hd3⟩
  · subst hd0
    subst ht0
    refine fr_alenD (pc := 28) d_AL_add_28 ?_
    refine fr_icmp_ne (pc := 29) (tgt := 38) d_AL_add_29 (by decide) (fun b => absurd rfl b) (fun _ => ?_)
    refine fr_aload_n (pc := 32) d_AL_add_32 rfl rfl ?_
    refine fr_callV (pc := 33) (nc := 0) (ns := 0) (N := m_AL_grow1) (rest := []) (as := []) d_AL_add_33 vc_AL_129 ⟨by decide, by decide, Nat.le_of_ble_eq_true rfl⟩ (Nat.le_of_ble_eq_true rfl) fw_up_self (c_AL_grow1 (ts := []) fw_up_self (Or.inl ⟨rfl, rfl⟩) h5w) rfl (fun v w1 hp => ?_) (fun C w1 hp => ?_)
    · obtain ⟨q, cp, hq, e1, e2, hlt, hcp⟩ := hp
      cases e1
      subst e2
      refine fr_st (st2 := [.ref q]) rfl ?_
      refine fr_astore (pc := 36) (L2 := [(0, .ref a), (1, .int (nI i)), (2, .ref e), (3, .int (nI ([] : List Nat).length)), (4, .ref q)]) d_AL_add_36 (by decide) rfl ?_
      have haq : q ≠ a := fun z => by rw [z, fw_up_self] at hq; cases hq
      have hq0 : w q = none := (fw_up_ne haq).symm.trans hq
      have heq : e ≠ q := fun z => by rw [z, hq0] at he; cases he
      refine c_AL_add_t (cp := cp) fw_up_self (fw_up_at fw_up_self haq) hlt (by omega) (fun y hy => ?_) (fw_up_at (fw_up_at (fw_up_at he hae) heq) hae) hi ?_
      · obtain ⟨fs, z⟩ := h5w y hy
        have z1 : y ≠ q := fun z2 => by rw [z2, hq] at z; cases z
        have z3 : y ≠ a := fun z2 => by rw [z2, fw_up_self] at z; cases z
        exact ⟨fs, fw_up_at (fw_up_at z z1) z3⟩
      · refine ⟨rfl, q, cp, ⟨mc + 1, by rw [fw_up_self, li_ins_len hi], by rw [li_ins_len hi]; omega, fun y hy => ?_, Or.inr ⟨by rw [fw_up_ne haq, fw_up_self], by rw [li_ins_len hi]; omega, hcp⟩⟩, fun b hb hb2 => by rw [fw_up_ne hb, fw_up_ne hb2, fw_up_ne hb, fw_up_ne hb2, fw_up_ne hb], Or.inr hq0⟩
        rcases li_ins_mem hy with rfl | hy
        · exact ⟨fe, by rw [fw_up_ne hae, fw_up_ne heq, fw_up_ne hae, fw_up_ne heq, fw_up_ne hae]; exact he⟩
        · obtain ⟨fs, z⟩ := h5 y hy
          have z1 : y ≠ q := fun z2 => by rw [z2, hq0] at z; cases z
          have z3 : y ≠ a := fun z2 => by rw [z2, h1] at z; cases z
          exact ⟨fs, by rw [fw_up_ne z3, fw_up_ne z1, fw_up_ne z3, fw_up_ne z1, fw_up_ne z3]; exact z⟩
    · obtain ⟨q, cp, hq, e1, e2, hlt, hcp⟩ := hp
      cases e1
  · have had : d ≠ a := fun q => by rw [q, h1] at hd1; cases hd1
    refine fr_alen (pc := 28) (t := 4) (ty := .object "java/lang/Object") (v := nI cap) d_AL_add_28 rfl (fw_up_at hd1 had) rfl ?_
    refine fr_icmp_ne (pc := 29) (tgt := 38) d_AL_add_29 (by decide) (fun b29 => ?_) (fun b29 => ?_)
    · have hne : ¬ ts.length = cap := fun q => b29 ((ni_eq (by omega) (by omega)).mpr q)
      have hlt : ts.length < cap := by omega
      have hed : e ≠ d := fun z => by rw [z, hd1] at he; cases he
      refine fr_nc (nc2 := 0) (ns2 := 0) (by decide) (by decide) ?_
      refine c_AL_add_t (cp := cap) fw_up_self (fw_up_at hd1 had) hlt (by omega) h5w (fw_up_at he hae) hi ?_
      refine ⟨rfl, d, cap, ⟨mc + 1, by rw [fw_up_self, li_ins_len hi], by rw [li_ins_len hi]; omega, fun y hy => ?_, Or.inr ⟨by rw [fw_up_ne had, fw_up_self], by rw [li_ins_len hi]; omega, hd3⟩⟩, fun b hb hb2 => by rw [fw_up_ne hb, fw_up_ne hb2, fw_up_ne hb], Or.inl ⟨rfl, by rw [hd1]; exact fun z => by cases z⟩⟩
      rcases li_ins_mem hy with rfl | hy
      · exact ⟨fe, by rw [fw_up_ne hae, fw_up_ne hed, fw_up_ne hae]; exact he⟩
      · obtain ⟨fs, z⟩ := h5 y hy
        have z1 : y ≠ d := fun z2 => by rw [z2, hd1] at z; cases z
        have z3 : y ≠ a := fun z2 => by rw [z2, h1] at z; cases z
        exact ⟨fs, by rw [fw_up_ne z3, fw_up_ne z1, fw_up_ne z3]; exact z⟩
    · have hcl : ts.length = cap := (ni_eq (by omega) (by omega)).mp b29
      have hc10 : cap = 10 := by omega
      subst hc10
      refine fr_aload_n (pc := 32) d_AL_add_32 rfl rfl ?_
      refine fr_callV (pc := 33) (nc := 0) (ns := 0) (N := m_AL_grow1) (rest := []) (as := []) d_AL_add_33 vc_AL_129 ⟨by decide, by decide, Nat.le_of_ble_eq_true rfl⟩ (Nat.le_of_ble_eq_true rfl) fw_up_self (c_AL_grow1 (ts := ts) fw_up_self (Or.inr ⟨fw_up_at hd1 had, hcl⟩) h5w) rfl (fun v w1 hp => ?_) (fun C w1 hp => ?_)
      · obtain ⟨q, cp, hq, e1, e2, hlt, hcp⟩ := hp
        cases e1
        subst e2
        refine fr_st (st2 := [.ref q]) rfl ?_
        refine fr_astore (pc := 36) (L2 := [(0, .ref a), (1, .int (nI i)), (2, .ref e), (3, .int (nI ts.length)), (4, .ref q)]) d_AL_add_36 (by decide) rfl ?_
        have haq : q ≠ a := fun z => by rw [z, fw_up_self] at hq; cases hq
        have hq0 : w q = none := (fw_up_ne haq).symm.trans hq
        have heq : e ≠ q := fun z => by rw [z, hq0] at he; cases he
        refine c_AL_add_t (cp := cp) fw_up_self (fw_up_at fw_up_self haq) hlt (by omega) (fun y hy => ?_) (fw_up_at (fw_up_at (fw_up_at he hae) heq) hae) hi ?_
        · obtain ⟨fs, z⟩ := h5w y hy
          have z1 : y ≠ q := fun z2 => by rw [z2, hq] at z; cases z
          have z3 : y ≠ a := fun z2 => by rw [z2, fw_up_self] at z; cases z
          exact ⟨fs, fw_up_at (fw_up_at z z1) z3⟩
        · refine ⟨rfl, q, cp, ⟨mc + 1, by rw [fw_up_self, li_ins_len hi], by rw [li_ins_len hi]; omega, fun y hy => ?_, Or.inr ⟨by rw [fw_up_ne haq, fw_up_self], by rw [li_ins_len hi]; omega, hcp⟩⟩, fun b hb hb2 => by rw [fw_up_ne hb, fw_up_ne hb2, fw_up_ne hb, fw_up_ne hb2, fw_up_ne hb], Or.inr hq0⟩
          rcases li_ins_mem hy with rfl | hy
          · exact ⟨fe, by rw [fw_up_ne hae, fw_up_ne heq, fw_up_ne hae, fw_up_ne heq, fw_up_ne hae]; exact he⟩
          · obtain ⟨fs, z⟩ := h5 y hy
            have z1 : y ≠ q := fun z2 => by rw [z2, hq0] at z; cases z
            have z3 : y ≠ a := fun z2 => by rw [z2, h1] at z; cases z
            exact ⟨fs, by rw [fw_up_ne z3, fw_up_ne z1, fw_up_ne z3, fw_up_ne z1, fw_up_ne z3]; exact z⟩
      · obtain ⟨q, cp, hq, e1, e2, hlt, hcp⟩ := hp
        cases e1
theorem c_AL_fast {g : fw_G} {nc ns : Nat} {w : fw_W} {a d cap i : Nat} {mc : Int32} {ts : List Nat} (h1 : w a = some (.inr (4, [.int mc, .ref d, .int (nI ts.length)]))) (h2 : w d = some (li_o g cap (li_f ts))) (h3 : ts.length ≤ cap) (h4 : cap ≤ 15) (h5 : ∀ y ∈ ts, ∃ fs, w y = some (.inr (3, fs))) (hi : i < ts.length) : fw_R g m_AL_fastRemove (fun r u => r = .inl none ∧ u = fw_up (fw_up w a (.inr (4, [.int (mc + 1), .ref d, .int (nI (ts.length - 1))]))) d (li_o g cap (li_f (li_del ts i)))) nc ns w 0 [(0, .ref a), (1, .ref d), (2, .int (nI i))] [] := by
  have had : d ≠ a := fun q => by rw [q, h1] at h2; cases h2
  have hsub : nI ts.length - 1 = nI (ts.length - 1) := pk_sub (a := ts.length) (b := 1) (by omega)
  have h5w : ∀ y ∈ ts, ∃ fs, (fw_up w a (.inr (4, [.int (mc + 1), .ref d, .int (nI ts.length)]))) y = some (.inr (3, fs)) := fun y hy => by obtain ⟨fs, q⟩ := h5 y hy; exact ⟨fs, fw_up_at q (fun z => by rw [z, h1] at q; cases q)⟩
  refine fr_aload_n (pc := 0) d_AL_fastRemove_0 rfl rfl ?_
  refine fr_dup (pc := 1) d_AL_fastRemove_1 rfl ?_
  refine fr_get (pc := 2) (v := .int mc) d_AL_fastRemove_2 fg_AL_63 h1 rfl ?_
  refine fr_iconst (pc := 5) (v := 1) d_AL_fastRemove_5 (by decide) ?_
  refine fr_iadd (pc := 6) d_AL_fastRemove_6 ?_
  refine fr_put (pc := 7) (fs2 := [.int (mc + 1), .ref d, .int (nI ts.length)]) d_AL_fastRemove_7 fp_AL_fastRemove_63 h1 (Nat.le_of_ble_eq_true rfl) rfl rfl rfl ?_
  refine fr_aload_n (pc := 10) d_AL_fastRemove_10 rfl rfl ?_
  refine fr_get (pc := 11) (v := .int (nI ts.length)) d_AL_fastRemove_11 fg_AL_48 fw_up_self rfl ?_
  refine fr_iconst (pc := 14) (v := 1) d_AL_fastRemove_14 (by decide) ?_
  refine fr_isub (pc := 15) d_AL_fastRemove_15 ?_
  refine fr_st (st2 := [.int (nI (ts.length - 1))]) (by rw [hsub]) ?_
  refine fr_dup (pc := 16) d_AL_fastRemove_16 rfl ?_
  refine fr_istore_n (pc := 17) (L2 := [(0, .ref a), (1, .ref d), (2, .int (nI i)), (3, .int (nI (ts.length - 1)))]) d_AL_fastRemove_17 rfl (by decide) rfl ?_
  refine fr_iload_n (pc := 18) d_AL_fastRemove_18 rfl rfl ?_
  refine fr_icmp_le (pc := 19) (tgt := 34) d_AL_fastRemove_19 (by decide) (fun b19 => ?_) (fun b19 => ?_)
  · have hil : i = ts.length - 1 := by have := (ni_le (by omega) (by omega)).mp b19; omega
    refine fr_aload_n (pc := 34) d_AL_fastRemove_34 rfl rfl ?_
    refine fr_aload_n (pc := 35) d_AL_fastRemove_35 rfl rfl ?_
    refine fr_iload_n (pc := 36) d_AL_fastRemove_36 rfl rfl ?_
    refine fr_dup_x1 (pc := 37) d_AL_fastRemove_37 rfl rfl ?_
    refine fr_put (pc := 38) (fs2 := [.int (mc + 1), .ref d, .int (nI (ts.length - 1))]) d_AL_fastRemove_38 fp_AL_fastRemove_48 fw_up_self (Nat.le_of_ble_eq_true rfl) rfl rfl rfl ?_
    refine fr_null (pc := 41) d_AL_fastRemove_41 ?_
    refine fr_aastN (pc := 42) (t := 4) (C := "java/lang/Object") (n := cap) d_AL_fastRemove_42 rfl (fw_up_at (fw_up_at h2 had) had) (vp_in_nI (n := ts.length - 1) (N := cap) (by omega) (by omega)) ?_
    have e9 : va_up (li_f ts) (ts.length - 1) none = li_f (li_del ts i) := by rw [← li_rem hi, show ts.length - 1 - i = 0 by omega, li_cpy0]
    rw [fw_uu, nI_clamp (by omega : ts.length - 1 < 2 ^ 31), e9]
    exact fr_vret rfl d_AL_fastRemove_43 ⟨rfl, rfl⟩
  · refine fr_aload_n (pc := 22) d_AL_fastRemove_22 rfl rfl ?_
    refine fr_iload_n (pc := 23) d_AL_fastRemove_23 rfl rfl ?_
    refine fr_iconst (pc := 24) (v := 1) d_AL_fastRemove_24 (by decide) ?_
    refine fr_iadd (pc := 25) d_AL_fastRemove_25 ?_
    refine fr_aload_n (pc := 26) d_AL_fastRemove_26 rfl rfl ?_
    refine fr_iload_n (pc := 27) d_AL_fastRemove_27 rfl rfl ?_
    refine fr_iload_n (pc := 28) d_AL_fastRemove_28 rfl rfl ?_
    refine fr_iload_n (pc := 29) d_AL_fastRemove_29 rfl rfl ?_
    refine fr_isub (pc := 30) d_AL_fastRemove_30 ?_
    refine fr_st (st2 := [.int (nI (ts.length - 1 - i)), .int (nI i), .ref d, .int (nI (i + 1)), .ref d]) (by rw [nI_succ, pk_sub (by omega)]) ?_
    refine fr_copy (pc := 31) (n0 := cap) (n1 := cap) (sp := (i + 1)) (dp := i) (k := (ts.length - 1 - i)) (f := (li_f ts)) (f1 := (li_f ts)) (f2 := (va_cpy (li_f ts) (li_f ts) (i + 1) i (ts.length - 1 - i))) d_AL_fastRemove_31 (fw_t 465 (by decide +kernel)) (fw_t 462 (by decide +kernel)) (fw_t 461 (by decide +kernel)) (fw_t 18 (by decide +kernel)) (fw_t 884 (by decide +kernel)) (fw_up_at h2 had) (fw_up_at h2 had) (by omega) (by omega) (by omega) (by omega) (fun k hk z hz => h5w z (List.mem_of_getElem? hz)) rfl (by decide) (by decide +kernel) ?_
    refine fr_aload_n (pc := 34) d_AL_fastRemove_34 rfl rfl ?_
    refine fr_aload_n (pc := 35) d_AL_fastRemove_35 rfl rfl ?_
    refine fr_iload_n (pc := 36) d_AL_fastRemove_36 rfl rfl ?_
    refine fr_dup_x1 (pc := 37) d_AL_fastRemove_37 rfl rfl ?_
    refine fr_put (pc := 38) (fs2 := [.int (mc + 1), .ref d, .int (nI (ts.length - 1))]) d_AL_fastRemove_38 fp_AL_fastRemove_48 (fw_up_at fw_up_self (Ne.symm had)) (Nat.le_of_ble_eq_true rfl) rfl rfl rfl ?_
    refine fr_null (pc := 41) d_AL_fastRemove_41 ?_
    refine fr_aastN (pc := 42) (t := 4) (C := "java/lang/Object") (n := cap) d_AL_fastRemove_42 rfl (fw_up_at fw_up_self had) (vp_in_nI (n := ts.length - 1) (N := cap) (by omega) (by omega)) ?_
    rw [nI_clamp (by omega : ts.length - 1 < 2 ^ 31), li_rem hi]
    exact fr_vret rfl d_AL_fastRemove_43 ⟨rfl, fw_ud (Ne.symm had)⟩
theorem c_AL_rem {g : fw_G} {nc ns : Nat} {w : fw_W} {a d cap i y : Nat} {ts : List Nat} (h : li_at g w a d cap ts) (hy : ts[i]? = some y) : fw_R g m_AL_remove (fun r u => r = .inl (some (.ref y)) ∧ li_at g u a d cap (li_del ts i) ∧ ∀ b, b ≠ a → b ≠ d → u b = w b) nc ns w 0 [(0, .ref a), (1, .int (nI i))] [] := by
  have hi : i < ts.length := (List.getElem?_eq_some_iff.mp hy).1
  obtain ⟨mc, h1, h12, h5, ⟨-, h0⟩ | ⟨h2, h3, h4⟩⟩ := id h
  · subst h0; exact absurd hi (Nat.not_lt_zero _)
  have had : d ≠ a := fun q => by rw [q, h1] at h2; cases h2
  refine fr_iload_n (pc := 0) d_AL_remove_0 rfl rfl ?_
  refine fr_aload_n (pc := 1) d_AL_remove_1 rfl rfl ?_
  refine fr_get (pc := 2) (v := .int (nI ts.length)) d_AL_remove_2 fg_AL_48 h1 rfl ?_
  refine fr_calls_p (pc := 5) (nc := nc) (ns := ns) (N := m_OB_checkIndex) (rest := []) (as := [.int (nI i), .int (nI ts.length)]) (v := .int (nI i)) d_AL_remove_5 k_OB_checkIndex lk_AL_118 sc_OB_checkIndex np_OB_checkIndex ⟨by decide, by decide, Nat.le_of_ble_eq_true rfl⟩ (Nat.le_of_ble_eq_true rfl) (c_OB_chk hi (by omega)) rfl ?_
  refine fr_pop (pc := 8) d_AL_remove_8 rfl ?_
  refine fr_aload_n (pc := 9) d_AL_remove_9 rfl rfl ?_
  refine fr_get (pc := 10) (v := .ref d) d_AL_remove_10 fg_AL_9 h1 rfl ?_
  refine fr_astore_n (pc := 13) (L2 := [(0, .ref a), (1, .int (nI i)), (2, .ref d)]) d_AL_remove_13 rfl (by decide) rfl ?_
  refine fr_aload_n (pc := 14) d_AL_remove_14 rfl rfl ?_
  refine fr_iload_n (pc := 15) d_AL_remove_15 rfl rfl ?_
  refine fr_aaldN (pc := 16) (t := 4) (k := i) (n := cap) d_AL_remove_16 rfl h2 (by omega) (by omega) ?_
  rw [show li_f ts i = some y from hy]
  refine fr_st (st2 := [.ref y]) rfl ?_
  refine fr_astore_n (pc := 17) (L2 := [(0, .ref a), (1, .int (nI i)), (2, .ref d), (3, .ref y)]) d_AL_remove_17 rfl (by decide) rfl ?_
  refine fr_aload_n (pc := 18) d_AL_remove_18 rfl rfl ?_
  refine fr_aload_n (pc := 19) d_AL_remove_19 rfl rfl ?_
  refine fr_iload_n (pc := 20) d_AL_remove_20 rfl rfl ?_
  refine fr_callV (pc := 21) (nc := nc) (ns := ns) (N := m_AL_fastRemove) (rest := []) (as := [.ref d, .int (nI i)]) d_AL_remove_21 vc_AL_144 ⟨by decide, by decide, Nat.le_of_ble_eq_true rfl⟩ (Nat.le_of_ble_eq_true rfl) h1 (c_AL_fast h1 h2 h3 (by omega) h5 hi) rfl (fun v w1 hp => ?_) (fun C w1 hp => ?_)
  · obtain ⟨e1, e2⟩ := hp
    cases e1
    subst e2
    refine fr_st (st2 := []) rfl ?_
    refine fr_aload_n (pc := 24) d_AL_remove_24 rfl rfl ?_
    refine fr_aret rfl (Or.inl ⟨_, rfl⟩) (Or.inr ⟨_, rfl⟩) d_AL_remove_25 ⟨rfl, ⟨mc + 1, by rw [fw_up_ne (Ne.symm had), fw_up_self, li_del_len hi], by rw [li_del_len hi]; omega, fun z hz => ?_, Or.inr ⟨fw_up_self, by rw [li_del_len hi]; omega, h4⟩⟩, fun b hb hb2 => by rw [fw_up_ne hb2, fw_up_ne hb]⟩
    obtain ⟨fs, q⟩ := h5 z (li_del_mem hz)
    exact ⟨fs, fw_up_at (fw_up_at q (fun z2 => by rw [z2, h1] at q; cases q)) (fun z2 => by rw [z2, h2] at q; cases q)⟩
  · obtain ⟨e1, e2⟩ := hp
    cases e1

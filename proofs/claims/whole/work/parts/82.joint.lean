theorem lx_nd {nd : fs_D} {x : Int32} (h : ¬ ∃ k N, x = nI k ∧ nd k = some N) : ∀ k, x = nI k → nd k = none := fun k e => by
  cases h2 : nd k with
  | none => rfl
  | some N => exact absurd ⟨k, N, e, h2⟩ h
theorem lx_no {x : Int32} {m : Nat} (h : ¬ ∃ k, k < m ∧ x = nI k) : fs_no2 x m := fun k hk e => h ⟨k, hk, e⟩
theorem j_user {g : fw_G} {w : fw_W} {o gr a1 a2 a3 a4 na out us n : Nat} {hu hg : Nat → Nat → Bool} {nd : fs_D} (hX : fs_X g (o, gr, a1, a2, a3, a4, na) (us, n, hu, hg, nd) w) {f : Nat → Int64} (hout : w out = some (lx_lo g f)) {mo : Nat} {ar : Nat → Nat} (hA : fm_ad mo ar) {F : fm_F} (hc : fm_c us n hu hg nd F)  : ∃ (c : Int32) (v : Int32) (S2 : fs_S), fw_R g m_LW_user (lx_Wp g (o, gr, a1, a2, a3, a4, na) w out S2 c v.toInt64) 1 6 w 0 [(0, .ref o), (1, .ref out)] [] ∧ ∀ (w0 : fw_W) (th so pl po : Int32), fw_R g m_MO_user (fm_P g w0 mo ar (.int v) c S2) 0 0 (fm_W g w0 mo ar (th, us, n, so, pl, po) F) 0 [(0, .ref mo)] [] := by
  have hs := fm_S_of hX
  by_cases h : us < 60
  · exact ⟨0, _, _, w_user_ok hX hout (p_FR_user_ok hX h), fun w0 th so pl po => p_MO_user_ok hA hc hs h⟩
  · exact ⟨1, 0, _, w_user_ISE hX hout (p_FR_user_no hX h), fun w0 th so pl po => p_MO_user_no hA hc hs h⟩
theorem j_group {g : fw_G} {w : fw_W} {o gr a1 a2 a3 a4 na out us n : Nat} {hu hg : Nat → Nat → Bool} {nd : fs_D} (hX : fs_X g (o, gr, a1, a2, a3, a4, na) (us, n, hu, hg, nd) w) {f : Nat → Int64} (hout : w out = some (lx_lo g f)) {mo : Nat} {ar : Nat → Nat} (hA : fm_ad mo ar) {F : fm_F} (hc : fm_c us n hu hg nd F)  : ∃ (c : Int32) (v : Int32) (S2 : fs_S), fw_R g m_LW_group (lx_Wp g (o, gr, a1, a2, a3, a4, na) w out S2 c v.toInt64) 1 6 w 0 [(0, .ref o), (1, .ref out)] [] ∧ ∀ (w0 : fw_W) (th so pl po : Int32), fw_R g m_MO_group (fm_P g w0 mo ar (.int v) c S2) 0 0 (fm_W g w0 mo ar (th, us, n, so, pl, po) F) 0 [(0, .ref mo)] [] := by
  have hs := fm_S_of hX
  by_cases h : n < 24
  · exact ⟨0, _, _, w_group_ok hX hout (p_FR_group_ok hX h), fun w0 th so pl po => p_MO_group_ok hA hc hs h⟩
  · exact ⟨1, 0, _, w_group_ISE hX hout (p_FR_group_no hX h), fun w0 th so pl po => p_MO_group_no hA hc hs h⟩
theorem j_join {g : fw_G} {w : fw_W} {o gr a1 a2 a3 a4 na out us n : Nat} {hu hg : Nat → Nat → Bool} {nd : fs_D} (hX : fs_X g (o, gr, a1, a2, a3, a4, na) (us, n, hu, hg, nd) w) {f : Nat → Int64} (hout : w out = some (lx_lo g f)) {mo : Nat} {ar : Nat → Nat} (hA : fm_ad mo ar) {F : fm_F} (hc : fm_c us n hu hg nd F) (x1 : Int32) (x2 : Int32) (x3 : Bool) : ∃ (c : Int32) (v : Bool) (S2 : fs_S), fw_R g m_LW_join (lx_Wp g (o, gr, a1, a2, a3, a4, na) w out S2 c (bI v).toInt64) 4 24 w 0 [(0, .ref o), (1, .int x1), (2, .int x2), (3, .int (bI x3)), (4, .ref out)] [] ∧ ∀ (w0 : fw_W) (th so pl po : Int32), fw_R g m_MO_join (fm_P g w0 mo ar (.int (bI v)) c S2) 0 0 (fm_W g w0 mo ar (th, us, n, so, pl, po) F) 0 [(0, .ref mo), (1, .int x1), (2, .int x2), (3, .int (bI x3))] [] := by
  have hs := fm_S_of hX
  by_cases hx1 : ∃ k, k < n ∧ x1 = nI k
  · obtain ⟨i, hi, rfl⟩ := hx1
    by_cases hx2 : ∃ k, k < (if x3 then n else us) ∧ x2 = nI k
    · obtain ⟨j, hj, rfl⟩ := hx2
      by_cases h : x3 = true ∧ cl_rt hg j i
      · obtain ⟨rfl, h3⟩ := h
        exact ⟨2, false, _, w_join_ISE hX hout (p_FR_join_cir hX hi hj h3), fun w0 th so pl po => p_MO_join_cir hA hc hs hi hj h3⟩
      · have h3 : x3 = true → ¬ cl_rt hg j i := fun z q => h ⟨z, q⟩
        cases h4 : fs_hh hu hg x3 i j with
        | false =>
          exact ⟨0, _, _, w_join_ok hX hout (p_FR_join_new hX hi hj h3 h4), fun w0 th so pl po => p_MO_join_new hA hc hs hi hj h3 h4⟩
        | true =>
          exact ⟨0, _, _, w_join_ok hX hout (p_FR_join_has hX hi hj h3 h4), fun w0 th so pl po => p_MO_join_has hA hc hs hi hj h3 h4⟩
    · exact ⟨1, false, _, w_join_NSE hX hout (p_FR_join_n2 hX hi (lx_no hx2)), fun w0 th so pl po => p_MO_join_n2 hA hc hs hi (lx_no hx2)⟩
  · exact ⟨1, false, _, w_join_NSE hX hout (p_FR_join_n1 hX (lx_no hx1)), fun w0 th so pl po => p_MO_join_n1 hA hc hs (lx_no hx1)⟩
theorem j_leave {g : fw_G} {w : fw_W} {o gr a1 a2 a3 a4 na out us n : Nat} {hu hg : Nat → Nat → Bool} {nd : fs_D} (hX : fs_X g (o, gr, a1, a2, a3, a4, na) (us, n, hu, hg, nd) w) {f : Nat → Int64} (hout : w out = some (lx_lo g f)) {mo : Nat} {ar : Nat → Nat} (hA : fm_ad mo ar) {F : fm_F} (hc : fm_c us n hu hg nd F) (x1 : Int32) (x2 : Int32) (x3 : Bool) : ∃ (c : Int32) (v : Bool) (S2 : fs_S), fw_R g m_LW_leave (lx_Wp g (o, gr, a1, a2, a3, a4, na) w out S2 c (bI v).toInt64) 3 18 w 0 [(0, .ref o), (1, .int x1), (2, .int x2), (3, .int (bI x3)), (4, .ref out)] [] ∧ ∀ (w0 : fw_W) (th so pl po : Int32), fw_R g m_MO_leave (fm_P g w0 mo ar (.int (bI v)) c S2) 0 0 (fm_W g w0 mo ar (th, us, n, so, pl, po) F) 0 [(0, .ref mo), (1, .int x1), (2, .int x2), (3, .int (bI x3))] [] := by
  have hs := fm_S_of hX
  by_cases hx1 : ∃ k, k < n ∧ x1 = nI k
  · obtain ⟨i, hi, rfl⟩ := hx1
    by_cases hx2 : ∃ k, k < (if x3 then n else us) ∧ x2 = nI k
    · obtain ⟨j, hj, rfl⟩ := hx2
      cases h4 : fs_hh hu hg x3 i j with
      | false =>
        exact ⟨0, _, _, w_leave_ok hX hout (p_FR_leave_no hX hi hj h4), fun w0 th so pl po => p_MO_leave_no hA hc hs hi hj h4⟩
      | true =>
        exact ⟨0, _, _, w_leave_ok hX hout (p_FR_leave_has hX hi hj h4), fun w0 th so pl po => p_MO_leave_has hA hc hs hi hj h4⟩
    · exact ⟨1, false, _, w_leave_NSE hX hout (p_FR_leave_n2 hX hi (lx_no hx2)), fun w0 th so pl po => p_MO_leave_n2 hA hc hs hi (lx_no hx2)⟩
  · exact ⟨1, false, _, w_leave_NSE hX hout (p_FR_leave_n1 hX (lx_no hx1)), fun w0 th so pl po => p_MO_leave_n1 hA hc hs (lx_no hx1)⟩
theorem j_node {g : fw_G} {w : fw_W} {o gr a1 a2 a3 a4 na out us n : Nat} {hu hg : Nat → Nat → Bool} {nd : fs_D} (hX : fs_X g (o, gr, a1, a2, a3, a4, na) (us, n, hu, hg, nd) w) {f : Nat → Int64} (hout : w out = some (lx_lo g f)) {mo : Nat} {ar : Nat → Nat} (hA : fm_ad mo ar) {F : fm_F} (hc : fm_c us n hu hg nd F) (x1 : Int32) (x2 : Bool) (x3 : Int32) : ∃ (c : Int32) (v : Int32) (S2 : fs_S), fw_R g m_LW_node (lx_Wp g (o, gr, a1, a2, a3, a4, na) w out S2 c v.toInt64) 7 40 w 0 [(0, .ref o), (1, .int x1), (2, .int (bI x2)), (3, .int x3), (4, .ref out)] [] ∧ ∀ (w0 : fw_W) (th so pl po : Int32), fw_R g m_MO_node (fm_P g w0 mo ar (.int v) c S2) 0 0 (fm_W g w0 mo ar (th, us, n, so, pl, po) F) 0 [(0, .ref mo), (1, .int x1), (2, .int (bI x2)), (3, .int x3)] [] := by
  have hs := fm_S_of hX
  by_cases hx1 : ∃ k N, x1 = nI k ∧ nd k = some N
  · obtain ⟨k, N, rfl, hk⟩ := hx1
    by_cases hx3 : ∃ k, k < us ∧ x3 = nI k
    · obtain ⟨u, hu2, rfl⟩ := hx3
      cases hfo : N.1 with
      | false =>
        exact ⟨2, 0, _, w_node_IAE hX hout (p_FR_node_n3 hX hk hu2 hfo), fun w0 th so pl po => p_MO_node_n3 hA hc hs hk hu2 hfo⟩
      | true =>
        cases hf : fs_frn nd with
        | none =>
          exact ⟨3, 0, _, w_node_ISE hX hout (p_FR_node_n4 hX hk hu2 hfo hf), fun w0 th so pl po => p_MO_node_n4 hA hc hs hk hu2 hfo hf⟩
        | some f =>
          by_cases h : (fs_ab nd k).length < 20
          · exact ⟨0, _, _, w_node_ok hX hout (p_FR_node_ok hX hk hu2 hfo hf h), fun w0 th so pl po => p_MO_node_ok hA hc hs hk hu2 hfo hf h⟩
          · exact ⟨3, 0, _, w_node_ISE hX hout (p_FR_node_n5 hX hk hu2 hfo hf h), fun w0 th so pl po => p_MO_node_n5 hA hc hs hk hu2 hfo hf h⟩
    · exact ⟨1, 0, _, w_node_NSE hX hout (p_FR_node_n2 hX hk (lx_no hx3)), fun w0 th so pl po => p_MO_node_n2 hA hc hs hk (lx_no hx3)⟩
  · exact ⟨1, 0, _, w_node_NSE hX hout (p_FR_node_n1 hX (lx_nd hx1)), fun w0 th so pl po => p_MO_node_n1 hA hc hs (lx_nd hx1)⟩
theorem j_move {g : fw_G} {w : fw_W} {o gr a1 a2 a3 a4 na out us n : Nat} {hu hg : Nat → Nat → Bool} {nd : fs_D} (hX : fs_X g (o, gr, a1, a2, a3, a4, na) (us, n, hu, hg, nd) w) {f : Nat → Int64} (hout : w out = some (lx_lo g f)) {mo : Nat} {ar : Nat → Nat} (hA : fm_ad mo ar) {F : fm_F} (hc : fm_c us n hu hg nd F) (x1 : Int32) (x2 : Int32) : ∃ (c : Int32) (v : Int32) (S2 : fs_S), fw_R g m_LW_move (lx_Wp g (o, gr, a1, a2, a3, a4, na) w out S2 c v.toInt64) 6 36 w 0 [(0, .ref o), (1, .int x1), (2, .int x2), (3, .ref out)] [] ∧ ∀ (w0 : fw_W) (th so pl po : Int32), fw_R g m_MO_move (fm_P g w0 mo ar (.int v) c S2) 0 0 (fm_W g w0 mo ar (th, us, n, so, pl, po) F) 0 [(0, .ref mo), (1, .int x1), (2, .int x2)] [] := by
  have hs := fm_S_of hX
  by_cases hx1 : ∃ k N, x1 = nI k ∧ nd k = some N
  · obtain ⟨k, N, rfl, hk⟩ := hx1
    by_cases hx2 : ∃ k N, x2 = nI k ∧ nd k = some N
    · obtain ⟨p, Q, rfl, hp⟩ := hx2
      cases h0p : N.2.1 with
      | none =>
        exact ⟨2, 0, _, w_move_IAE hX hout (p_FR_move_n3 hX hk hp h0p), fun w0 th so pl po => p_MO_move_n3 hA hc hs hk hp h0p⟩
      | some p0 =>
        cases hfo : Q.1 with
        | false =>
          exact ⟨2, 0, _, w_move_IAE hX hout (p_FR_move_n4 hX hk hp h0p hfo), fun w0 th so pl po => p_MO_move_n4 hA hc hs hk hp h0p hfo⟩
        | true =>
          cases hun : fs_un nd p k with
          | true =>
            exact ⟨2, 0, _, w_move_IAE hX hout (p_FR_move_n5 hX hk hp h0p hfo hun), fun w0 th so pl po => p_MO_move_n5 hA hc hs hk hp h0p hfo hun⟩
          | false =>
            by_cases h : (fs_ab nd p).length + 1 + (fs_hi (fs_f5 nd k) 150 0 0) ≤ 20
            · exact ⟨0, _, _, w_move_ok hX hout (p_FR_move_ok hX hk hp h0p hfo hun h), fun w0 th so pl po => p_MO_move_ok hA hc hs hk hp h0p hfo hun h⟩
            · exact ⟨3, 0, _, w_move_ISE hX hout (p_FR_move_n6 hX hk hp h0p hfo hun h), fun w0 th so pl po => p_MO_move_n6 hA hc hs hk hp h0p hfo hun h⟩
    · exact ⟨1, 0, _, w_move_NSE hX hout (p_FR_move_n2 hX hk (lx_nd hx2)), fun w0 th so pl po => p_MO_move_n2 hA hc hs hk (lx_nd hx2)⟩
  · exact ⟨1, 0, _, w_move_NSE hX hout (p_FR_move_n1 hX (lx_nd hx1)), fun w0 th so pl po => p_MO_move_n1 hA hc hs (lx_nd hx1)⟩
theorem j_remove {g : fw_G} {w : fw_W} {o gr a1 a2 a3 a4 na out us n : Nat} {hu hg : Nat → Nat → Bool} {nd : fs_D} (hX : fs_X g (o, gr, a1, a2, a3, a4, na) (us, n, hu, hg, nd) w) {f : Nat → Int64} (hout : w out = some (lx_lo g f)) {mo : Nat} {ar : Nat → Nat} (hA : fm_ad mo ar) {F : fm_F} (hc : fm_c us n hu hg nd F) (x1 : Int32) : ∃ (c : Int32) (v : Int32) (S2 : fs_S), fw_R g m_LW_remove (lx_Wp g (o, gr, a1, a2, a3, a4, na) w out S2 c v.toInt64) 3 18 w 0 [(0, .ref o), (1, .int x1), (2, .ref out)] [] ∧ ∀ (w0 : fw_W) (th so pl po : Int32), fw_R g m_MO_remove (fm_P g w0 mo ar (.int v) c S2) 0 0 (fm_W g w0 mo ar (th, us, n, so, pl, po) F) 0 [(0, .ref mo), (1, .int x1)] [] := by
  have hs := fm_S_of hX
  by_cases hx1 : ∃ k N, x1 = nI k ∧ nd k = some N
  · obtain ⟨k, N, rfl, hk⟩ := hx1
    cases hp : N.2.1 with
    | none =>
      exact ⟨2, 0, _, w_remove_IAE hX hout (p_FR_remove_n2 hX hk hp), fun w0 th so pl po => p_MO_remove_n2 hA hc hs hk hp⟩
    | some p =>
      by_cases h : (fs_sum (fs_f4 nd k) 150 0) = 0
      · exact ⟨0, _, _, w_remove_ok hX hout (p_FR_remove_ok hX hk hp h), fun w0 th so pl po => p_MO_remove_ok hA hc hs hk hp h⟩
      · exact ⟨3, 0, _, w_remove_ISE hX hout (p_FR_remove_n3 hX hk hp h), fun w0 th so pl po => p_MO_remove_n3 hA hc hs hk hp h⟩
  · exact ⟨1, 0, _, w_remove_NSE hX hout (p_FR_remove_n1 hX (lx_nd hx1)), fun w0 th so pl po => p_MO_remove_n1 hA hc hs (lx_nd hx1)⟩
theorem j_entry {g : fw_G} {w : fw_W} {o gr a1 a2 a3 a4 na out us n : Nat} {hu hg : Nat → Nat → Bool} {nd : fs_D} (hX : fs_X g (o, gr, a1, a2, a3, a4, na) (us, n, hu, hg, nd) w) {f : Nat → Int64} (hout : w out = some (lx_lo g f)) {mo : Nat} {ar : Nat → Nat} (hA : fm_ad mo ar) {F : fm_F} (hc : fm_c us n hu hg nd F) (x1 : Int32) (x2 : Int32) (x3 : Bool) (x4 : Int32) (x5 : Bool) (x6 : Int32) (x7 : Int32) : ∃ (c : Int32) (v : Int32) (S2 : fs_S), fw_R g m_LW_entry (lx_Wp g (o, gr, a1, a2, a3, a4, na) w out S2 c v.toInt64) 10 72 w 0 [(0, .ref o), (1, .int x1), (2, .int x2), (3, .int (bI x3)), (4, .int x4), (5, .int (bI x5)), (6, .int x6), (7, .int x7), (8, .ref out)] [] ∧ ∀ (w0 : fw_W) (th so pl po : Int32), fw_R g m_MO_entry (fm_P g w0 mo ar (.int v) c S2) 0 0 (fm_W g w0 mo ar (th, us, n, so, pl, po) F) 0 [(0, .ref mo), (1, .int x1), (2, .int x2), (3, .int (bI x3)), (4, .int x4), (5, .int (bI x5)), (6, .int x6), (7, .int x7)] [] := by
  have hs := fm_S_of hX
  by_cases hx1 : ∃ k N, x1 = nI k ∧ nd k = some N
  · obtain ⟨k, N, rfl, hk⟩ := hx1
    by_cases hx4 : ∃ k, k < (if x5 then n else us) ∧ x4 = nI k
    · obtain ⟨j, hj, rfl⟩ := hx4
      by_cases hb : fs_pk x2 N.2.2.2.2.2.length ∧ fs_rk x6 ∧ fs_fk x7
      · obtain ⟨⟨i, hi, rfl⟩, ⟨bi, hb1, hb2, rfl⟩, ⟨fl, hf1, hf2, hf3, rfl⟩⟩ := hb
        by_cases h12 : N.2.2.2.2.2.length < 12
        · exact ⟨0, _, _, w_entry_ok hX hout (p_FR_entry_ok hX hk hj hi hb1 hb2 hf1 hf2 hf3 h12), fun w0 th so pl po => p_MO_entry_ok hA hc hs hk hj hi hb1 hb2 hf1 hf2 hf3 h12⟩
        · exact ⟨3, 0, _, w_entry_ISE hX hout (p_FR_entry_n4 hX hk hj hi hb1 hb2 hf1 hf2 hf3 h12), fun w0 th so pl po => p_MO_entry_n4 hA hc hs hk hj hi hb1 hb2 hf1 hf2 hf3 h12⟩
      · exact ⟨2, 0, _, w_entry_IAE hX hout (p_FR_entry_n3 hX hk hj hb), fun w0 th so pl po => p_MO_entry_n3 hA hc hs hk hj hb⟩
    · exact ⟨1, 0, _, w_entry_NSE hX hout (p_FR_entry_n2 hX hk (lx_no hx4)), fun w0 th so pl po => p_MO_entry_n2 hA hc hs hk (lx_no hx4)⟩
  · exact ⟨1, 0, _, w_entry_NSE hX hout (p_FR_entry_n1 hX (lx_nd hx1)), fun w0 th so pl po => p_MO_entry_n1 hA hc hs (lx_nd hx1)⟩
theorem j_dropEntry {g : fw_G} {w : fw_W} {o gr a1 a2 a3 a4 na out us n : Nat} {hu hg : Nat → Nat → Bool} {nd : fs_D} (hX : fs_X g (o, gr, a1, a2, a3, a4, na) (us, n, hu, hg, nd) w) {f : Nat → Int64} (hout : w out = some (lx_lo g f)) {mo : Nat} {ar : Nat → Nat} (hA : fm_ad mo ar) {F : fm_F} (hc : fm_c us n hu hg nd F) (x1 : Int32) (x2 : Int32) : ∃ (c : Int32) (v : Int32) (S2 : fs_S), fw_R g m_LW_dropEntry (lx_Wp g (o, gr, a1, a2, a3, a4, na) w out S2 c v.toInt64) 2 12 w 0 [(0, .ref o), (1, .int x1), (2, .int x2), (3, .ref out)] [] ∧ ∀ (w0 : fw_W) (th so pl po : Int32), fw_R g m_MO_dropEntry (fm_P g w0 mo ar (.int v) c S2) 0 0 (fm_W g w0 mo ar (th, us, n, so, pl, po) F) 0 [(0, .ref mo), (1, .int x1), (2, .int x2)] [] := by
  have hs := fm_S_of hX
  by_cases hx1 : ∃ k N, x1 = nI k ∧ nd k = some N
  · obtain ⟨k, N, rfl, hk⟩ := hx1
    by_cases hx2 : ∃ k, k < N.2.2.2.2.2.length ∧ x2 = nI k
    · obtain ⟨i, hi, rfl⟩ := hx2
      exact ⟨0, _, _, w_dropEntry_ok hX hout (p_FR_dropEntry_ok hX hk hi), fun w0 th so pl po => p_MO_dropEntry_ok hA hc hs hk hi⟩
    · exact ⟨1, 0, _, w_dropEntry_NSE hX hout (p_FR_dropEntry_n2 hX hk (lx_no hx2)), fun w0 th so pl po => p_MO_dropEntry_n2 hA hc hs hk (lx_no hx2)⟩
  · exact ⟨1, 0, _, w_dropEntry_NSE hX hout (p_FR_dropEntry_n1 hX (lx_nd hx1)), fun w0 th so pl po => p_MO_dropEntry_n1 hA hc hs (lx_nd hx1)⟩
theorem j_block {g : fw_G} {w : fw_W} {o gr a1 a2 a3 a4 na out us n : Nat} {hu hg : Nat → Nat → Bool} {nd : fs_D} (hX : fs_X g (o, gr, a1, a2, a3, a4, na) (us, n, hu, hg, nd) w) {f : Nat → Int64} (hout : w out = some (lx_lo g f)) {mo : Nat} {ar : Nat → Nat} (hA : fm_ad mo ar) {F : fm_F} (hc : fm_c us n hu hg nd F) (x1 : Int32) (x2 : Bool) : ∃ (c : Int32) (v : Bool) (S2 : fs_S), fw_R g m_LW_block (lx_Wp g (o, gr, a1, a2, a3, a4, na) w out S2 c (bI v).toInt64) 1 6 w 0 [(0, .ref o), (1, .int x1), (2, .int (bI x2)), (3, .ref out)] [] ∧ ∀ (w0 : fw_W) (th so pl po : Int32), fw_R g m_MO_block (fm_P g w0 mo ar (.int (bI v)) c S2) 0 0 (fm_W g w0 mo ar (th, us, n, so, pl, po) F) 0 [(0, .ref mo), (1, .int x1), (2, .int (bI x2))] [] := by
  have hs := fm_S_of hX
  by_cases hx1 : ∃ k N, x1 = nI k ∧ nd k = some N
  · obtain ⟨k, N, rfl, hk⟩ := hx1
    by_cases h : N.2.2.2.1 = x2
    · exact ⟨0, _, _, w_block_ok hX hout (p_FR_block_eq hX hk h), fun w0 th so pl po => p_MO_block_eq hA hc hs hk h⟩
    · exact ⟨0, _, _, w_block_ok hX hout (p_FR_block_ne hX hk h), fun w0 th so pl po => p_MO_block_ne hA hc hs hk h⟩
  · exact ⟨1, false, _, w_block_NSE hX hout (p_FR_block_n1 hX (lx_nd hx1)), fun w0 th so pl po => p_MO_block_n1 hA hc hs (lx_nd hx1)⟩
theorem j_owner {g : fw_G} {w : fw_W} {o gr a1 a2 a3 a4 na out us n : Nat} {hu hg : Nat → Nat → Bool} {nd : fs_D} (hX : fs_X g (o, gr, a1, a2, a3, a4, na) (us, n, hu, hg, nd) w) {f : Nat → Int64} (hout : w out = some (lx_lo g f)) {mo : Nat} {ar : Nat → Nat} (hA : fm_ad mo ar) {F : fm_F} (hc : fm_c us n hu hg nd F) (x1 : Int32) (x2 : Int32) : ∃ (c : Int32) (v : Int32) (S2 : fs_S), fw_R g m_LW_owner (lx_Wp g (o, gr, a1, a2, a3, a4, na) w out S2 c v.toInt64) 2 12 w 0 [(0, .ref o), (1, .int x1), (2, .int x2), (3, .ref out)] [] ∧ ∀ (w0 : fw_W) (th so pl po : Int32), fw_R g m_MO_owner (fm_P g w0 mo ar (.int v) c S2) 0 0 (fm_W g w0 mo ar (th, us, n, so, pl, po) F) 0 [(0, .ref mo), (1, .int x1), (2, .int x2)] [] := by
  have hs := fm_S_of hX
  by_cases hx1 : ∃ k N, x1 = nI k ∧ nd k = some N
  · obtain ⟨k, N, rfl, hk⟩ := hx1
    by_cases hx2 : ∃ k, k < us ∧ x2 = nI k
    · obtain ⟨u, hu2, rfl⟩ := hx2
      exact ⟨0, _, _, w_owner_ok hX hout (p_FR_owner_ok hX hk hu2), fun w0 th so pl po => p_MO_owner_ok hA hc hs hk hu2⟩
    · exact ⟨1, 0, _, w_owner_NSE hX hout (p_FR_owner_n2 hX hk (lx_no hx2)), fun w0 th so pl po => p_MO_owner_n2 hA hc hs hk (lx_no hx2)⟩
  · exact ⟨1, 0, _, w_owner_NSE hX hout (p_FR_owner_n1 hX (lx_nd hx1)), fun w0 th so pl po => p_MO_owner_n1 hA hc hs (lx_nd hx1)⟩
theorem j_rights {g : fw_G} {w : fw_W} {o gr a1 a2 a3 a4 na out us n : Nat} {hu hg : Nat → Nat → Bool} {nd : fs_D} (hX : fs_X g (o, gr, a1, a2, a3, a4, na) (us, n, hu, hg, nd) w) {f : Nat → Int64} (hout : w out = some (lx_lo g f)) {mo : Nat} {ar : Nat → Nat} (hA : fm_ad mo ar) {F : fm_F} (hc : fm_c us n hu hg nd F) (x1 : Int32) (x2 : Int32) : ∃ (c : Int32) (v : Int32) (S2 : fs_S), fw_R g m_LW_rights (lx_Wp g (o, gr, a1, a2, a3, a4, na) w out S2 c v.toInt64) 2 12 w 0 [(0, .ref o), (1, .int x1), (2, .int x2), (3, .ref out)] [] ∧ ∀ (w0 : fw_W) (th so pl po : Int32), fw_R g m_MO_rights (fm_P g w0 mo ar (.int v) c S2) 0 0 (fm_W g w0 mo ar (th, us, n, so, pl, po) F) 0 [(0, .ref mo), (1, .int x1), (2, .int x2)] [] := by
  have hs := fm_S_of hX
  by_cases hx1 : ∃ k, k < us ∧ x1 = nI k
  · obtain ⟨u, hu2, rfl⟩ := hx1
    by_cases hx2 : ∃ k N, x2 = nI k ∧ nd k = some N
    · obtain ⟨k, N, rfl, hk⟩ := hx2
      exact ⟨0, _, _, w_rights_ok hX hout (p_FR_rights_ok hX hk hu2), fun w0 th so pl po => p_MO_rights_ok hA hc hs hk hu2⟩
    · exact ⟨1, 0, _, w_rights_NSE hX hout (p_FR_rights_n2 hX hu2 (lx_nd hx2)), fun w0 th so pl po => p_MO_rights_n2 hA hc hs hu2 (lx_nd hx2)⟩
  · exact ⟨1, 0, _, w_rights_NSE hX hout (p_FR_rights_n1 hX (lx_no hx1)), fun w0 th so pl po => p_MO_rights_n1 hA hc hs (lx_no hx1)⟩
theorem j_explain {g : fw_G} {w : fw_W} {o gr a1 a2 a3 a4 na out us n : Nat} {hu hg : Nat → Nat → Bool} {nd : fs_D} (hX : fs_X g (o, gr, a1, a2, a3, a4, na) (us, n, hu, hg, nd) w) {f : Nat → Int64} (hout : w out = some (lx_lo g f)) {mo : Nat} {ar : Nat → Nat} (hA : fm_ad mo ar) {F : fm_F} (hc : fm_c us n hu hg nd F) (x1 : Int32) (x2 : Int32) (x3 : Int32) (x4 : Int32) : ∃ (c : Int32) (v : Int32) (S2 : fs_S), fw_R g m_LW_explain (lx_Wp g (o, gr, a1, a2, a3, a4, na) w out S2 c v.toInt64) 4 24 w 0 [(0, .ref o), (1, .int x1), (2, .int x2), (3, .int x3), (4, .int x4), (5, .ref out)] [] ∧ ∀ (w0 : fw_W) (th so pl po : Int32), fw_R g m_MO_explain (fm_P g w0 mo ar (.int v) c S2) 0 0 (fm_W g w0 mo ar (th, us, n, so, pl, po) F) 0 [(0, .ref mo), (1, .int x1), (2, .int x2), (3, .int x3), (4, .int x4)] [] := by
  have hs := fm_S_of hX
  by_cases hx1 : ∃ k, k < us ∧ x1 = nI k
  · obtain ⟨u, hu2, rfl⟩ := hx1
    by_cases hx2 : ∃ k N, x2 = nI k ∧ nd k = some N
    · obtain ⟨k, N, rfl, hk⟩ := hx2
      by_cases hx3 : ∃ k, k < 8 ∧ x3 = nI k
      · obtain ⟨r, hr8, rfl⟩ := hx3
        by_cases hx4 : ∃ k, k < 3 ∧ x4 = nI k
        · obtain ⟨f, hf3, rfl⟩ := hx4
          exact ⟨0, _, _, w_explain_ok hX hout (p_FR_explain_ok hX hk hu2 hr8 hf3), fun w0 th so pl po => p_MO_explain_ok hA hc hs hk hu2 hr8 hf3⟩
        · exact ⟨2, 0, _, w_explain_IAE hX hout (p_FR_explain_n4 hX hk hu2 hr8 (lx_no hx4)), fun w0 th so pl po => p_MO_explain_n4 hA hc hs hk hu2 hr8 (lx_no hx4)⟩
      · exact ⟨2, 0, _, w_explain_IAE hX hout (p_FR_explain_n3 hX hk hu2 (lx_no hx3)), fun w0 th so pl po => p_MO_explain_n3 hA hc hs hk hu2 (lx_no hx3)⟩
    · exact ⟨1, 0, _, w_explain_NSE hX hout (p_FR_explain_n2 hX hu2 (lx_nd hx2)), fun w0 th so pl po => p_MO_explain_n2 hA hc hs hu2 (lx_nd hx2)⟩
  · exact ⟨1, 0, _, w_explain_NSE hX hout (p_FR_explain_n1 hX (lx_no hx1)), fun w0 th so pl po => p_MO_explain_n1 hA hc hs (lx_no hx1)⟩
theorem j_who {g : fw_G} {w : fw_W} {o gr a1 a2 a3 a4 na out us n : Nat} {hu hg : Nat → Nat → Bool} {nd : fs_D} (hX : fs_X g (o, gr, a1, a2, a3, a4, na) (us, n, hu, hg, nd) w) {f : Nat → Int64} (hout : w out = some (lx_lo g f)) {mo : Nat} {ar : Nat → Nat} (hA : fm_ad mo ar) {F : fm_F} (hc : fm_c us n hu hg nd F) (x1 : Int32) (x2 : Int32) (x3 : Int32) : ∃ (c : Int32) (v : Int32) (S2 : fs_S), fw_R g m_LW_who (lx_Wp g (o, gr, a1, a2, a3, a4, na) w out S2 c v.toInt64) 3 18 w 0 [(0, .ref o), (1, .int x1), (2, .int x2), (3, .int x3), (4, .ref out)] [] ∧ ∀ (w0 : fw_W) (th so pl po : Int32), fw_R g m_MO_who (fm_P g w0 mo ar (.int v) c S2) 0 0 (fm_W g w0 mo ar (th, us, n, so, pl, po) F) 0 [(0, .ref mo), (1, .int x1), (2, .int x2), (3, .int x3)] [] := by
  have hs := fm_S_of hX
  by_cases hx1 : ∃ k N, x1 = nI k ∧ nd k = some N
  · obtain ⟨k, N, rfl, hk⟩ := hx1
    by_cases hx2 : ∃ k, k < 8 ∧ x2 = nI k
    · obtain ⟨r, hr8, rfl⟩ := hx2
      by_cases h : x3 < 0
      · exact ⟨2, 0, _, w_who_IAE hX hout (p_FR_who_n3 hX hk hr8 h), fun w0 th so pl po => p_MO_who_n3 hA hc hs hk hr8 h⟩
      · obtain ⟨hq, e⟩ := ix_of h
        rw [e]
        exact ⟨0, _, _, w_who_ok hX hout (p_FR_who_ok hX hk hr8 hq), fun w0 th so pl po => p_MO_who_ok hA hc hs hk hr8 hq⟩
    · exact ⟨2, 0, _, w_who_IAE hX hout (p_FR_who_n2 hX hk (lx_no hx2)), fun w0 th so pl po => p_MO_who_n2 hA hc hs hk (lx_no hx2)⟩
  · exact ⟨1, 0, _, w_who_NSE hX hout (p_FR_who_n1 hX (lx_nd hx1)), fun w0 th so pl po => p_MO_who_n1 hA hc hs (lx_nd hx1)⟩
theorem j_where {g : fw_G} {w : fw_W} {o gr a1 a2 a3 a4 na out us n : Nat} {hu hg : Nat → Nat → Bool} {nd : fs_D} (hX : fs_X g (o, gr, a1, a2, a3, a4, na) (us, n, hu, hg, nd) w) {f : Nat → Int64} (hout : w out = some (lx_lo g f)) {mo : Nat} {ar : Nat → Nat} (hA : fm_ad mo ar) {F : fm_F} (hc : fm_c us n hu hg nd F) (x1 : Int32) (x2 : Int32) (x3 : Int32) : ∃ (c : Int32) (v : Int32) (S2 : fs_S), fw_R g m_LW_where (lx_Wp g (o, gr, a1, a2, a3, a4, na) w out S2 c v.toInt64) 3 18 w 0 [(0, .ref o), (1, .int x1), (2, .int x2), (3, .int x3), (4, .ref out)] [] ∧ ∀ (w0 : fw_W) (th so pl po : Int32), fw_R g m_MO_where (fm_P g w0 mo ar (.int v) c S2) 0 0 (fm_W g w0 mo ar (th, us, n, so, pl, po) F) 0 [(0, .ref mo), (1, .int x1), (2, .int x2), (3, .int x3)] [] := by
  have hs := fm_S_of hX
  by_cases hx1 : ∃ k, k < us ∧ x1 = nI k
  · obtain ⟨u, hu2, rfl⟩ := hx1
    by_cases hx2 : ∃ k, k < 8 ∧ x2 = nI k
    · obtain ⟨r, hr8, rfl⟩ := hx2
      by_cases h : x3 < 0
      · exact ⟨2, 0, _, w_where_IAE hX hout (p_FR_where_n3 hX hu2 hr8 h), fun w0 th so pl po => p_MO_where_n3 hA hc hs hu2 hr8 h⟩
      · obtain ⟨hq, e⟩ := ix_of h
        rw [e]
        exact ⟨0, _, _, w_where_ok hX hout (p_FR_where_ok hX hu2 hr8 hq), fun w0 th so pl po => p_MO_where_ok hA hc hs hu2 hr8 hq⟩
    · exact ⟨2, 0, _, w_where_IAE hX hout (p_FR_where_n2 hX hu2 (lx_no hx2)), fun w0 th so pl po => p_MO_where_n2 hA hc hs hu2 (lx_no hx2)⟩
  · exact ⟨1, 0, _, w_where_NSE hX hout (p_FR_where_n1 hX (lx_no hx1)), fun w0 th so pl po => p_MO_where_n1 hA hc hs (lx_no hx1)⟩
theorem j_same {g : fw_G} {w : fw_W} {o gr a1 a2 a3 a4 na out us n : Nat} {hu hg : Nat → Nat → Bool} {nd : fs_D} (hX : fs_X g (o, gr, a1, a2, a3, a4, na) (us, n, hu, hg, nd) w) {f : Nat → Int64} (hout : w out = some (lx_lo g f)) {mo : Nat} {ar : Nat → Nat} (hA : fm_ad mo ar) {F : fm_F} (hc : fm_c us n hu hg nd F) (x1 : Int32) (x2 : Int32) : ∃ (c : Int32) (v : Bool) (S2 : fs_S), fw_R g m_LW_same (lx_Wp g (o, gr, a1, a2, a3, a4, na) w out S2 c (bI v).toInt64) 2 12 w 0 [(0, .ref o), (1, .int x1), (2, .int x2), (3, .ref out)] [] ∧ ∀ (w0 : fw_W) (th so pl po : Int32), fw_R g m_MO_same (fm_P g w0 mo ar (.int (bI v)) c S2) 0 0 (fm_W g w0 mo ar (th, us, n, so, pl, po) F) 0 [(0, .ref mo), (1, .int x1), (2, .int x2)] [] := by
  have hs := fm_S_of hX
  by_cases hx1 : ∃ k N, x1 = nI k ∧ nd k = some N
  · obtain ⟨ka, NA, rfl, hka⟩ := hx1
    by_cases hx2 : ∃ k N, x2 = nI k ∧ nd k = some N
    · obtain ⟨kb, NB, rfl, hkb⟩ := hx2
      exact ⟨0, _, _, w_same_ok hX hout (p_FR_same_ok hX hka hkb), fun w0 th so pl po => p_MO_same_ok hA hc hs hka hkb⟩
    · exact ⟨1, false, _, w_same_NSE hX hout (p_FR_same_n2 hX hka (lx_nd hx2)), fun w0 th so pl po => p_MO_same_n2 hA hc hs hka (lx_nd hx2)⟩
  · exact ⟨1, false, _, w_same_NSE hX hout (p_FR_same_n1 hX (lx_nd hx1)), fun w0 th so pl po => p_MO_same_n1 hA hc hs (lx_nd hx1)⟩
theorem j_in {g : fw_G} {w : fw_W} {o gr a1 a2 a3 a4 na out us n : Nat} {hu hg : Nat → Nat → Bool} {nd : fs_D} (hX : fs_X g (o, gr, a1, a2, a3, a4, na) (us, n, hu, hg, nd) w) {f : Nat → Int64} (hout : w out = some (lx_lo g f)) {mo : Nat} {ar : Nat → Nat} (hA : fm_ad mo ar) {F : fm_F} (hc : fm_c us n hu hg nd F) (x1 : Int32) (x2 : Int32) : ∃ (c : Int32) (v : Bool) (S2 : fs_S), fw_R g m_LW_in (lx_Wp g (o, gr, a1, a2, a3, a4, na) w out S2 c (bI v).toInt64) 2 12 w 0 [(0, .ref o), (1, .int x1), (2, .int x2), (3, .ref out)] [] ∧ ∀ (w0 : fw_W) (th so pl po : Int32), fw_R g m_MO_in (fm_P g w0 mo ar (.int (bI v)) c S2) 0 0 (fm_W g w0 mo ar (th, us, n, so, pl, po) F) 0 [(0, .ref mo), (1, .int x1), (2, .int x2)] [] := by
  have hs := fm_S_of hX
  by_cases hx1 : ∃ k, k < n ∧ x1 = nI k
  · obtain ⟨i, hi, rfl⟩ := hx1
    by_cases hx2 : ∃ k, k < us ∧ x2 = nI k
    · obtain ⟨u, hu2, rfl⟩ := hx2
      exact ⟨0, _, _, w_in_ok hX hout (p_FR_in_ok hX hi hu2), fun w0 th so pl po => p_MO_in_ok hA hc hs hi hu2⟩
    · exact ⟨1, false, _, w_in_NSE hX hout (p_FR_in_n2 hX hi (lx_no hx2)), fun w0 th so pl po => p_MO_in_n2 hA hc hs hi (lx_no hx2)⟩
  · exact ⟨1, false, _, w_in_NSE hX hout (p_FR_in_n1 hX (lx_no hx1)), fun w0 th so pl po => p_MO_in_n1 hA hc hs (lx_no hx1)⟩
theorem j_about {g : fw_G} {w : fw_W} {o gr a1 a2 a3 a4 na out us n : Nat} {hu hg : Nat → Nat → Bool} {nd : fs_D} (hX : fs_X g (o, gr, a1, a2, a3, a4, na) (us, n, hu, hg, nd) w) {f : Nat → Int64} (hout : w out = some (lx_lo g f)) {mo : Nat} {ar : Nat → Nat} (hA : fm_ad mo ar) {F : fm_F} (hc : fm_c us n hu hg nd F) (x1 : Int32) (x2 : Int32) : ∃ (c : Int32) (v : Int32) (S2 : fs_S), fw_R g m_LW_about (lx_Wp g (o, gr, a1, a2, a3, a4, na) w out S2 c v.toInt64) 2 12 w 0 [(0, .ref o), (1, .int x1), (2, .int x2), (3, .ref out)] [] ∧ ∀ (w0 : fw_W) (th so pl po : Int32), fw_R g m_MO_about (fm_P g w0 mo ar (.int v) c S2) 0 0 (fm_W g w0 mo ar (th, us, n, so, pl, po) F) 0 [(0, .ref mo), (1, .int x1), (2, .int x2)] [] := by
  have hs := fm_S_of hX
  by_cases hx1 : ∃ k N, x1 = nI k ∧ nd k = some N
  · obtain ⟨k, N, rfl, hk⟩ := hx1
    by_cases hx2 : ∃ k, k < 8 ∧ x2 = nI k
    · obtain ⟨j, hj, rfl⟩ := hx2
      have h8 : j = 0 ∨ j = 1 ∨ j = 2 ∨ j = 3 ∨ j = 4 ∨ j = 5 ∨ j = 6 ∨ j = 7 := by omega
      rcases h8 with rfl | rfl | rfl | rfl | rfl | rfl | rfl | rfl
      · exact ⟨0, _, _, w_about_ok hX hout (p_FR_about_0 hX hk), fun w0 th so pl po => p_MO_about_0 hA hc hs hk⟩
      · exact ⟨0, _, _, w_about_ok hX hout (p_FR_about_1 hX hk), fun w0 th so pl po => p_MO_about_1 hA hc hs hk⟩
      · exact ⟨0, _, _, w_about_ok hX hout (p_FR_about_2 hX hk), fun w0 th so pl po => p_MO_about_2 hA hc hs hk⟩
      · exact ⟨0, _, _, w_about_ok hX hout (p_FR_about_3 hX hk), fun w0 th so pl po => p_MO_about_3 hA hc hs hk⟩
      · exact ⟨0, _, _, w_about_ok hX hout (p_FR_about_4 hX hk), fun w0 th so pl po => p_MO_about_4 hA hc hs hk⟩
      · exact ⟨0, _, _, w_about_ok hX hout (p_FR_about_5 hX hk), fun w0 th so pl po => p_MO_about_5 hA hc hs hk⟩
      · exact ⟨0, _, _, w_about_ok hX hout (p_FR_about_6 hX hk), fun w0 th so pl po => p_MO_about_6 hA hc hs hk⟩
      · exact ⟨0, _, _, w_about_ok hX hout (p_FR_about_7 hX hk), fun w0 th so pl po => p_MO_about_7 hA hc hs hk⟩
    · exact ⟨2, 0, _, w_about_IAE hX hout (p_FR_about_n2 hX hk (lx_no hx2)), fun w0 th so pl po => p_MO_about_n2 hA hc hs hk (lx_no hx2)⟩
  · exact ⟨1, 0, _, w_about_NSE hX hout (p_FR_about_n1 hX (lx_nd hx1)), fun w0 th so pl po => p_MO_about_n1 hA hc hs (lx_nd hx1)⟩
theorem j_count {g : fw_G} {w : fw_W} {o gr a1 a2 a3 a4 na out us n : Nat} {hu hg : Nat → Nat → Bool} {nd : fs_D} (hX : fs_X g (o, gr, a1, a2, a3, a4, na) (us, n, hu, hg, nd) w) {f : Nat → Int64} (hout : w out = some (lx_lo g f)) {mo : Nat} {ar : Nat → Nat} (hA : fm_ad mo ar) {F : fm_F} (hc : fm_c us n hu hg nd F) (x1 : Int32) : ∃ (c : Int32) (v : Int32) (S2 : fs_S), fw_R g m_LW_count (lx_Wp g (o, gr, a1, a2, a3, a4, na) w out S2 c v.toInt64) 1 6 w 0 [(0, .ref o), (1, .int x1), (2, .ref out)] [] ∧ ∀ (w0 : fw_W) (th so pl po : Int32), fw_R g m_MO_count (fm_P g w0 mo ar (.int v) c S2) 0 0 (fm_W g w0 mo ar (th, us, n, so, pl, po) F) 0 [(0, .ref mo), (1, .int x1)] [] := by
  have hs := fm_S_of hX
  by_cases hx1 : ∃ k, k < 5 ∧ x1 = nI k
  · obtain ⟨j, hj, rfl⟩ := hx1
    have h5 : j = 0 ∨ j = 1 ∨ j = 2 ∨ j = 3 ∨ j = 4 := by omega
    rcases h5 with rfl | rfl | rfl | rfl | rfl
    · exact ⟨0, _, _, w_count_ok hX hout (p_FR_count_0 hX ), fun w0 th so pl po => p_MO_count_0 hA hc hs ⟩
    · exact ⟨0, _, _, w_count_ok hX hout (p_FR_count_1 hX ), fun w0 th so pl po => p_MO_count_1 hA hc hs ⟩
    · exact ⟨0, _, _, w_count_ok hX hout (p_FR_count_2 hX ), fun w0 th so pl po => p_MO_count_2 hA hc hs ⟩
    · exact ⟨0, _, _, w_count_ok hX hout (p_FR_count_3 hX ), fun w0 th so pl po => p_MO_count_3 hA hc hs ⟩
    · exact ⟨0, _, _, w_count_ok hX hout (p_FR_count_4 hX ), fun w0 th so pl po => p_MO_count_4 hA hc hs ⟩
  · exact ⟨1, 0, _, w_count_IAE hX hout (p_FR_count_n hX (lx_no hx1)), fun w0 th so pl po => p_MO_count_n hA hc hs (lx_no hx1)⟩

/-- only the cells a .. b may have changed -/
def hp_fc (h h' : HH) (a b : Nat) : Prop := h'.length = h.length ∧ ∀ j, (j < a ∨ b < j) → h'[j]? = h[j]?
theorem hp_fc_rf (h : HH) (a b : Nat) : hp_fc h h a b := ⟨rfl, fun _ _ => rfl⟩
theorem hp_fc_tr {a b c : HH} {i j : Nat} (h : hp_fc a b i j) (k : hp_fc b c i j) : hp_fc a c i j := ⟨k.1.trans h.1, fun z hz => (k.2 z hz).trans (h.2 z hz)⟩
theorem hp_fc_set {h : HH} {i j k : Nat} {e : AE} (hk : i ≤ k ∧ k ≤ j) : hp_fc h (h.set k e) i j := ⟨by simp, fun z hz => hp_ne (by omega)⟩
theorem hp_fc_wide {h h' : HH} {a b c d : Nat} (f : hp_fc h h' a b) (hc : c ≤ a) (hd : b ≤ d) : hp_fc h h' c d := ⟨f.1, fun j hj => f.2 j (by omega)⟩
theorem hp_fr_fc {h h' : HH} {i : Nat} (f : hp_fr h h' i) : hp_fc h h' i (i + 5) := f
-- what was seen
def sg_at (h : HH) (i m : Nat) (fo st : List Int32) : Prop := h[i]? = some (.inr (.inr (5, [.int (nI m), .ref (i + 1), .ref (i + 2)]))) ∧ h[i + 1]? = some (.inl (.int, fo)) ∧ h[i + 2]? = some (.inl (.int, st)) ∧ m ≤ 6 ∧ fo.length = 6 ∧ st.length = 6
section SIGHT
variable {xs : List Int32} {h : HH} {i j : Nat} {P : PT} {n p m : Nat} {fo st : List Int32}
theorem sg_fld (S : sg_at h i m fo st) : sm_cls h i = some 5 ∧ sm_fld h i 5 0 = some (.int (nI m)) ∧ sm_fld h i 5 1 = some (.ref (i + 1)) ∧ sm_fld h i 5 2 = some (.ref (i + 2)) ∧ sm_arr h (i + 1) .int = some fo ∧ sm_arr h (i + 2) .int = some st := by
  obtain ⟨h0, h1, h2, -⟩ := S
  refine ⟨by unfold sm_cls; rw [h0], fld_O h0 rfl, fld_O h0 rfl, fld_O h0 rfl, ?_, ?_⟩
  · unfold sm_arr; rw [h1]; rfl
  · unfold sm_arr; rw [h2]; rfl
def ft_B (P : PT) (n : Nat) (fo st : List Int32) : Nat → Nat → Bool
  | 0, _ => true
  | k + 1, c => decide (rl_F P n (fo.getD c 0) = st.getD c 0) && ft_B P n fo st k (c + 1)
theorem ft_loop (S : sg_at h i m fo st) (G : pt_at h j P) (K : pt_ok P n p) : ∀ (k c : Nat), c + k = m → sm_run xs n_X5_fits 2 [some (.ref i), some (.ref j), some (.int (nI c))] [] h = some (some (.int (b2i (ft_B P n fo st k c))), h) := by
  obtain ⟨kc, f0, f1, f2, g1, g2⟩ := sg_fld S
  obtain ⟨-, -, -, hm, lf, ls⟩ := S
  have hR := fun f => c_roll (xs := xs) G K f
  obtain ⟨kj, -⟩ := pt_fld G
  intro k
  induction k with
  | zero =>
    intro c hk
    have hle : nI m ≤ nI c := nI_le (by omega) (by omega)
    rw [s_X5_fits_2]
    simp only [s_X5_fits_0, s_X5_fits_1, s_X5_fits_3, s_X5_fits_4, s_X5_fits_7, s_X5_fits_10, s_X5_fits_11, s_X5_fits_12, s_X5_fits_15, s_X5_fits_16, s_X5_fits_17, s_X5_fits_20, s_X5_fits_21, s_X5_fits_24, s_X5_fits_25, s_X5_fits_26, s_X5_fits_29, s_X5_fits_30z0, s_X5_fits_30z1, s_X5_fits_31, s_X5_fits_34, s_X5_fits_37, s_X5_fits_38z0, s_X5_fits_38z1, Option.isSome_some, Option.getD_some, sm_clr_i, sm_clr_r, sm_clr_n, sm_clr_o, sm_clr_l, sm_rr_some, sm_rh_some, Option.toList_some, Option.toList_none, List.cons_append, List.nil_append, List.map_cons, List.map_nil, List.sum_cons, List.sum_nil, sm_cat_i, sm_cat_r, sm_cat_n, sm_cat_l, Nat.reduceAdd, Nat.reduceLeDiff, Nat.zero_add, Nat.add_zero, if_true, if_false, not_true_eq_false, not_false_eq_true, and_self, true_and, and_true, f0, hle]
    rfl
  | succ k ih =>
    intro c hk
    have hle : ¬ nI m ≤ nI c := nI_ge (by omega) (by omega)
    have i1 : sm_inr (some fo) (nI c) = true := sm_inr_nI (by omega) (by omega)
    have i2 : sm_inr (some st) (nI c) = true := sm_inr_nI (by omega) (by omega)
    have e1 : sm_el (some fo) (nI c) = fo.getD c 0 := sm_el_nI (by omega)
    have e2 : sm_el (some st) (nI c) = st.getD c 0 := sm_el_nI (by omega)
    rw [s_X5_fits_2]
    simp only [s_X5_fits_0, s_X5_fits_1, s_X5_fits_3, s_X5_fits_4, s_X5_fits_7, s_X5_fits_10, s_X5_fits_11, s_X5_fits_12, s_X5_fits_15, s_X5_fits_16, s_X5_fits_17, s_X5_fits_20, s_X5_fits_21, s_X5_fits_24, s_X5_fits_25, s_X5_fits_26, s_X5_fits_29, s_X5_fits_30z0, s_X5_fits_30z1, s_X5_fits_31, s_X5_fits_34, s_X5_fits_37, s_X5_fits_38z0, s_X5_fits_38z1, Option.isSome_some, Option.getD_some, sm_clr_i, sm_clr_r, sm_clr_n, sm_clr_o, sm_clr_l, sm_rr_some, sm_rh_some, Option.toList_some, Option.toList_none, List.cons_append, List.nil_append, List.map_cons, List.map_nil, List.sum_cons, List.sum_nil, sm_cat_i, sm_cat_r, sm_cat_n, sm_cat_l, Nat.reduceAdd, Nat.reduceLeDiff, Nat.zero_add, Nat.add_zero, if_true, if_false, not_true_eq_false, not_false_eq_true, and_self, true_and, and_true, f0, hle, f1, g1, i1, e1, kj, hR, f2, g2, i2, e2, nI_1]
    show _ = some (some (Value.int (b2i (decide (rl_F P n (fo.getD c 0) = st.getD c 0) && ft_B P n fo st k (c + 1)))), h)
    by_cases hq : rl_F P n (fo.getD c 0) = st.getD c 0
    · rw [if_pos hq, decide_eq_true hq, Bool.true_and]
      exact ih (c + 1) (by omega)
    · rw [if_neg hq, decide_eq_false hq, Bool.false_and]
      rfl
theorem c_fits (S : sg_at h i m fo st) (G : pt_at h j P) (K : pt_ok P n p) : sm_call xs n_X5_fits [.ref i, .ref j] h = some (some (.int (b2i (ft_B P n fo st m 0))), h) := by
  rw [c0_X5_fits]
  simp only [s_X5_fits_0, s_X5_fits_1, s_X5_fits_3, s_X5_fits_4, s_X5_fits_7, s_X5_fits_10, s_X5_fits_11, s_X5_fits_12, s_X5_fits_15, s_X5_fits_16, s_X5_fits_17, s_X5_fits_20, s_X5_fits_21, s_X5_fits_24, s_X5_fits_25, s_X5_fits_26, s_X5_fits_29, s_X5_fits_30z0, s_X5_fits_30z1, s_X5_fits_31, s_X5_fits_34, s_X5_fits_37, s_X5_fits_38z0, s_X5_fits_38z1, Option.isSome_some, Option.getD_some, sm_clr_i, sm_clr_r, sm_clr_n, sm_clr_o, sm_clr_l, sm_rr_some, sm_rh_some, Option.toList_some, Option.toList_none, List.cons_append, List.nil_append, List.map_cons, List.map_nil, List.sum_cons, List.sum_nil, sm_cat_i, sm_cat_r, sm_cat_n, sm_cat_l, Nat.reduceAdd, Nat.reduceLeDiff, Nat.zero_add, Nat.add_zero, if_true, if_false, not_true_eq_false, not_false_eq_true, and_self, true_and, and_true]
  exact ft_loop S G K m 0 (by omega)
theorem w_sadd (S : sg_at h i m fo st) (f s : Int32) : ∃ h', sm_call xs n_X5_add [.ref i, .int f, .int s] h = some (some (.int (b2i (decide (m < 6)))), h') ∧ (if m < 6 then sg_at h' i (m + 1) (fo.set m f) (st.set m s) else sg_at h' i m fo st) ∧ hp_fc h h' i (i + 2) := by
  obtain ⟨kc, f0, f1, f2, g1, g2⟩ := sg_fld S
  obtain ⟨h0, h1, h2, hm, lf, ls⟩ := id S
  by_cases h6 : m < 6
  · have hlt : nI m < (6 : Int32) := nI_lt (b := 6) h6 (by omega)
    have i1 : sm_inr (some fo) (nI m) = true := sm_inr_nI (by omega) (by omega)
    have i2 : sm_inr (some st) (nI m) = true := sm_inr_nI (by omega) (by omega)
    obtain ⟨hA, wA⟩ : ∃ hA, h.set (i + 1) (.inl (.int, fo.set m f)) = hA := ⟨_, rfl⟩
    have SA : sg_at hA i m (fo.set m f) st := by
      subst wA
      refine ⟨?_, hp_eq h1, ?_, hm, by simpa using lf, ls⟩
      · rw [hp_ne (by omega)]; exact h0
      · rw [hp_ne (by omega)]; exact h2
    have rA : hp_fc h hA i (i + 2) := by subst wA; exact hp_fc_set (by omega)
    obtain ⟨-, b0, b1, b2, c1, c2⟩ := sg_fld SA
    obtain ⟨a0, a1, a2, -, lA, -⟩ := id SA
    obtain ⟨hB, wB⟩ : ∃ hB, hA.set (i + 2) (.inl (.int, st.set m s)) = hB := ⟨_, rfl⟩
    have SB : sg_at hB i m (fo.set m f) (st.set m s) := by
      subst wB
      refine ⟨?_, ?_, hp_eq a2, hm, lA, by simpa using ls⟩
      · rw [hp_ne (by omega)]; exact a0
      · rw [hp_ne (by omega)]; exact a1
    have rB : hp_fc hA hB i (i + 2) := by subst wB; exact hp_fc_set (by omega)
    obtain ⟨-, d0, d1, d2, e1, e2⟩ := sg_fld SB
    obtain ⟨p0, p1, p2, -, lB, lB2⟩ := id SB
    obtain ⟨hC, wC, oC, nC, qC⟩ := fset_O (k := 0) (v := .int (nI (m + 1))) p0
    refine ⟨hC, ?_, ?_, hp_fc_tr (hp_fc_tr rA rB) ⟨nC, fun z hz => qC z (by omega)⟩⟩
    · rw [decide_eq_true h6, b2i_t, c0_X5_add]
      simp only [s_X5_add_0, s_X5_add_1, s_X5_add_4, s_X5_add_6, s_X5_add_9, s_X5_add_10z0, s_X5_add_10z1, s_X5_add_11, s_X5_add_12, s_X5_add_15, s_X5_add_16, s_X5_add_19, s_X5_add_20, s_X5_add_21, s_X5_add_22, s_X5_add_25, s_X5_add_26, s_X5_add_29, s_X5_add_30, s_X5_add_31, s_X5_add_32, s_X5_add_32i, s_X5_add_33, s_X5_add_36, s_X5_add_37, s_X5_add_38, s_X5_add_41, s_X5_add_42z0, s_X5_add_42z1, Option.isSome_some, Option.getD_some, sm_clr_i, sm_clr_r, sm_clr_n, sm_clr_o, sm_clr_l, sm_rr_some, sm_rh_some, Option.toList_some, Option.toList_none, List.cons_append, List.nil_append, List.map_cons, List.map_nil, List.sum_cons, List.sum_nil, sm_cat_i, sm_cat_r, sm_cat_n, sm_cat_l, Nat.reduceAdd, Nat.reduceLeDiff, Nat.zero_add, Nat.add_zero, if_true, if_false, not_true_eq_false, not_false_eq_true, and_self, true_and, and_true, f0, hlt, f1, g1, i1, sm_aset_nI (show m < 2 ^ 31 by omega), wA, b0, b2, c2, i2, wB, d0, nI_1, wC]
    · rw [if_pos h6]
      refine ⟨oC, ?_, ?_, by omega, lB, lB2⟩
      · rw [qC _ (by omega)]; exact p1
      · rw [qC _ (by omega)]; exact p2
  · have hlt : ¬ nI m < (6 : Int32) := nI_nlt (b := 6) (by omega) (by omega)
    refine ⟨h, ?_, by rw [if_neg h6]; exact S, hp_fc_rf _ _ _⟩
    rw [decide_eq_false h6, b2i_f, c0_X5_add]
    simp only [s_X5_add_0, s_X5_add_1, s_X5_add_4, s_X5_add_6, s_X5_add_9, s_X5_add_10z0, s_X5_add_10z1, s_X5_add_11, s_X5_add_12, s_X5_add_15, s_X5_add_16, s_X5_add_19, s_X5_add_20, s_X5_add_21, s_X5_add_22, s_X5_add_25, s_X5_add_26, s_X5_add_29, s_X5_add_30, s_X5_add_31, s_X5_add_32, s_X5_add_32i, s_X5_add_33, s_X5_add_36, s_X5_add_37, s_X5_add_38, s_X5_add_41, s_X5_add_42z0, s_X5_add_42z1, Option.isSome_some, Option.getD_some, sm_clr_i, sm_clr_r, sm_clr_n, sm_clr_o, sm_clr_l, sm_rr_some, sm_rh_some, Option.toList_some, Option.toList_none, List.cons_append, List.nil_append, List.map_cons, List.map_nil, List.sum_cons, List.sum_nil, sm_cat_i, sm_cat_r, sm_cat_n, sm_cat_l, Nat.reduceAdd, Nat.reduceLeDiff, Nat.zero_add, Nat.add_zero, if_true, if_false, not_true_eq_false, not_false_eq_true, and_self, true_and, and_true, f0, hlt]
end SIGHT

section PATCHR
variable {xs : List Int32} {h : HH} {i : Nat} {P : PT} {n p : Nat}
theorem ix_5 (a b : Nat) : nI a * 5 + nI b = nI (a * 5 + b) := by rw [show (5 : Int32) = nI 5 from rfl, pk_mul, nI_add]
def ow_F (P : PT) (p : Nat) (a b : Int32) : Int32 := if hs_P p a b then (pt_d P).getD (a * 5 + b).toNatClampNeg 0 else 0
theorem hs_P_of {p : Nat} {a b : Int32} (h : hs_P p a b = true) (hp : p < 2 ^ 31) : ∃ k j, k < p ∧ j < p ∧ k ≠ j ∧ a = nI k ∧ b = nI j := by
  unfold hs_P at h
  rw [Bool.and_eq_true, Bool.and_eq_true] at h
  obtain ⟨k, hk, rfl⟩ := hs_C_of h.1 hp
  obtain ⟨j, hj, rfl⟩ := hs_C_of h.2.1 hp
  exact ⟨k, j, hk, hj, fun e => of_decide_eq_true h.2.2 (by rw [e]), rfl, rfl⟩
theorem c_owes (H : pt_at h i P) (K : pt_ok P n p) (a b : Int32) : sm_call xs n_X3_owes [.ref i, .int a, .int b] h = some (some (.int (ow_F P p a b)), h) := by
  have hA := c_hasPair (xs := xs) H K a b
  obtain ⟨hc, hp, hn, hp5, l1, l2, l3, l4, l5⟩ := K
  obtain ⟨kc, f0, f1, f2, f3, f4, f5, f6, f7⟩ := pt_fld H
  obtain ⟨g1, g2, g3, g4, g5⟩ := pt_arr H
  rw [c0_X3_owes]
  unfold ow_F
  cases hb : hs_P p a b with
  | false =>
    rw [hb, b2i_f] at hA
    simp only [s_X3_owes_0, s_X3_owes_1, s_X3_owes_2, s_X3_owes_3, s_X3_owes_6, s_X3_owes_9, s_X3_owes_10, s_X3_owes_13, s_X3_owes_14, s_X3_owes_15, s_X3_owes_16, s_X3_owes_17, s_X3_owes_18, s_X3_owes_19, s_X3_owes_22, s_X3_owes_23, Option.isSome_some, Option.getD_some, sm_clr_i, sm_clr_r, sm_clr_n, sm_clr_o, sm_clr_l, sm_rr_some, sm_rh_some, Option.toList_some, Option.toList_none, List.cons_append, List.nil_append, List.map_cons, List.map_nil, List.sum_cons, List.sum_nil, sm_cat_i, sm_cat_r, sm_cat_n, sm_cat_l, Nat.reduceAdd, Nat.reduceLeDiff, Nat.zero_add, Nat.add_zero, if_true, if_false, not_true_eq_false, not_false_eq_true, and_self, true_and, and_true, kc, hA]
    simp
  | true =>
    rw [hb, b2i_t] at hA
    obtain ⟨k, j, hk, hj, hkj, rfl, rfl⟩ := hs_P_of hb (by omega)
    have e1 : sm_inr (some (pt_d P)) (nI (k * 5 + j)) = true := sm_inr_nI (by omega) (by omega)
    simp only [s_X3_owes_0, s_X3_owes_1, s_X3_owes_2, s_X3_owes_3, s_X3_owes_6, s_X3_owes_9, s_X3_owes_10, s_X3_owes_13, s_X3_owes_14, s_X3_owes_15, s_X3_owes_16, s_X3_owes_17, s_X3_owes_18, s_X3_owes_19, s_X3_owes_22, s_X3_owes_23, Option.isSome_some, Option.getD_some, sm_clr_i, sm_clr_r, sm_clr_n, sm_clr_o, sm_clr_l, sm_rr_some, sm_rh_some, Option.toList_some, Option.toList_none, List.cons_append, List.nil_append, List.map_cons, List.map_nil, List.sum_cons, List.sum_nil, sm_cat_i, sm_cat_r, sm_cat_n, sm_cat_l, Nat.reduceAdd, Nat.reduceLeDiff, Nat.zero_add, Nat.add_zero, if_true, if_false, not_true_eq_false, not_false_eq_true, and_self, true_and, and_true, kc, hA, f7, g5, ix_5, e1]
    simp [sm_el]
theorem c_owe (H : pt_at h i P) (K : pt_ok P n p) (a b v : Int32) : sm_call xs n_X3_owe [.ref i, .int a, .int b, .int v] h = some (none, if hs_P p a b then h.set (i + 5) (.inl (.int, (pt_d P).set (a * 5 + b).toNatClampNeg v)) else h) := by
  have hA := c_hasPair (xs := xs) H K a b
  obtain ⟨hc, hp, hn, hp5, l1, l2, l3, l4, l5⟩ := K
  obtain ⟨kc, f0, f1, f2, f3, f4, f5, f6, f7⟩ := pt_fld H
  obtain ⟨g1, g2, g3, g4, g5⟩ := pt_arr H
  rw [c0_X3_owe]
  cases hb : hs_P p a b with
  | false =>
    rw [hb, b2i_f] at hA
    simp only [s_X3_owe_0, s_X3_owe_1, s_X3_owe_2, s_X3_owe_3, s_X3_owe_6, s_X3_owe_9, s_X3_owe_10, s_X3_owe_13, s_X3_owe_14, s_X3_owe_15, s_X3_owe_16, s_X3_owe_17, s_X3_owe_18, s_X3_owe_19, s_X3_owe_20, Option.isSome_some, Option.getD_some, sm_clr_i, sm_clr_r, sm_clr_n, sm_clr_o, sm_clr_l, sm_rr_some, sm_rh_some, Option.toList_some, Option.toList_none, List.cons_append, List.nil_append, List.map_cons, List.map_nil, List.sum_cons, List.sum_nil, sm_cat_i, sm_cat_r, sm_cat_n, sm_cat_l, Nat.reduceAdd, Nat.reduceLeDiff, Nat.zero_add, Nat.add_zero, if_true, if_false, not_true_eq_false, not_false_eq_true, and_self, true_and, and_true, kc, hA]
    simp
  | true =>
    rw [hb, b2i_t] at hA
    obtain ⟨k, j, hk, hj, hkj, rfl, rfl⟩ := hs_P_of hb (by omega)
    have e1 : sm_inr (some (pt_d P)) (nI (k * 5 + j)) = true := sm_inr_nI (by omega) (by omega)
    simp only [s_X3_owe_0, s_X3_owe_1, s_X3_owe_2, s_X3_owe_3, s_X3_owe_6, s_X3_owe_9, s_X3_owe_10, s_X3_owe_13, s_X3_owe_14, s_X3_owe_15, s_X3_owe_16, s_X3_owe_17, s_X3_owe_18, s_X3_owe_19, s_X3_owe_20, Option.isSome_some, Option.getD_some, sm_clr_i, sm_clr_r, sm_clr_n, sm_clr_o, sm_clr_l, sm_rr_some, sm_rh_some, Option.toList_some, Option.toList_none, List.cons_append, List.nil_append, List.map_cons, List.map_nil, List.sum_cons, List.sum_nil, sm_cat_i, sm_cat_r, sm_cat_n, sm_cat_l, Nat.reduceAdd, Nat.reduceLeDiff, Nat.zero_add, Nat.add_zero, if_true, if_false, not_true_eq_false, not_false_eq_true, and_self, true_and, and_true, kc, hA, f7, g5, ix_5, e1, sm_aset_nI (show k * 5 + j < 2 ^ 31 by omega), nI_clamp (show k * 5 + j < 2 ^ 31 by omega)]
    simp
def os_S (P : PT) (p : Nat) (a : Int32) : Nat → Nat → Int32 → Int32
  | 0, _, s => s
  | k + 1, c, s => os_S P p a k (c + 1) (s + ow_F P p a (nI c))
def od_S (P : PT) (p : Nat) (a : Int32) : Nat → Nat → Int32 → Int32
  | 0, _, s => s
  | k + 1, c, s => od_S P p a k (c + 1) (s + ow_F P p (nI c) a)
theorem os_loop (H : pt_at h i P) (K : pt_ok P n p) (a : Int32) : ∀ (k c : Nat) (s : Int32), c + k = p → sm_run xs n_X3_owesInAll 4 [some (.ref i), some (.int a), some (.int s), some (.int (nI c))] [] h = some (some (.int (os_S P p a k c s)), h) := by
  have hO := fun c => c_owes (xs := xs) H K a c
  obtain ⟨hc, hp, hn, hp5, l1, l2, l3, l4, l5⟩ := K
  obtain ⟨kc, f0, f1, f2, f3, f4, f5, f6, f7⟩ := pt_fld H
  intro k
  induction k with
  | zero =>
    intro c s hk
    have hle : nI p ≤ nI c := nI_le (by omega) (by omega)
    rw [s_X3_owesInAll_4]
    simp only [s_X3_owesInAll_0, s_X3_owesInAll_1, s_X3_owesInAll_2, s_X3_owesInAll_3, s_X3_owesInAll_5, s_X3_owesInAll_6, s_X3_owesInAll_9, s_X3_owesInAll_12, s_X3_owesInAll_13, s_X3_owesInAll_14, s_X3_owesInAll_15, s_X3_owesInAll_16, s_X3_owesInAll_19, s_X3_owesInAll_20, s_X3_owesInAll_21, s_X3_owesInAll_24, s_X3_owesInAll_27, s_X3_owesInAll_28, Option.isSome_some, Option.getD_some, sm_clr_i, sm_clr_r, sm_clr_n, sm_clr_o, sm_clr_l, sm_rr_some, sm_rh_some, Option.toList_some, Option.toList_none, List.cons_append, List.nil_append, List.map_cons, List.map_nil, List.sum_cons, List.sum_nil, sm_cat_i, sm_cat_r, sm_cat_n, sm_cat_l, Nat.reduceAdd, Nat.reduceLeDiff, Nat.zero_add, Nat.add_zero, if_true, if_false, not_true_eq_false, not_false_eq_true, and_self, true_and, and_true, f1, hp, hle]
    rfl
  | succ k ih =>
    intro c s hk
    have hle : ¬ nI p ≤ nI c := nI_ge (by omega) (by omega)
    rw [s_X3_owesInAll_4]
    simp only [s_X3_owesInAll_0, s_X3_owesInAll_1, s_X3_owesInAll_2, s_X3_owesInAll_3, s_X3_owesInAll_5, s_X3_owesInAll_6, s_X3_owesInAll_9, s_X3_owesInAll_12, s_X3_owesInAll_13, s_X3_owesInAll_14, s_X3_owesInAll_15, s_X3_owesInAll_16, s_X3_owesInAll_19, s_X3_owesInAll_20, s_X3_owesInAll_21, s_X3_owesInAll_24, s_X3_owesInAll_27, s_X3_owesInAll_28, Option.isSome_some, Option.getD_some, sm_clr_i, sm_clr_r, sm_clr_n, sm_clr_o, sm_clr_l, sm_rr_some, sm_rh_some, Option.toList_some, Option.toList_none, List.cons_append, List.nil_append, List.map_cons, List.map_nil, List.sum_cons, List.sum_nil, sm_cat_i, sm_cat_r, sm_cat_n, sm_cat_l, Nat.reduceAdd, Nat.reduceLeDiff, Nat.zero_add, Nat.add_zero, if_true, if_false, not_true_eq_false, not_false_eq_true, and_self, true_and, and_true, f1, hp, hle, kc, hO, nI_1]
    exact ih (c + 1) _ (by omega)
theorem od_loop (H : pt_at h i P) (K : pt_ok P n p) (a : Int32) : ∀ (k c : Nat) (s : Int32), c + k = p → sm_run xs n_X3_isOwedInAll 4 [some (.ref i), some (.int a), some (.int s), some (.int (nI c))] [] h = some (some (.int (od_S P p a k c s)), h) := by
  have hO := fun c => c_owes (xs := xs) H K c a
  obtain ⟨hc, hp, hn, hp5, l1, l2, l3, l4, l5⟩ := K
  obtain ⟨kc, f0, f1, f2, f3, f4, f5, f6, f7⟩ := pt_fld H
  intro k
  induction k with
  | zero =>
    intro c s hk
    have hle : nI p ≤ nI c := nI_le (by omega) (by omega)
    rw [s_X3_isOwedInAll_4]
    simp only [s_X3_isOwedInAll_0, s_X3_isOwedInAll_1, s_X3_isOwedInAll_2, s_X3_isOwedInAll_3, s_X3_isOwedInAll_5, s_X3_isOwedInAll_6, s_X3_isOwedInAll_9, s_X3_isOwedInAll_12, s_X3_isOwedInAll_13, s_X3_isOwedInAll_14, s_X3_isOwedInAll_15, s_X3_isOwedInAll_16, s_X3_isOwedInAll_19, s_X3_isOwedInAll_20, s_X3_isOwedInAll_21, s_X3_isOwedInAll_24, s_X3_isOwedInAll_27, s_X3_isOwedInAll_28, Option.isSome_some, Option.getD_some, sm_clr_i, sm_clr_r, sm_clr_n, sm_clr_o, sm_clr_l, sm_rr_some, sm_rh_some, Option.toList_some, Option.toList_none, List.cons_append, List.nil_append, List.map_cons, List.map_nil, List.sum_cons, List.sum_nil, sm_cat_i, sm_cat_r, sm_cat_n, sm_cat_l, Nat.reduceAdd, Nat.reduceLeDiff, Nat.zero_add, Nat.add_zero, if_true, if_false, not_true_eq_false, not_false_eq_true, and_self, true_and, and_true, f1, hp, hle]
    rfl
  | succ k ih =>
    intro c s hk
    have hle : ¬ nI p ≤ nI c := nI_ge (by omega) (by omega)
    rw [s_X3_isOwedInAll_4]
    simp only [s_X3_isOwedInAll_0, s_X3_isOwedInAll_1, s_X3_isOwedInAll_2, s_X3_isOwedInAll_3, s_X3_isOwedInAll_5, s_X3_isOwedInAll_6, s_X3_isOwedInAll_9, s_X3_isOwedInAll_12, s_X3_isOwedInAll_13, s_X3_isOwedInAll_14, s_X3_isOwedInAll_15, s_X3_isOwedInAll_16, s_X3_isOwedInAll_19, s_X3_isOwedInAll_20, s_X3_isOwedInAll_21, s_X3_isOwedInAll_24, s_X3_isOwedInAll_27, s_X3_isOwedInAll_28, Option.isSome_some, Option.getD_some, sm_clr_i, sm_clr_r, sm_clr_n, sm_clr_o, sm_clr_l, sm_rr_some, sm_rh_some, Option.toList_some, Option.toList_none, List.cons_append, List.nil_append, List.map_cons, List.map_nil, List.sum_cons, List.sum_nil, sm_cat_i, sm_cat_r, sm_cat_n, sm_cat_l, Nat.reduceAdd, Nat.reduceLeDiff, Nat.zero_add, Nat.add_zero, if_true, if_false, not_true_eq_false, not_false_eq_true, and_self, true_and, and_true, f1, hp, hle, kc, hO, nI_1]
    exact ih (c + 1) _ (by omega)
theorem c_owesInAll (H : pt_at h i P) (K : pt_ok P n p) (a : Int32) : sm_call xs n_X3_owesInAll [.ref i, .int a] h = some (some (.int (os_S P p a p 0 0)), h) := by
  rw [c0_X3_owesInAll]
  simp only [s_X3_owesInAll_0, s_X3_owesInAll_1, s_X3_owesInAll_2, s_X3_owesInAll_3, s_X3_owesInAll_5, s_X3_owesInAll_6, s_X3_owesInAll_9, s_X3_owesInAll_12, s_X3_owesInAll_13, s_X3_owesInAll_14, s_X3_owesInAll_15, s_X3_owesInAll_16, s_X3_owesInAll_19, s_X3_owesInAll_20, s_X3_owesInAll_21, s_X3_owesInAll_24, s_X3_owesInAll_27, s_X3_owesInAll_28, Option.isSome_some, Option.getD_some, sm_clr_i, sm_clr_r, sm_clr_n, sm_clr_o, sm_clr_l, sm_rr_some, sm_rh_some, Option.toList_some, Option.toList_none, List.cons_append, List.nil_append, List.map_cons, List.map_nil, List.sum_cons, List.sum_nil, sm_cat_i, sm_cat_r, sm_cat_n, sm_cat_l, Nat.reduceAdd, Nat.reduceLeDiff, Nat.zero_add, Nat.add_zero, if_true, if_false, not_true_eq_false, not_false_eq_true, and_self, true_and, and_true]
  exact os_loop H K a p 0 0 (by omega)
theorem c_isOwedInAll (H : pt_at h i P) (K : pt_ok P n p) (a : Int32) : sm_call xs n_X3_isOwedInAll [.ref i, .int a] h = some (some (.int (od_S P p a p 0 0)), h) := by
  rw [c0_X3_isOwedInAll]
  simp only [s_X3_isOwedInAll_0, s_X3_isOwedInAll_1, s_X3_isOwedInAll_2, s_X3_isOwedInAll_3, s_X3_isOwedInAll_5, s_X3_isOwedInAll_6, s_X3_isOwedInAll_9, s_X3_isOwedInAll_12, s_X3_isOwedInAll_13, s_X3_isOwedInAll_14, s_X3_isOwedInAll_15, s_X3_isOwedInAll_16, s_X3_isOwedInAll_19, s_X3_isOwedInAll_20, s_X3_isOwedInAll_21, s_X3_isOwedInAll_24, s_X3_isOwedInAll_27, s_X3_isOwedInAll_28, Option.isSome_some, Option.getD_some, sm_clr_i, sm_clr_r, sm_clr_n, sm_clr_o, sm_clr_l, sm_rr_some, sm_rh_some, Option.toList_some, Option.toList_none, List.cons_append, List.nil_append, List.map_cons, List.map_nil, List.sum_cons, List.sum_nil, sm_cat_i, sm_cat_r, sm_cat_n, sm_cat_l, Nat.reduceAdd, Nat.reduceLeDiff, Nat.zero_add, Nat.add_zero, if_true, if_false, not_true_eq_false, not_false_eq_true, and_self, true_and, and_true]
  exact od_loop H K a p 0 0 (by omega)
def bl_F (P : PT) (p : Nat) (a : Int32) : Int32 := od_S P p a p 0 0 - os_S P p a p 0 0
theorem c_balance (H : pt_at h i P) (K : pt_ok P n p) (a : Int32) : sm_call xs n_X3_balance [.ref i, .int a] h = some (some (.int (bl_F P p a)), h) := by
  have h1 := c_owesInAll (xs := xs) H K a
  have h2 := c_isOwedInAll (xs := xs) H K a
  obtain ⟨kc, f0, f1, f2, f3, f4, f5, f6, f7⟩ := pt_fld H
  rw [c0_X3_balance]
  simp only [s_X3_balance_0, s_X3_balance_1, s_X3_balance_2, s_X3_balance_5, s_X3_balance_6, s_X3_balance_7, s_X3_balance_10, s_X3_balance_11, Option.isSome_some, Option.getD_some, sm_clr_i, sm_clr_r, sm_clr_n, sm_clr_o, sm_clr_l, sm_rr_some, sm_rh_some, Option.toList_some, Option.toList_none, List.cons_append, List.nil_append, List.map_cons, List.map_nil, List.sum_cons, List.sum_nil, sm_cat_i, sm_cat_r, sm_cat_n, sm_cat_l, Nat.reduceAdd, Nat.reduceLeDiff, Nat.zero_add, Nat.add_zero, if_true, if_false, not_true_eq_false, not_false_eq_true, and_self, true_and, and_true, kc, h1, h2]
  rfl
theorem c_gain (H : pt_at h i P) (K : pt_ok P n p) (a v : Int32) : sm_call xs n_X3_gain [.ref i, .int a, .int v] h = some (none, if hs_C p a then h.set (i + 4) (.inl (.int, (pt_pu P).set a.toNatClampNeg (if (pt_pu P).getD a.toNatClampNeg 0 + v < 999 then (pt_pu P).getD a.toNatClampNeg 0 + v else 999))) else h) := by
  have hC := c_hasPlayer (xs := xs) H K a
  obtain ⟨hc, hp, hn, hp5, l1, l2, l3, l4, l5⟩ := K
  obtain ⟨kc, f0, f1, f2, f3, f4, f5, f6, f7⟩ := pt_fld H
  obtain ⟨g1, g2, g3, g4, g5⟩ := pt_arr H
  rw [c0_X3_gain]
  cases hb : hs_C p a with
  | false =>
    rw [hb, b2i_f] at hC
    simp only [s_X3_gain_0, s_X3_gain_1, s_X3_gain_2, s_X3_gain_5, s_X3_gain_8, s_X3_gain_9, s_X3_gain_12, s_X3_gain_13, s_X3_gain_16, s_X3_gain_17, s_X3_gain_20, s_X3_gain_21, s_X3_gain_22, s_X3_gain_23, s_X3_gain_24, s_X3_gain_27, s_X3_gain_28, Option.isSome_some, Option.getD_some, sm_clr_i, sm_clr_r, sm_clr_n, sm_clr_o, sm_clr_l, sm_rr_some, sm_rh_some, Option.toList_some, Option.toList_none, List.cons_append, List.nil_append, List.map_cons, List.map_nil, List.sum_cons, List.sum_nil, sm_cat_i, sm_cat_r, sm_cat_n, sm_cat_l, Nat.reduceAdd, Nat.reduceLeDiff, Nat.zero_add, Nat.add_zero, if_true, if_false, not_true_eq_false, not_false_eq_true, and_self, true_and, and_true, kc, hC]
    simp
  | true =>
    rw [hb, b2i_t] at hC
    obtain ⟨k, hk, rfl⟩ := hs_C_of hb (by omega)
    have e1 : sm_inr (some (pt_pu P)) (nI k) = true := sm_inr_nI (by omega) (by omega)
    have e3 : sm_el (some (pt_pu P)) (nI k) = (pt_pu P).getD k 0 := sm_el_nI (by omega)
    simp only [s_X3_gain_0, s_X3_gain_1, s_X3_gain_2, s_X3_gain_5, s_X3_gain_8, s_X3_gain_9, s_X3_gain_12, s_X3_gain_13, s_X3_gain_16, s_X3_gain_17, s_X3_gain_20, s_X3_gain_21, s_X3_gain_22, s_X3_gain_23, s_X3_gain_24, s_X3_gain_27, s_X3_gain_28, Option.isSome_some, Option.getD_some, sm_clr_i, sm_clr_r, sm_clr_n, sm_clr_o, sm_clr_l, sm_rr_some, sm_rh_some, Option.toList_some, Option.toList_none, List.cons_append, List.nil_append, List.map_cons, List.map_nil, List.sum_cons, List.sum_nil, sm_cat_i, sm_cat_r, sm_cat_n, sm_cat_l, Nat.reduceAdd, Nat.reduceLeDiff, Nat.zero_add, Nat.add_zero, if_true, if_false, not_true_eq_false, not_false_eq_true, and_self, true_and, and_true, kc, hC, f6, g4, e1, e3, sm_aset_nI (show k < 2 ^ 31 by omega), nI_clamp (show k < 2 ^ 31 by omega)]
    simp
def lk_S (P : PT) : Nat → Nat → Int32 → Int32
  | 0, _, s => s
  | k + 1, c, s => lk_S P k (c + 1) (if (pt_w P).getD c 0 ≤ 0 then s else s ||| (1 <<< (nI c &&& 31)))
theorem mb_loop (H : pt_at h i P) (K : pt_ok P n p) : ∀ (k c : Nat) (s : Int32), c + k = n → sm_run xs n_X3_marbles 4 [some (.ref i), some (.int s), some (.int (nI c))] [] h = some (some (.int (lk_S P k c s)), h) := by
  obtain ⟨hc, hp, hn, hp5, l1, l2, l3, l4, l5⟩ := K
  obtain ⟨kc, f0, f1, f2, f3, f4, f5, f6, f7⟩ := pt_fld H
  obtain ⟨g1, g2, g3, g4, g5⟩ := pt_arr H
  intro k
  induction k with
  | zero =>
    intro c s hk
    have hle : nI n ≤ nI c := nI_le (by omega) (by omega)
    rw [s_X3_marbles_4]
    simp only [s_X3_marbles_0, s_X3_marbles_1, s_X3_marbles_2, s_X3_marbles_3, s_X3_marbles_5, s_X3_marbles_6, s_X3_marbles_9, s_X3_marbles_12, s_X3_marbles_13, s_X3_marbles_16, s_X3_marbles_17, s_X3_marbles_18, s_X3_marbles_21, s_X3_marbles_22, s_X3_marbles_23, s_X3_marbles_24, s_X3_marbles_25, s_X3_marbles_26, s_X3_marbles_27, s_X3_marbles_30, s_X3_marbles_33, s_X3_marbles_34, Option.isSome_some, Option.getD_some, sm_clr_i, sm_clr_r, sm_clr_n, sm_clr_o, sm_clr_l, sm_rr_some, sm_rh_some, Option.toList_some, Option.toList_none, List.cons_append, List.nil_append, List.map_cons, List.map_nil, List.sum_cons, List.sum_nil, sm_cat_i, sm_cat_r, sm_cat_n, sm_cat_l, Nat.reduceAdd, Nat.reduceLeDiff, Nat.zero_add, Nat.add_zero, if_true, if_false, not_true_eq_false, not_false_eq_true, and_self, true_and, and_true, f0, hc, hle]
    rfl
  | succ k ih =>
    intro c s hk
    have hle : ¬ nI n ≤ nI c := nI_ge (by omega) (by omega)
    have e1 : sm_inr (some (pt_w P)) (nI c) = true := sm_inr_nI (by omega) (by omega)
    have e3 : sm_el (some (pt_w P)) (nI c) = (pt_w P).getD c 0 := sm_el_nI (by omega)
    rw [s_X3_marbles_4]
    simp only [s_X3_marbles_0, s_X3_marbles_1, s_X3_marbles_2, s_X3_marbles_3, s_X3_marbles_5, s_X3_marbles_6, s_X3_marbles_9, s_X3_marbles_12, s_X3_marbles_13, s_X3_marbles_16, s_X3_marbles_17, s_X3_marbles_18, s_X3_marbles_21, s_X3_marbles_22, s_X3_marbles_23, s_X3_marbles_24, s_X3_marbles_25, s_X3_marbles_26, s_X3_marbles_27, s_X3_marbles_30, s_X3_marbles_33, s_X3_marbles_34, Option.isSome_some, Option.getD_some, sm_clr_i, sm_clr_r, sm_clr_n, sm_clr_o, sm_clr_l, sm_rr_some, sm_rh_some, Option.toList_some, Option.toList_none, List.cons_append, List.nil_append, List.map_cons, List.map_nil, List.sum_cons, List.sum_nil, sm_cat_i, sm_cat_r, sm_cat_n, sm_cat_l, Nat.reduceAdd, Nat.reduceLeDiff, Nat.zero_add, Nat.add_zero, if_true, if_false, not_true_eq_false, not_false_eq_true, and_self, true_and, and_true, f0, hc, hle, f4, g2, e1, e3, nI_1]
    show _ = some (some (Value.int (lk_S P k (c + 1) (if (pt_w P).getD c 0 ≤ 0 then s else s ||| (1 <<< (nI c &&& 31))))), h)
    by_cases hw : (pt_w P).getD c 0 ≤ 0
    · rw [if_pos hw, if_pos hw]; exact ih (c + 1) _ (by omega)
    · rw [if_neg hw, if_neg hw]; exact ih (c + 1) _ (by omega)
theorem c_marbles (H : pt_at h i P) (K : pt_ok P n p) : sm_call xs n_X3_marbles [.ref i] h = some (some (.int (lk_S P n 0 0)), h) := by
  rw [c0_X3_marbles]
  simp only [s_X3_marbles_0, s_X3_marbles_1, s_X3_marbles_2, s_X3_marbles_3, s_X3_marbles_5, s_X3_marbles_6, s_X3_marbles_9, s_X3_marbles_12, s_X3_marbles_13, s_X3_marbles_16, s_X3_marbles_17, s_X3_marbles_18, s_X3_marbles_21, s_X3_marbles_22, s_X3_marbles_23, s_X3_marbles_24, s_X3_marbles_25, s_X3_marbles_26, s_X3_marbles_27, s_X3_marbles_30, s_X3_marbles_33, s_X3_marbles_34, Option.isSome_some, Option.getD_some, sm_clr_i, sm_clr_r, sm_clr_n, sm_clr_o, sm_clr_l, sm_rr_some, sm_rh_some, Option.toList_some, Option.toList_none, List.cons_append, List.nil_append, List.map_cons, List.map_nil, List.sum_cons, List.sum_nil, sm_cat_i, sm_cat_r, sm_cat_n, sm_cat_l, Nat.reduceAdd, Nat.reduceLeDiff, Nat.zero_add, Nat.add_zero, if_true, if_false, not_true_eq_false, not_false_eq_true, and_self, true_and, and_true]
  exact mb_loop H K n 0 0 (by omega)
theorem c_land (H : pt_at h i P) (K : pt_ok P n p) (c : Int32) : sm_call xs n_X3_land [.ref i, .int c] h = some (some (.int (wt_A P n c)), if hs_C n c then h.set (i + 2) (.inl (.int, (pt_w P).set c.toNatClampNeg (if wt_A P n c ≤ 0 then 1 else 0))) else h) := by
  have h1 := c_worthAt (xs := xs) H K c
  have h2 := fun v => c_lay (xs := xs) H K c v
  obtain ⟨kc, f0, f1, f2, f3, f4, f5, f6, f7⟩ := pt_fld H
  rw [c0_X3_land]
  by_cases hw : wt_A P n c ≤ 0
  · simp only [s_X3_land_0, s_X3_land_1, s_X3_land_2, s_X3_land_5, s_X3_land_6, s_X3_land_7, s_X3_land_8, s_X3_land_9, s_X3_land_12, s_X3_land_13, s_X3_land_16, s_X3_land_17, s_X3_land_20, s_X3_land_21, Option.isSome_some, Option.getD_some, sm_clr_i, sm_clr_r, sm_clr_n, sm_clr_o, sm_clr_l, sm_rr_some, sm_rh_some, Option.toList_some, Option.toList_none, List.cons_append, List.nil_append, List.map_cons, List.map_nil, List.sum_cons, List.sum_nil, sm_cat_i, sm_cat_r, sm_cat_n, sm_cat_l, Nat.reduceAdd, Nat.reduceLeDiff, Nat.zero_add, Nat.add_zero, if_true, if_false, not_true_eq_false, not_false_eq_true, and_self, true_and, and_true, kc, h1, h2, hw]
  · simp only [s_X3_land_0, s_X3_land_1, s_X3_land_2, s_X3_land_5, s_X3_land_6, s_X3_land_7, s_X3_land_8, s_X3_land_9, s_X3_land_12, s_X3_land_13, s_X3_land_16, s_X3_land_17, s_X3_land_20, s_X3_land_21, Option.isSome_some, Option.getD_some, sm_clr_i, sm_clr_r, sm_clr_n, sm_clr_o, sm_clr_l, sm_rr_some, sm_rh_some, Option.toList_some, Option.toList_none, List.cons_append, List.nil_append, List.map_cons, List.map_nil, List.sum_cons, List.sum_nil, sm_cat_i, sm_cat_r, sm_cat_n, sm_cat_l, Nat.reduceAdd, Nat.reduceLeDiff, Nat.zero_add, Nat.add_zero, if_true, if_false, not_true_eq_false, not_false_eq_true, and_self, true_and, and_true, kc, h1, h2, hw]
end PATCHR

section PARTS
variable {xs : List Int32} {h : HH}
theorem lc_eq (x y : Int64) : (lg_cmp x y = 0) = (x = y) := by
  unfold lg_cmp
  apply propext
  by_cases h1 : x > y
  · rw [if_pos h1]; exact ⟨fun h => absurd h (by decide), fun h => absurd h1 (by subst h; exact Int64.lt_irrefl)⟩
  · rw [if_neg h1]
    by_cases h2 : x = y
    · rw [if_pos h2]; exact ⟨fun _ => h2, fun _ => rfl⟩
    · rw [if_neg h2]; exact ⟨fun h => absurd h (by decide), fun h => absurd h h2⟩
def cd_F : Nat → Int64 → Int64 → Int64
  | 0, l, _ => l
  | k + 1, l, s => if s = 0 then l else cd_F k s (l - l / s * s)
theorem cd_loop (a c : Int64) : ∀ (k j : Nat) (l s : Int64) (d e : Option Value), j + k = 100 → sm_run xs n_X9_commonDivisor 9 [some (.long a), none, some (.long c), none, some (.long l), none, some (.long s), none, some (.int (nI j)), d, e] [] h = some (some (.long (cd_F k l s)), h) := by
  intro k
  induction k with
  | zero =>
    intro j l s d e hk
    have hle : (100 : Int32) ≤ nI j := nI_le (a := 100) (by omega) (by omega)
    rw [s_X9_commonDivisor_9]
    simp only [s_X9_commonDivisor_0, s_X9_commonDivisor_1, s_X9_commonDivisor_3, s_X9_commonDivisor_4, s_X9_commonDivisor_6, s_X9_commonDivisor_7, s_X9_commonDivisor_11, s_X9_commonDivisor_13, s_X9_commonDivisor_16, s_X9_commonDivisor_18, s_X9_commonDivisor_19, s_X9_commonDivisor_20, s_X9_commonDivisor_23, s_X9_commonDivisor_25, s_X9_commonDivisor_27, s_X9_commonDivisor_28, s_X9_commonDivisor_30, s_X9_commonDivisor_32, s_X9_commonDivisor_34, s_X9_commonDivisor_36, s_X9_commonDivisor_38, s_X9_commonDivisor_41, s_X9_commonDivisor_44, s_X9_commonDivisor_46, Option.isSome_some, Option.getD_some, sm_clr_i, sm_clr_r, sm_clr_n, sm_clr_o, sm_clr_l, sm_rr_some, sm_rh_some, Option.toList_some, Option.toList_none, List.cons_append, List.nil_append, List.map_cons, List.map_nil, List.sum_cons, List.sum_nil, sm_cat_i, sm_cat_r, sm_cat_n, sm_cat_l, Nat.reduceAdd, Nat.reduceLeDiff, Nat.zero_add, Nat.add_zero, if_true, if_false, not_true_eq_false, not_false_eq_true, and_self, true_and, and_true, hle]
    rfl
  | succ k ih =>
    intro j l s d e hk
    have hle : ¬ (100 : Int32) ≤ nI j := nI_ge (b := 100) (by omega) (by omega)
    rw [s_X9_commonDivisor_9]
    show _ = some (some (Value.long (if s = 0 then l else cd_F k s (l - l / s * s))), h)
    by_cases hs : s = 0
    · rw [if_pos hs]
      simp only [s_X9_commonDivisor_0, s_X9_commonDivisor_1, s_X9_commonDivisor_3, s_X9_commonDivisor_4, s_X9_commonDivisor_6, s_X9_commonDivisor_7, s_X9_commonDivisor_11, s_X9_commonDivisor_13, s_X9_commonDivisor_16, s_X9_commonDivisor_18, s_X9_commonDivisor_19, s_X9_commonDivisor_20, s_X9_commonDivisor_23, s_X9_commonDivisor_25, s_X9_commonDivisor_27, s_X9_commonDivisor_28, s_X9_commonDivisor_30, s_X9_commonDivisor_32, s_X9_commonDivisor_34, s_X9_commonDivisor_36, s_X9_commonDivisor_38, s_X9_commonDivisor_41, s_X9_commonDivisor_44, s_X9_commonDivisor_46, Option.isSome_some, Option.getD_some, sm_clr_i, sm_clr_r, sm_clr_n, sm_clr_o, sm_clr_l, sm_rr_some, sm_rh_some, Option.toList_some, Option.toList_none, List.cons_append, List.nil_append, List.map_cons, List.map_nil, List.sum_cons, List.sum_nil, sm_cat_i, sm_cat_r, sm_cat_n, sm_cat_l, Nat.reduceAdd, Nat.reduceLeDiff, Nat.zero_add, Nat.add_zero, if_true, if_false, not_true_eq_false, not_false_eq_true, and_self, true_and, and_true, hle, lc_eq, hs]
    · rw [if_neg hs]
      simp only [s_X9_commonDivisor_0, s_X9_commonDivisor_1, s_X9_commonDivisor_3, s_X9_commonDivisor_4, s_X9_commonDivisor_6, s_X9_commonDivisor_7, s_X9_commonDivisor_11, s_X9_commonDivisor_13, s_X9_commonDivisor_16, s_X9_commonDivisor_18, s_X9_commonDivisor_19, s_X9_commonDivisor_20, s_X9_commonDivisor_23, s_X9_commonDivisor_25, s_X9_commonDivisor_27, s_X9_commonDivisor_28, s_X9_commonDivisor_30, s_X9_commonDivisor_32, s_X9_commonDivisor_34, s_X9_commonDivisor_36, s_X9_commonDivisor_38, s_X9_commonDivisor_41, s_X9_commonDivisor_44, s_X9_commonDivisor_46, Option.isSome_some, Option.getD_some, sm_clr_i, sm_clr_r, sm_clr_n, sm_clr_o, sm_clr_l, sm_rr_some, sm_rh_some, Option.toList_some, Option.toList_none, List.cons_append, List.nil_append, List.map_cons, List.map_nil, List.sum_cons, List.sum_nil, sm_cat_i, sm_cat_r, sm_cat_n, sm_cat_l, Nat.reduceAdd, Nat.reduceLeDiff, Nat.zero_add, Nat.add_zero, if_true, if_false, not_true_eq_false, not_false_eq_true, and_self, true_and, and_true, hle, lc_eq, hs, nI_1]
      exact ih (j + 1) _ _ _ _ (by omega)
theorem c_commonDivisor (a c : Int64) : sm_call xs n_X9_commonDivisor [.long a, .long c] h = some (some (.long (cd_F 100 a c)), h) := by
  rw [c0_X9_commonDivisor]
  simp only [s_X9_commonDivisor_0, s_X9_commonDivisor_1, s_X9_commonDivisor_3, s_X9_commonDivisor_4, s_X9_commonDivisor_6, s_X9_commonDivisor_7, s_X9_commonDivisor_11, s_X9_commonDivisor_13, s_X9_commonDivisor_16, s_X9_commonDivisor_18, s_X9_commonDivisor_19, s_X9_commonDivisor_20, s_X9_commonDivisor_23, s_X9_commonDivisor_25, s_X9_commonDivisor_27, s_X9_commonDivisor_28, s_X9_commonDivisor_30, s_X9_commonDivisor_32, s_X9_commonDivisor_34, s_X9_commonDivisor_36, s_X9_commonDivisor_38, s_X9_commonDivisor_41, s_X9_commonDivisor_44, s_X9_commonDivisor_46, Option.isSome_some, Option.getD_some, sm_clr_i, sm_clr_r, sm_clr_n, sm_clr_o, sm_clr_l, sm_rr_some, sm_rh_some, Option.toList_some, Option.toList_none, List.cons_append, List.nil_append, List.map_cons, List.map_nil, List.sum_cons, List.sum_nil, sm_cat_i, sm_cat_r, sm_cat_n, sm_cat_l, Nat.reduceAdd, Nat.reduceLeDiff, Nat.zero_add, Nat.add_zero, if_true, if_false, not_true_eq_false, not_false_eq_true, and_self, true_and, and_true]
  exact cd_loop a c 100 0 a c _ _ (by omega)
def po_F (a c : Int64) (k : Int32) : Int64 := if cd_F 100 a c = 0 then (if k = 0 then a else c) else (if k = 0 then a else c) / cd_F 100 a c
theorem c_partOf (a c : Int64) (k : Int32) : sm_call xs n_X9_partOf [.long a, .long c, .int k] h = some (some (.long (po_F a c k)), h) := by
  have h1 := c_commonDivisor (xs := xs) (h := h) a c
  unfold po_F
  rw [c0_X9_partOf]
  by_cases hk : k = 0
  · by_cases hd : cd_F 100 a c = 0
    · simp only [s_X9_partOf_0, s_X9_partOf_1, s_X9_partOf_2, s_X9_partOf_5, s_X9_partOf_7, s_X9_partOf_9, s_X9_partOf_12, s_X9_partOf_13, s_X9_partOf_16, s_X9_partOf_17, s_X9_partOf_19, s_X9_partOf_21, s_X9_partOf_22, s_X9_partOf_23, s_X9_partOf_26, s_X9_partOf_28, s_X9_partOf_31, s_X9_partOf_33, s_X9_partOf_35, s_X9_partOf_36, Option.isSome_some, Option.getD_some, sm_clr_i, sm_clr_r, sm_clr_n, sm_clr_o, sm_clr_l, sm_rr_some, sm_rh_some, Option.toList_some, Option.toList_none, List.cons_append, List.nil_append, List.map_cons, List.map_nil, List.sum_cons, List.sum_nil, sm_cat_i, sm_cat_r, sm_cat_n, sm_cat_l, Nat.reduceAdd, Nat.reduceLeDiff, Nat.zero_add, Nat.add_zero, if_true, if_false, not_true_eq_false, not_false_eq_true, and_self, true_and, and_true, h1, hk, lc_eq, hd]
    · simp only [s_X9_partOf_0, s_X9_partOf_1, s_X9_partOf_2, s_X9_partOf_5, s_X9_partOf_7, s_X9_partOf_9, s_X9_partOf_12, s_X9_partOf_13, s_X9_partOf_16, s_X9_partOf_17, s_X9_partOf_19, s_X9_partOf_21, s_X9_partOf_22, s_X9_partOf_23, s_X9_partOf_26, s_X9_partOf_28, s_X9_partOf_31, s_X9_partOf_33, s_X9_partOf_35, s_X9_partOf_36, Option.isSome_some, Option.getD_some, sm_clr_i, sm_clr_r, sm_clr_n, sm_clr_o, sm_clr_l, sm_rr_some, sm_rh_some, Option.toList_some, Option.toList_none, List.cons_append, List.nil_append, List.map_cons, List.map_nil, List.sum_cons, List.sum_nil, sm_cat_i, sm_cat_r, sm_cat_n, sm_cat_l, Nat.reduceAdd, Nat.reduceLeDiff, Nat.zero_add, Nat.add_zero, if_true, if_false, not_true_eq_false, not_false_eq_true, and_self, true_and, and_true, h1, hk, lc_eq, hd]
  · by_cases hd : cd_F 100 a c = 0
    · simp only [s_X9_partOf_0, s_X9_partOf_1, s_X9_partOf_2, s_X9_partOf_5, s_X9_partOf_7, s_X9_partOf_9, s_X9_partOf_12, s_X9_partOf_13, s_X9_partOf_16, s_X9_partOf_17, s_X9_partOf_19, s_X9_partOf_21, s_X9_partOf_22, s_X9_partOf_23, s_X9_partOf_26, s_X9_partOf_28, s_X9_partOf_31, s_X9_partOf_33, s_X9_partOf_35, s_X9_partOf_36, Option.isSome_some, Option.getD_some, sm_clr_i, sm_clr_r, sm_clr_n, sm_clr_o, sm_clr_l, sm_rr_some, sm_rh_some, Option.toList_some, Option.toList_none, List.cons_append, List.nil_append, List.map_cons, List.map_nil, List.sum_cons, List.sum_nil, sm_cat_i, sm_cat_r, sm_cat_n, sm_cat_l, Nat.reduceAdd, Nat.reduceLeDiff, Nat.zero_add, Nat.add_zero, if_true, if_false, not_true_eq_false, not_false_eq_true, and_self, true_and, and_true, h1, hk, lc_eq, hd]
    · simp only [s_X9_partOf_0, s_X9_partOf_1, s_X9_partOf_2, s_X9_partOf_5, s_X9_partOf_7, s_X9_partOf_9, s_X9_partOf_12, s_X9_partOf_13, s_X9_partOf_16, s_X9_partOf_17, s_X9_partOf_19, s_X9_partOf_21, s_X9_partOf_22, s_X9_partOf_23, s_X9_partOf_26, s_X9_partOf_28, s_X9_partOf_31, s_X9_partOf_33, s_X9_partOf_35, s_X9_partOf_36, Option.isSome_some, Option.getD_some, sm_clr_i, sm_clr_r, sm_clr_n, sm_clr_o, sm_clr_l, sm_rr_some, sm_rh_some, Option.toList_some, Option.toList_none, List.cons_append, List.nil_append, List.map_cons, List.map_nil, List.sum_cons, List.sum_nil, sm_cat_i, sm_cat_r, sm_cat_n, sm_cat_l, Nat.reduceAdd, Nat.reduceLeDiff, Nat.zero_add, Nat.add_zero, if_true, if_false, not_true_eq_false, not_false_eq_true, and_self, true_and, and_true, h1, hk, lc_eq, hd]
end PARTS

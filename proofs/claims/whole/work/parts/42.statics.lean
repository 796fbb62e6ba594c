section STATICS
variable {xs : List Int32} {h : HH}
def rg_B (lo hi x : Int32) : Bool := decide (lo ≤ x ∧ x ≤ hi)
theorem rg_f1 {lo hi x : Int32} (h : x < lo) : rg_B lo hi x = false := decide_eq_false (fun q => Int32.not_le.mpr h q.1)
theorem rg_f2 {lo hi x : Int32} (h : hi < x) : rg_B lo hi x = false := decide_eq_false (fun q => Int32.not_le.mpr h q.2)
theorem rg_t {lo hi x : Int32} (h1 : ¬ x < lo) (h2 : ¬ hi < x) : rg_B lo hi x = true := decide_eq_true ⟨Int32.not_lt.mp h1, Int32.not_lt.mp h2⟩
theorem c_isForce (x : Int32) : sm_call xs n_X9_isForce [.int x] h = some (some (.int (b2i (rg_B 0 9 x))), h) := by
  rw [c0_X9_isForce]
  by_cases h1 : x < 0
  · rw [rg_f1 h1]; simp only [s_X9_isForce_0, s_X9_isForce_1, s_X9_isForce_4, s_X9_isForce_5, s_X9_isForce_7, s_X9_isForce_10, s_X9_isForce_11, s_X9_isForce_14, s_X9_isForce_15z0, s_X9_isForce_15z1, Option.isSome_some, Option.getD_some, sm_clr_i, sm_clr_r, sm_clr_n, sm_clr_o, sm_clr_l, sm_rr_some, sm_rh_some, Option.toList_some, Option.toList_none, List.cons_append, List.nil_append, List.map_cons, List.map_nil, List.sum_cons, List.sum_nil, sm_cat_i, sm_cat_r, sm_cat_n, sm_cat_l, Nat.reduceAdd, Nat.reduceLeDiff, Nat.zero_add, Nat.add_zero, if_true, if_false, not_true_eq_false, not_false_eq_true, and_self, true_and, and_true, h1]; rfl
  · by_cases h2 : 9 < x
    · rw [rg_f2 h2]; simp only [s_X9_isForce_0, s_X9_isForce_1, s_X9_isForce_4, s_X9_isForce_5, s_X9_isForce_7, s_X9_isForce_10, s_X9_isForce_11, s_X9_isForce_14, s_X9_isForce_15z0, s_X9_isForce_15z1, Option.isSome_some, Option.getD_some, sm_clr_i, sm_clr_r, sm_clr_n, sm_clr_o, sm_clr_l, sm_rr_some, sm_rh_some, Option.toList_some, Option.toList_none, List.cons_append, List.nil_append, List.map_cons, List.map_nil, List.sum_cons, List.sum_nil, sm_cat_i, sm_cat_r, sm_cat_n, sm_cat_l, Nat.reduceAdd, Nat.reduceLeDiff, Nat.zero_add, Nat.add_zero, if_true, if_false, not_true_eq_false, not_false_eq_true, and_self, true_and, and_true, h1, h2]; rfl
    · rw [rg_t h1 h2]; simp only [s_X9_isForce_0, s_X9_isForce_1, s_X9_isForce_4, s_X9_isForce_5, s_X9_isForce_7, s_X9_isForce_10, s_X9_isForce_11, s_X9_isForce_14, s_X9_isForce_15z0, s_X9_isForce_15z1, Option.isSome_some, Option.getD_some, sm_clr_i, sm_clr_r, sm_clr_n, sm_clr_o, sm_clr_l, sm_rr_some, sm_rh_some, Option.toList_some, Option.toList_none, List.cons_append, List.nil_append, List.map_cons, List.map_nil, List.sum_cons, List.sum_nil, sm_cat_i, sm_cat_r, sm_cat_n, sm_cat_l, Nat.reduceAdd, Nat.reduceLeDiff, Nat.zero_add, Nat.add_zero, if_true, if_false, not_true_eq_false, not_false_eq_true, and_self, true_and, and_true, h1, h2]; rfl
theorem c_isOfTen (x : Int32) : sm_call xs n_X9_isOfTen [.int x] h = some (some (.int (b2i (rg_B 0 10 x))), h) := by
  rw [c0_X9_isOfTen]
  by_cases h1 : x < 0
  · rw [rg_f1 h1]; simp only [s_X9_isOfTen_0, s_X9_isOfTen_1, s_X9_isOfTen_4, s_X9_isOfTen_5, s_X9_isOfTen_7, s_X9_isOfTen_10, s_X9_isOfTen_11, s_X9_isOfTen_14, s_X9_isOfTen_15z0, s_X9_isOfTen_15z1, Option.isSome_some, Option.getD_some, sm_clr_i, sm_clr_r, sm_clr_n, sm_clr_o, sm_clr_l, sm_rr_some, sm_rh_some, Option.toList_some, Option.toList_none, List.cons_append, List.nil_append, List.map_cons, List.map_nil, List.sum_cons, List.sum_nil, sm_cat_i, sm_cat_r, sm_cat_n, sm_cat_l, Nat.reduceAdd, Nat.reduceLeDiff, Nat.zero_add, Nat.add_zero, if_true, if_false, not_true_eq_false, not_false_eq_true, and_self, true_and, and_true, h1]; rfl
  · by_cases h2 : 10 < x
    · rw [rg_f2 h2]; simp only [s_X9_isOfTen_0, s_X9_isOfTen_1, s_X9_isOfTen_4, s_X9_isOfTen_5, s_X9_isOfTen_7, s_X9_isOfTen_10, s_X9_isOfTen_11, s_X9_isOfTen_14, s_X9_isOfTen_15z0, s_X9_isOfTen_15z1, Option.isSome_some, Option.getD_some, sm_clr_i, sm_clr_r, sm_clr_n, sm_clr_o, sm_clr_l, sm_rr_some, sm_rh_some, Option.toList_some, Option.toList_none, List.cons_append, List.nil_append, List.map_cons, List.map_nil, List.sum_cons, List.sum_nil, sm_cat_i, sm_cat_r, sm_cat_n, sm_cat_l, Nat.reduceAdd, Nat.reduceLeDiff, Nat.zero_add, Nat.add_zero, if_true, if_false, not_true_eq_false, not_false_eq_true, and_self, true_and, and_true, h1, h2]; rfl
    · rw [rg_t h1 h2]; simp only [s_X9_isOfTen_0, s_X9_isOfTen_1, s_X9_isOfTen_4, s_X9_isOfTen_5, s_X9_isOfTen_7, s_X9_isOfTen_10, s_X9_isOfTen_11, s_X9_isOfTen_14, s_X9_isOfTen_15z0, s_X9_isOfTen_15z1, Option.isSome_some, Option.getD_some, sm_clr_i, sm_clr_r, sm_clr_n, sm_clr_o, sm_clr_l, sm_rr_some, sm_rh_some, Option.toList_some, Option.toList_none, List.cons_append, List.nil_append, List.map_cons, List.map_nil, List.sum_cons, List.sum_nil, sm_cat_i, sm_cat_r, sm_cat_n, sm_cat_l, Nat.reduceAdd, Nat.reduceLeDiff, Nat.zero_add, Nat.add_zero, if_true, if_false, not_true_eq_false, not_false_eq_true, and_self, true_and, and_true, h1, h2]; rfl
def z1_B (x : Int32) : Bool := decide (x = 0 ∨ x = 1)
theorem c_isZeroOrOne (x : Int32) : sm_call xs n_X9_isZeroOrOne [.int x] h = some (some (.int (b2i (z1_B x))), h) := by
  rw [c0_X9_isZeroOrOne]
  unfold z1_B
  by_cases h1 : x = 0
  · rw [decide_eq_true (Or.inl h1)]; simp only [s_X9_isZeroOrOne_0, s_X9_isZeroOrOne_1, s_X9_isZeroOrOne_4, s_X9_isZeroOrOne_5, s_X9_isZeroOrOne_6, s_X9_isZeroOrOne_9, s_X9_isZeroOrOne_10, s_X9_isZeroOrOne_13, s_X9_isZeroOrOne_14z0, s_X9_isZeroOrOne_14z1, Option.isSome_some, Option.getD_some, sm_clr_i, sm_clr_r, sm_clr_n, sm_clr_o, sm_clr_l, sm_rr_some, sm_rh_some, Option.toList_some, Option.toList_none, List.cons_append, List.nil_append, List.map_cons, List.map_nil, List.sum_cons, List.sum_nil, sm_cat_i, sm_cat_r, sm_cat_n, sm_cat_l, Nat.reduceAdd, Nat.reduceLeDiff, Nat.zero_add, Nat.add_zero, if_true, if_false, not_true_eq_false, not_false_eq_true, and_self, true_and, and_true, h1]; rfl
  · by_cases h2 : x = 1
    · rw [decide_eq_true (Or.inr h2)]; subst h2; simp only [s_X9_isZeroOrOne_0, s_X9_isZeroOrOne_1, s_X9_isZeroOrOne_4, s_X9_isZeroOrOne_5, s_X9_isZeroOrOne_6, s_X9_isZeroOrOne_9, s_X9_isZeroOrOne_10, s_X9_isZeroOrOne_13, s_X9_isZeroOrOne_14z0, s_X9_isZeroOrOne_14z1, Option.isSome_some, Option.getD_some, sm_clr_i, sm_clr_r, sm_clr_n, sm_clr_o, sm_clr_l, sm_rr_some, sm_rh_some, Option.toList_some, Option.toList_none, List.cons_append, List.nil_append, List.map_cons, List.map_nil, List.sum_cons, List.sum_nil, sm_cat_i, sm_cat_r, sm_cat_n, sm_cat_l, Nat.reduceAdd, Nat.reduceLeDiff, Nat.zero_add, Nat.add_zero, if_true, if_false, not_true_eq_false, not_false_eq_true, and_self, true_and, and_true, show ¬ (1 : Int32) = 0 from by decide]; rfl
    · rw [decide_eq_false (fun q => q.elim h1 h2)]; simp only [s_X9_isZeroOrOne_0, s_X9_isZeroOrOne_1, s_X9_isZeroOrOne_4, s_X9_isZeroOrOne_5, s_X9_isZeroOrOne_6, s_X9_isZeroOrOne_9, s_X9_isZeroOrOne_10, s_X9_isZeroOrOne_13, s_X9_isZeroOrOne_14z0, s_X9_isZeroOrOne_14z1, Option.isSome_some, Option.getD_some, sm_clr_i, sm_clr_r, sm_clr_n, sm_clr_o, sm_clr_l, sm_rr_some, sm_rh_some, Option.toList_some, Option.toList_none, List.cons_append, List.nil_append, List.map_cons, List.map_nil, List.sum_cons, List.sum_nil, sm_cat_i, sm_cat_r, sm_cat_n, sm_cat_l, Nat.reduceAdd, Nat.reduceLeDiff, Nat.zero_add, Nat.add_zero, if_true, if_false, not_true_eq_false, not_false_eq_true, and_self, true_and, and_true, h1, h2]; rfl
def pw_F (b : Int32) : Nat → Int64 → Int64
  | 0, p => p
  | k + 1, p => pw_F b k (p * b.toInt64)
theorem pw_loop (b : Int32) {m : Nat} (hm : m < 2 ^ 31) : ∀ (k c : Nat) (p : Int64), c + k = m → sm_run xs n_X9_power 5 [some (.int b), some (.int (nI m)), some (.long p), none, some (.int (nI c))] [] h = some (some (.long (pw_F b k p)), h) := by
  intro k
  induction k with
  | zero =>
    intro c p hk
    have hle : nI m ≤ nI c := nI_le (by omega) (by omega)
    rw [s_X9_power_5]
    simp only [s_X9_power_0, s_X9_power_1, s_X9_power_2, s_X9_power_3, s_X9_power_7, s_X9_power_8, s_X9_power_11, s_X9_power_12, s_X9_power_13, s_X9_power_14, s_X9_power_15, s_X9_power_16, s_X9_power_19, s_X9_power_22, s_X9_power_23, Option.isSome_some, Option.getD_some, sm_clr_i, sm_clr_r, sm_clr_n, sm_clr_o, sm_clr_l, sm_rr_some, sm_rh_some, Option.toList_some, Option.toList_none, List.cons_append, List.nil_append, List.map_cons, List.map_nil, List.sum_cons, List.sum_nil, sm_cat_i, sm_cat_r, sm_cat_n, sm_cat_l, Nat.reduceAdd, Nat.reduceLeDiff, Nat.zero_add, Nat.add_zero, if_true, if_false, not_true_eq_false, not_false_eq_true, and_self, true_and, and_true, hle]
    rfl
  | succ k ih =>
    intro c p hk
    have hle : ¬ nI m ≤ nI c := nI_ge (by omega) (by omega)
    rw [s_X9_power_5]
    simp only [s_X9_power_0, s_X9_power_1, s_X9_power_2, s_X9_power_3, s_X9_power_7, s_X9_power_8, s_X9_power_11, s_X9_power_12, s_X9_power_13, s_X9_power_14, s_X9_power_15, s_X9_power_16, s_X9_power_19, s_X9_power_22, s_X9_power_23, Option.isSome_some, Option.getD_some, sm_clr_i, sm_clr_r, sm_clr_n, sm_clr_o, sm_clr_l, sm_rr_some, sm_rh_some, Option.toList_some, Option.toList_none, List.cons_append, List.nil_append, List.map_cons, List.map_nil, List.sum_cons, List.sum_nil, sm_cat_i, sm_cat_r, sm_cat_n, sm_cat_l, Nat.reduceAdd, Nat.reduceLeDiff, Nat.zero_add, Nat.add_zero, if_true, if_false, not_true_eq_false, not_false_eq_true, and_self, true_and, and_true, hle, nI_1]
    exact ih (c + 1) _ (by omega)
theorem c_power (b : Int32) {m : Nat} (hm : m < 2 ^ 31) : sm_call xs n_X9_power [.int b, .int (nI m)] h = some (some (.long (pw_F b m 1)), h) := by
  rw [c0_X9_power]
  simp only [s_X9_power_0, s_X9_power_1, s_X9_power_2, s_X9_power_3, s_X9_power_7, s_X9_power_8, s_X9_power_11, s_X9_power_12, s_X9_power_13, s_X9_power_14, s_X9_power_15, s_X9_power_16, s_X9_power_19, s_X9_power_22, s_X9_power_23, Option.isSome_some, Option.getD_some, sm_clr_i, sm_clr_r, sm_clr_n, sm_clr_o, sm_clr_l, sm_rr_some, sm_rh_some, Option.toList_some, Option.toList_none, List.cons_append, List.nil_append, List.map_cons, List.map_nil, List.sum_cons, List.sum_nil, sm_cat_i, sm_cat_r, sm_cat_n, sm_cat_l, Nat.reduceAdd, Nat.reduceLeDiff, Nat.zero_add, Nat.add_zero, if_true, if_false, not_true_eq_false, not_false_eq_true, and_self, true_and, and_true]
  exact pw_loop b hm m 0 1 (by omega)
end STATICS

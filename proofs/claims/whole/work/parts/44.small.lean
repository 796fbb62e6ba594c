section SMALL
variable {xs : List Int32} {h : HH}
def ii_B (p s : Int32) : Bool := decide ((s >>> (p &&& 31)) &&& 1 = 1)
theorem c_isIn (p s : Int32) : sm_call xs n_X9_isIn [.int p, .int s] h = some (some (.int (b2i (ii_B p s))), h) := by
  rw [c0_X9_isIn]
  unfold ii_B
  by_cases h1 : (s >>> (p &&& 31)) &&& 1 = 1
  · rw [decide_eq_true h1]
    simp only [s_X9_isIn_0, s_X9_isIn_1, s_X9_isIn_2, s_X9_isIn_3, s_X9_isIn_4, s_X9_isIn_5, s_X9_isIn_6, s_X9_isIn_9, s_X9_isIn_10, s_X9_isIn_13, s_X9_isIn_14z0, s_X9_isIn_14z1, Option.isSome_some, Option.getD_some, sm_clr_i, sm_clr_r, sm_clr_n, sm_clr_o, sm_clr_l, sm_rr_some, sm_rh_some, Option.toList_some, Option.toList_none, List.cons_append, List.nil_append, List.map_cons, List.map_nil, List.sum_cons, List.sum_nil, sm_cat_i, sm_cat_r, sm_cat_n, sm_cat_l, Nat.reduceAdd, Nat.reduceLeDiff, Nat.zero_add, Nat.add_zero, if_true, if_false, not_true_eq_false, not_false_eq_true, and_self, true_and, and_true, h1]
    rfl
  · rw [decide_eq_false h1]
    simp only [s_X9_isIn_0, s_X9_isIn_1, s_X9_isIn_2, s_X9_isIn_3, s_X9_isIn_4, s_X9_isIn_5, s_X9_isIn_6, s_X9_isIn_9, s_X9_isIn_10, s_X9_isIn_13, s_X9_isIn_14z0, s_X9_isIn_14z1, Option.isSome_some, Option.getD_some, sm_clr_i, sm_clr_r, sm_clr_n, sm_clr_o, sm_clr_l, sm_rr_some, sm_rh_some, Option.toList_some, Option.toList_none, List.cons_append, List.nil_append, List.map_cons, List.map_nil, List.sum_cons, List.sum_nil, sm_cat_i, sm_cat_r, sm_cat_n, sm_cat_l, Nat.reduceAdd, Nat.reduceLeDiff, Nat.zero_add, Nat.add_zero, if_true, if_false, not_true_eq_false, not_false_eq_true, and_self, true_and, and_true, h1]
    rfl
def dr_F (z s : Int32) : Int32 :=
  let x := 7919 * z.toInt64 + 6151 * s.toInt64 + 1
  let y := x * x - x * x / 65521 * 65521
  (y - y / 4 * 4).toInt32
theorem c_draw (z s : Int32) : sm_call xs n_X9_draw [.int z, .int s] h = some (some (.int (dr_F z s)), h) := by
  rw [c0_X9_draw]
  simp only [s_X9_draw_0, s_X9_draw_3, s_X9_draw_4, s_X9_draw_5, s_X9_draw_6, s_X9_draw_9, s_X9_draw_10, s_X9_draw_11, s_X9_draw_12, s_X9_draw_13, s_X9_draw_14, s_X9_draw_15, s_X9_draw_16, s_X9_draw_17, s_X9_draw_18, s_X9_draw_19, s_X9_draw_22, s_X9_draw_23, s_X9_draw_26, s_X9_draw_27, s_X9_draw_28, Option.isSome_some, Option.getD_some, sm_clr_i, sm_clr_r, sm_clr_n, sm_clr_o, sm_clr_l, sm_rr_some, sm_rh_some, Option.toList_some, Option.toList_none, List.cons_append, List.nil_append, List.map_cons, List.map_nil, List.sum_cons, List.sum_nil, sm_cat_i, sm_cat_r, sm_cat_n, sm_cat_l, Nat.reduceAdd, Nat.reduceLeDiff, Nat.zero_add, Nat.add_zero, if_true, if_false, not_true_eq_false, not_false_eq_true, and_self, true_and, and_true, show ¬ (65521 : Int64) = 0 from by decide, show ¬ (4 : Int64) = 0 from by decide]
  rfl
end SMALL

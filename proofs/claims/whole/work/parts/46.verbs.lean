section VERBS
variable {xs : List Int32} {h : HH} {i len cl fr to ce pl : Nat} {lt vb nu : List Int32}
theorem c_wordOf {k : Nat} (hk : k < 9) : sm_call xs n_X7_wordOf [.int (nI k)] h = some (some (.ref (sm_B + k)), h) := by
  rw [c0_X7_wordOf]
  rcases (show k = 0 ∨ k = 1 ∨ k = 2 ∨ k = 3 ∨ k = 4 ∨ k = 5 ∨ k = 6 ∨ k = 7 ∨ k = 8 by omega) with rfl | rfl | rfl | rfl | rfl | rfl | rfl | rfl | rfl
  all_goals simp (config := { decide := true }) only [s_X7_wordOf_0, s_X7_wordOf_1, s_X7_wordOf_48, s_X7_wordOf_50, s_X7_wordOf_51, s_X7_wordOf_53, s_X7_wordOf_54, s_X7_wordOf_56, s_X7_wordOf_57, s_X7_wordOf_59, s_X7_wordOf_60, s_X7_wordOf_62, s_X7_wordOf_63, s_X7_wordOf_65, s_X7_wordOf_66, s_X7_wordOf_68, s_X7_wordOf_69, s_X7_wordOf_71, s_X7_wordOf_72, s_X7_wordOf_74, Option.isSome_some, Option.getD_some, sm_clr_i, sm_clr_r, sm_clr_n, sm_clr_o, sm_clr_l, sm_rr_some, sm_rh_some, Option.toList_some, Option.toList_none, List.cons_append, List.nil_append, List.map_cons, List.map_nil, List.sum_cons, List.sum_nil, sm_cat_i, sm_cat_r, sm_cat_n, sm_cat_l, Nat.reduceAdd, Nat.reduceLeDiff, Nat.zero_add, Nat.add_zero, if_true, if_false, not_true_eq_false, not_false_eq_true, and_self, true_and, and_true]
def vh_B (lt : List Int32) (fr to k : Nat) : Bool := decide (to = fr + (wd k).length) && wh_B lt (wd k) fr (wd k).length 0
def vh_F (lt : List Int32) (fr to : Nat) : Nat → Nat → Int32
  | 0, _ => -1
  | f + 1, k => if vh_B lt fr to k then nI k else vh_F lt fr to f (k + 1)
theorem vh_loop (S : tx_at h i len cl fr to ce pl lt vb nu) (hft : fr ≤ to) (hto : to ≤ len) : ∀ (f k : Nat), k + f = 9 → sm_run xs n_X7_verbHere 2 [some (.ref i), some (.int (nI k))] [] h = some (some (.int (vh_F lt fr to f k)), h) := by
  obtain ⟨kc, f0, f1, f2, f3, f4, f5, f6, f7, f8, g1, g2, g3⟩ := tx_fld S
  intro f
  induction f with
  | zero =>
    intro k hk
    have hgt : (8 : Int32) < nI k := nI_lt (a := 8) (by omega) (by omega)
    rw [s_X7_verbHere_2]
    simp only [s_X7_verbHere_0, s_X7_verbHere_1, s_X7_verbHere_3, s_X7_verbHere_5, s_X7_verbHere_8, s_X7_verbHere_9, s_X7_verbHere_10, s_X7_verbHere_13, s_X7_verbHere_16, s_X7_verbHere_19, s_X7_verbHere_20, s_X7_verbHere_21, s_X7_verbHere_24, s_X7_verbHere_27, s_X7_verbHere_28, Option.isSome_some, Option.getD_some, sm_clr_i, sm_clr_r, sm_clr_n, sm_clr_o, sm_clr_l, sm_rr_some, sm_rh_some, Option.toList_some, Option.toList_none, List.cons_append, List.nil_append, List.map_cons, List.map_nil, List.sum_cons, List.sum_nil, sm_cat_i, sm_cat_r, sm_cat_n, sm_cat_l, Nat.reduceAdd, Nat.reduceLeDiff, Nat.zero_add, Nat.add_zero, if_true, if_false, not_true_eq_false, not_false_eq_true, and_self, true_and, and_true, hgt]
    rfl
  | succ f ih =>
    intro k hk
    have hgt : ¬ (8 : Int32) < nI k := nI_nlt (b := k) (a := 8) (by omega) (by omega)
    have hW := c_wordOf (xs := xs) (h := h) (k := k) (by omega)
    have hI := c_isHere (xs := xs) S (k := k) (by omega) hft hto
    rw [s_X7_verbHere_2]
    show _ = some (some (Value.int (if vh_B lt fr to k then nI k else vh_F lt fr to f (k + 1))), h)
    cases hb : vh_B lt fr to k with
    | true =>
      rw [show (decide (to = fr + (wd k).length) && wh_B lt (wd k) fr (wd k).length 0) = true from hb, b2i_t] at hI
      simp only [s_X7_verbHere_0, s_X7_verbHere_1, s_X7_verbHere_3, s_X7_verbHere_5, s_X7_verbHere_8, s_X7_verbHere_9, s_X7_verbHere_10, s_X7_verbHere_13, s_X7_verbHere_16, s_X7_verbHere_19, s_X7_verbHere_20, s_X7_verbHere_21, s_X7_verbHere_24, s_X7_verbHere_27, s_X7_verbHere_28, Option.isSome_some, Option.getD_some, sm_clr_i, sm_clr_r, sm_clr_n, sm_clr_o, sm_clr_l, sm_rr_some, sm_rh_some, Option.toList_some, Option.toList_none, List.cons_append, List.nil_append, List.map_cons, List.map_nil, List.sum_cons, List.sum_nil, sm_cat_i, sm_cat_r, sm_cat_n, sm_cat_l, Nat.reduceAdd, Nat.reduceLeDiff, Nat.zero_add, Nat.add_zero, if_true, if_false, not_true_eq_false, not_false_eq_true, and_self, true_and, and_true, hgt, hW, kc, hI, show ¬ (1 : Int32) = 0 from by decide]
    | false =>
      rw [show (decide (to = fr + (wd k).length) && wh_B lt (wd k) fr (wd k).length 0) = false from hb, b2i_f] at hI
      simp only [s_X7_verbHere_0, s_X7_verbHere_1, s_X7_verbHere_3, s_X7_verbHere_5, s_X7_verbHere_8, s_X7_verbHere_9, s_X7_verbHere_10, s_X7_verbHere_13, s_X7_verbHere_16, s_X7_verbHere_19, s_X7_verbHere_20, s_X7_verbHere_21, s_X7_verbHere_24, s_X7_verbHere_27, s_X7_verbHere_28, Option.isSome_some, Option.getD_some, sm_clr_i, sm_clr_r, sm_clr_n, sm_clr_o, sm_clr_l, sm_rr_some, sm_rh_some, Option.toList_some, Option.toList_none, List.cons_append, List.nil_append, List.map_cons, List.map_nil, List.sum_cons, List.sum_nil, sm_cat_i, sm_cat_r, sm_cat_n, sm_cat_l, Nat.reduceAdd, Nat.reduceLeDiff, Nat.zero_add, Nat.add_zero, if_true, if_false, not_true_eq_false, not_false_eq_true, and_self, true_and, and_true, hgt, hW, kc, hI, nI_1]
      exact ih (k + 1) (by omega)
theorem c_verbHere (S : tx_at h i len cl fr to ce pl lt vb nu) (hft : fr ≤ to) (hto : to ≤ len) : sm_call xs n_X7_verbHere [.ref i] h = some (some (.int (vh_F lt fr to 9 0)), h) := by
  rw [c0_X7_verbHere]
  simp only [s_X7_verbHere_0, s_X7_verbHere_1, s_X7_verbHere_3, s_X7_verbHere_5, s_X7_verbHere_8, s_X7_verbHere_9, s_X7_verbHere_10, s_X7_verbHere_13, s_X7_verbHere_16, s_X7_verbHere_19, s_X7_verbHere_20, s_X7_verbHere_21, s_X7_verbHere_24, s_X7_verbHere_27, s_X7_verbHere_28, Option.isSome_some, Option.getD_some, sm_clr_i, sm_clr_r, sm_clr_n, sm_clr_o, sm_clr_l, sm_rr_some, sm_rh_some, Option.toList_some, Option.toList_none, List.cons_append, List.nil_append, List.map_cons, List.map_nil, List.sum_cons, List.sum_nil, sm_cat_i, sm_cat_r, sm_cat_n, sm_cat_l, Nat.reduceAdd, Nat.reduceLeDiff, Nat.zero_add, Nat.add_zero, if_true, if_false, not_true_eq_false, not_false_eq_true, and_self, true_and, and_true]
  exact vh_loop S hft hto 9 0 (by omega)
end VERBS

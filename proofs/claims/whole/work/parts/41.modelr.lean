def md_len (A : Nat → List Int32) : Prop := (A 1).length = 16 ∧ (A 2).length = 40 ∧ (A 3).length = 16 ∧ (A 4).length = 40 ∧ (A 5).length = 40 ∧ (A 6).length = 160 ∧ (A 7).length = 320 ∧ (A 8).length = 80 ∧ (A 9).length = 2 ∧ (A 10).length = 9 ∧ (A 11).length = 6 ∧ (A 12).length = 6 ∧ (A 13).length = 32 ∧ (A 14).length = 5
section MODEL1
variable {xs : List Int32} {h : HH} {b : Nat} {I : Nat → Int32} {A : Nat → List Int32} {n p : Nat}
theorem c_mcells (S : md_at h b I A) (K : md_len A) : sm_call xs n_X10_cells [.ref b] h = some (some (.int ((A 1).getD 0 0)), h) := by
  have g := md_a1 S
  have i0 : sm_inr (some (A 1)) 0 = true := sm_inr_nI (k := 0) (by have := K.1; omega) (by have := K.1; omega)
  have e0 : sm_el (some (A 1)) 0 = (A 1).getD 0 0 := sm_el_nI (k := 0) (by omega)
  rw [c0_X10_cells]
  simp only [s_X10_cells_0, s_X10_cells_1, s_X10_cells_4, s_X10_cells_5, s_X10_cells_6, Option.isSome_some, Option.getD_some, sm_clr_i, sm_clr_r, sm_clr_n, sm_clr_o, sm_clr_l, sm_rr_some, sm_rh_some, Option.toList_some, Option.toList_none, List.cons_append, List.nil_append, List.map_cons, List.map_nil, List.sum_cons, List.sum_nil, sm_cat_i, sm_cat_r, sm_cat_n, sm_cat_l, Nat.reduceAdd, Nat.reduceLeDiff, Nat.zero_add, Nat.add_zero, if_true, if_false, not_true_eq_false, not_false_eq_true, and_self, true_and, and_true, md_f0 S, g, i0, e0]
theorem c_mplayers (S : md_at h b I A) (K : md_len A) : sm_call xs n_X10_players [.ref b] h = some (some (.int ((A 1).getD 10 0)), h) := by
  have g := md_a1 S
  have i0 : sm_inr (some (A 1)) 10 = true := sm_inr_nI (k := 10) (by have := K.1; omega) (by have := K.1; omega)
  have e0 : sm_el (some (A 1)) 10 = (A 1).getD 10 0 := sm_el_nI (k := 10) (by omega)
  rw [c0_X10_players]
  simp only [s_X10_players_0, s_X10_players_1, s_X10_players_4, s_X10_players_6, s_X10_players_7, Option.isSome_some, Option.getD_some, sm_clr_i, sm_clr_r, sm_clr_n, sm_clr_o, sm_clr_l, sm_rr_some, sm_rh_some, Option.toList_some, Option.toList_none, List.cons_append, List.nil_append, List.map_cons, List.map_nil, List.sum_cons, List.sum_nil, sm_cat_i, sm_cat_r, sm_cat_n, sm_cat_l, Nat.reduceAdd, Nat.reduceLeDiff, Nat.zero_add, Nat.add_zero, if_true, if_false, not_true_eq_false, not_false_eq_true, and_self, true_and, and_true, md_f0 S, g, i0, e0]
theorem l_ti (x : Int32) : x.toInt64.toInt = x.toInt := by simp
theorem in_C {c : Int32} {n : Nat} (hn : n < 2 ^ 31) : in_B c.toInt64 0 (nI n - 1).toInt64 = hs_C n c := by
  unfold in_B hs_C
  apply decide_eq_decide.mpr
  rw [Int64.le_iff_toInt_le, Int64.le_iff_toInt_le, Int32.le_iff_toInt_le, Int32.lt_iff_toInt_lt]
  simp only [l_ti]
  have h1 : (nI n - 1).toInt = (n : Int) - 1 := by
    cases n with
    | zero => rfl
    | succ k => rw [nI_pred, nI_toInt (by omega)]; omega
  rw [h1, nI_toInt hn]
  have h0 : (0 : Int64).toInt = 0 := rfl
  have h2 : (0 : Int32).toInt = 0 := rfl
  rw [h0, h2]
  omega
theorem c_misCell (S : md_at h b I A) (K : md_len A) (hn : (A 1).getD 0 0 = nI n) (hn9 : n ≤ 9) (c : Int32) : sm_call xs n_X10_isCell [.ref b, .int c] h = some (some (.int (b2i (hs_C n c))), h) := by
  have h1 := c_mcells (xs := xs) S K
  rw [hn] at h1
  have h2 := c_in (xs := xs) (h := h) c.toInt64 0 (nI n - 1).toInt64
  rw [in_C (by omega)] at h2
  rw [c0_X10_isCell]
  cases hb : hs_C n c with
  | false => rw [hb, b2i_f] at h2; simp only [s_X10_isCell_0, s_X10_isCell_1, s_X10_isCell_2, s_X10_isCell_3, s_X10_isCell_4, s_X10_isCell_7, s_X10_isCell_8, s_X10_isCell_9, s_X10_isCell_10, s_X10_isCell_13z0, s_X10_isCell_13z1, Option.isSome_some, Option.getD_some, sm_clr_i, sm_clr_r, sm_clr_n, sm_clr_o, sm_clr_l, sm_rr_some, sm_rh_some, Option.toList_some, Option.toList_none, List.cons_append, List.nil_append, List.map_cons, List.map_nil, List.sum_cons, List.sum_nil, sm_cat_i, sm_cat_r, sm_cat_n, sm_cat_l, Nat.reduceAdd, Nat.reduceLeDiff, Nat.zero_add, Nat.add_zero, if_true, if_false, not_true_eq_false, not_false_eq_true, and_self, true_and, and_true, md_c S, h1, h2]; rfl
  | true => rw [hb, b2i_t] at h2; simp only [s_X10_isCell_0, s_X10_isCell_1, s_X10_isCell_2, s_X10_isCell_3, s_X10_isCell_4, s_X10_isCell_7, s_X10_isCell_8, s_X10_isCell_9, s_X10_isCell_10, s_X10_isCell_13z0, s_X10_isCell_13z1, Option.isSome_some, Option.getD_some, sm_clr_i, sm_clr_r, sm_clr_n, sm_clr_o, sm_clr_l, sm_rr_some, sm_rh_some, Option.toList_some, Option.toList_none, List.cons_append, List.nil_append, List.map_cons, List.map_nil, List.sum_cons, List.sum_nil, sm_cat_i, sm_cat_r, sm_cat_n, sm_cat_l, Nat.reduceAdd, Nat.reduceLeDiff, Nat.zero_add, Nat.add_zero, if_true, if_false, not_true_eq_false, not_false_eq_true, and_self, true_and, and_true, md_c S, h1, h2]; rfl
theorem c_misPlayer (S : md_at h b I A) (K : md_len A) (hp : (A 1).getD 10 0 = nI p) (hp5 : p ≤ 5) (c : Int32) : sm_call xs n_X10_isPlayer [.ref b, .int c] h = some (some (.int (b2i (hs_C p c))), h) := by
  have h1 := c_mplayers (xs := xs) S K
  rw [hp] at h1
  have h2 := c_in (xs := xs) (h := h) c.toInt64 0 (nI p - 1).toInt64
  rw [in_C (by omega)] at h2
  rw [c0_X10_isPlayer]
  cases hb : hs_C p c with
  | false => rw [hb, b2i_f] at h2; simp only [s_X10_isPlayer_0, s_X10_isPlayer_1, s_X10_isPlayer_2, s_X10_isPlayer_3, s_X10_isPlayer_4, s_X10_isPlayer_7, s_X10_isPlayer_8, s_X10_isPlayer_9, s_X10_isPlayer_10, s_X10_isPlayer_13z0, s_X10_isPlayer_13z1, Option.isSome_some, Option.getD_some, sm_clr_i, sm_clr_r, sm_clr_n, sm_clr_o, sm_clr_l, sm_rr_some, sm_rh_some, Option.toList_some, Option.toList_none, List.cons_append, List.nil_append, List.map_cons, List.map_nil, List.sum_cons, List.sum_nil, sm_cat_i, sm_cat_r, sm_cat_n, sm_cat_l, Nat.reduceAdd, Nat.reduceLeDiff, Nat.zero_add, Nat.add_zero, if_true, if_false, not_true_eq_false, not_false_eq_true, and_self, true_and, and_true, md_c S, h1, h2]; rfl
  | true => rw [hb, b2i_t] at h2; simp only [s_X10_isPlayer_0, s_X10_isPlayer_1, s_X10_isPlayer_2, s_X10_isPlayer_3, s_X10_isPlayer_4, s_X10_isPlayer_7, s_X10_isPlayer_8, s_X10_isPlayer_9, s_X10_isPlayer_10, s_X10_isPlayer_13z0, s_X10_isPlayer_13z1, Option.isSome_some, Option.getD_some, sm_clr_i, sm_clr_r, sm_clr_n, sm_clr_o, sm_clr_l, sm_rr_some, sm_rh_some, Option.toList_some, Option.toList_none, List.cons_append, List.nil_append, List.map_cons, List.map_nil, List.sum_cons, List.sum_nil, sm_cat_i, sm_cat_r, sm_cat_n, sm_cat_l, Nat.reduceAdd, Nat.reduceLeDiff, Nat.zero_add, Nat.add_zero, if_true, if_false, not_true_eq_false, not_false_eq_true, and_self, true_and, and_true, md_c S, h1, h2]; rfl
theorem ix_11 (k m : Nat) (v : Int32) (hv : v = nI m) : v + nI k = nI (m + k) := by rw [hv, nI_add]
theorem c_mkind (S : md_at h b I A) (K : md_len A) {k : Nat} (hk : k < 5) : sm_call xs n_X10_kind [.ref b, .int (nI k)] h = some (some (.int ((A 1).getD (11 + k) 0)), h) := by
  have g := md_a1 S
  have i0 : sm_inr (some (A 1)) (nI (11 + k)) = true := sm_inr_nI (by have := K.1; omega) (by have := K.1; omega)
  have e0 : sm_el (some (A 1)) (nI (11 + k)) = (A 1).getD (11 + k) 0 := sm_el_nI (by omega)
  rw [c0_X10_kind]
  simp only [s_X10_kind_0, s_X10_kind_1, s_X10_kind_4, s_X10_kind_6, s_X10_kind_7, s_X10_kind_8, s_X10_kind_9, Option.isSome_some, Option.getD_some, sm_clr_i, sm_clr_r, sm_clr_n, sm_clr_o, sm_clr_l, sm_rr_some, sm_rh_some, Option.toList_some, Option.toList_none, List.cons_append, List.nil_append, List.map_cons, List.map_nil, List.sum_cons, List.sum_nil, sm_cat_i, sm_cat_r, sm_cat_n, sm_cat_l, Nat.reduceAdd, Nat.reduceLeDiff, Nat.zero_add, Nat.add_zero, if_true, if_false, not_true_eq_false, not_false_eq_true, and_self, true_and, and_true, md_f0 S, ix_11 k 11 11 rfl, g, i0, e0]
-- where a marble stops
theorem mr_loop (S : md_at h b I A) (K : md_len A) (hn : (A 1).getD 0 0 = nI n) (hn9 : n ≤ 9) {q : Nat} {w : List Int32} {f : Int32} (hq : sm_arr h q .int = some w) (hw : 9 ≤ w.length) (hw2 : w.length < 2 ^ 31) (sl : List Int32) (hsl : ∀ c, c < 9 → sl.getD c 0 = (A 1).getD (1 + c) 0) : ∀ (k c : Nat) (left a : Int32), c + k = n → a + 1 = nI c → sm_run xs n_X10_rolls 5 [some (.ref b), some (.ref q), some (.int f), some (.int left), some (.int a)] [] h = some (some (.int (rl_S w sl k c left a)), h) := by
  have hC := c_mcells (xs := xs) S K
  rw [hn] at hC
  have g := md_a1 S
  intro k
  induction k with
  | zero =>
    intro c left a hk ha
    rw [s_X10_rolls_5, rl_0]
    by_cases hl : left ≤ 0
    · rw [if_neg (Int32.not_lt.mpr hl)]
      simp only [s_X10_rolls_0, s_X10_rolls_1, s_X10_rolls_2, s_X10_rolls_3, s_X10_rolls_6, s_X10_rolls_9, s_X10_rolls_12, s_X10_rolls_14, s_X10_rolls_15, s_X10_rolls_18, s_X10_rolls_21, s_X10_rolls_22, s_X10_rolls_24, s_X10_rolls_25, s_X10_rolls_28, s_X10_rolls_30, s_X10_rolls_31, s_X10_rolls_32, s_X10_rolls_33, s_X10_rolls_34, s_X10_rolls_37, s_X10_rolls_38, s_X10_rolls_40, s_X10_rolls_41, s_X10_rolls_42, s_X10_rolls_43, s_X10_rolls_44, s_X10_rolls_45, s_X10_rolls_48, s_X10_rolls_50, Option.isSome_some, Option.getD_some, sm_clr_i, sm_clr_r, sm_clr_n, sm_clr_o, sm_clr_l, sm_rr_some, sm_rh_some, Option.toList_some, Option.toList_none, List.cons_append, List.nil_append, List.map_cons, List.map_nil, List.sum_cons, List.sum_nil, sm_cat_i, sm_cat_r, sm_cat_n, sm_cat_l, Nat.reduceAdd, Nat.reduceLeDiff, Nat.zero_add, Nat.add_zero, if_true, if_false, not_true_eq_false, not_false_eq_true, and_self, true_and, and_true, hl]
    · rw [if_pos (Int32.not_le.mp hl)]
      have hcn : nI c = nI n := by rw [show c = n by omega]
      simp only [s_X10_rolls_0, s_X10_rolls_1, s_X10_rolls_2, s_X10_rolls_3, s_X10_rolls_6, s_X10_rolls_9, s_X10_rolls_12, s_X10_rolls_14, s_X10_rolls_15, s_X10_rolls_18, s_X10_rolls_21, s_X10_rolls_22, s_X10_rolls_24, s_X10_rolls_25, s_X10_rolls_28, s_X10_rolls_30, s_X10_rolls_31, s_X10_rolls_32, s_X10_rolls_33, s_X10_rolls_34, s_X10_rolls_37, s_X10_rolls_38, s_X10_rolls_40, s_X10_rolls_41, s_X10_rolls_42, s_X10_rolls_43, s_X10_rolls_44, s_X10_rolls_45, s_X10_rolls_48, s_X10_rolls_50, Option.isSome_some, Option.getD_some, sm_clr_i, sm_clr_r, sm_clr_n, sm_clr_o, sm_clr_l, sm_rr_some, sm_rh_some, Option.toList_some, Option.toList_none, List.cons_append, List.nil_append, List.map_cons, List.map_nil, List.sum_cons, List.sum_nil, sm_cat_i, sm_cat_r, sm_cat_n, sm_cat_l, Nat.reduceAdd, Nat.reduceLeDiff, Nat.zero_add, Nat.add_zero, if_true, if_false, not_true_eq_false, not_false_eq_true, and_self, true_and, and_true, hl, ha, md_c S, hC, hcn]
  | succ k ih =>
    intro c left a hk ha
    have hne : ¬ nI c = nI n := fun e => by have := (nI_eq (by omega) (by omega)).mp e; omega
    have i1 : sm_inr (some w) (nI c) = true := sm_inr_nI (by omega) hw2
    have e1 : sm_el (some w) (nI c) = w.getD c 0 := sm_el_nI (by omega)
    have i2 : sm_inr (some (A 1)) (nI (1 + c)) = true := sm_inr_nI (by have := K.1; omega) (by have := K.1; omega)
    have e2 : sm_el (some (A 1)) (nI (1 + c)) = (A 1).getD (1 + c) 0 := sm_el_nI (by omega)
    rw [s_X10_rolls_5, rl_1]
    by_cases hl : left ≤ 0
    · rw [if_pos hl]
      simp only [s_X10_rolls_0, s_X10_rolls_1, s_X10_rolls_2, s_X10_rolls_3, s_X10_rolls_6, s_X10_rolls_9, s_X10_rolls_12, s_X10_rolls_14, s_X10_rolls_15, s_X10_rolls_18, s_X10_rolls_21, s_X10_rolls_22, s_X10_rolls_24, s_X10_rolls_25, s_X10_rolls_28, s_X10_rolls_30, s_X10_rolls_31, s_X10_rolls_32, s_X10_rolls_33, s_X10_rolls_34, s_X10_rolls_37, s_X10_rolls_38, s_X10_rolls_40, s_X10_rolls_41, s_X10_rolls_42, s_X10_rolls_43, s_X10_rolls_44, s_X10_rolls_45, s_X10_rolls_48, s_X10_rolls_50, Option.isSome_some, Option.getD_some, sm_clr_i, sm_clr_r, sm_clr_n, sm_clr_o, sm_clr_l, sm_rr_some, sm_rh_some, Option.toList_some, Option.toList_none, List.cons_append, List.nil_append, List.map_cons, List.map_nil, List.sum_cons, List.sum_nil, sm_cat_i, sm_cat_r, sm_cat_n, sm_cat_l, Nat.reduceAdd, Nat.reduceLeDiff, Nat.zero_add, Nat.add_zero, if_true, if_false, not_true_eq_false, not_false_eq_true, and_self, true_and, and_true, hl]
    · rw [if_neg hl]
      by_cases hw0 : w.getD c 0 ≤ 0
      · rw [if_neg (Int32.not_lt.mpr hw0)]
        simp only [s_X10_rolls_0, s_X10_rolls_1, s_X10_rolls_2, s_X10_rolls_3, s_X10_rolls_6, s_X10_rolls_9, s_X10_rolls_12, s_X10_rolls_14, s_X10_rolls_15, s_X10_rolls_18, s_X10_rolls_21, s_X10_rolls_22, s_X10_rolls_24, s_X10_rolls_25, s_X10_rolls_28, s_X10_rolls_30, s_X10_rolls_31, s_X10_rolls_32, s_X10_rolls_33, s_X10_rolls_34, s_X10_rolls_37, s_X10_rolls_38, s_X10_rolls_40, s_X10_rolls_41, s_X10_rolls_42, s_X10_rolls_43, s_X10_rolls_44, s_X10_rolls_45, s_X10_rolls_48, s_X10_rolls_50, Option.isSome_some, Option.getD_some, sm_clr_i, sm_clr_r, sm_clr_n, sm_clr_o, sm_clr_l, sm_rr_some, sm_rh_some, Option.toList_some, Option.toList_none, List.cons_append, List.nil_append, List.map_cons, List.map_nil, List.sum_cons, List.sum_nil, sm_cat_i, sm_cat_r, sm_cat_n, sm_cat_l, Nat.reduceAdd, Nat.reduceLeDiff, Nat.zero_add, Nat.add_zero, if_true, if_false, not_true_eq_false, not_false_eq_true, and_self, true_and, and_true, hl, ha, md_c S, hC, hne, hq, i1, e1, hw0, md_f0 S, ix_11 c 1 1 rfl, g, i2, e2]
        rw [← hsl c (by omega)]
        have hr := ih (c + 1) (left + (1 - sl.getD c 0)) (nI c) (by omega) (nI_1 c)
        rw [hr]
        rw [show (2 : Int32) - sl.getD c 0 - 1 = 1 - sl.getD c 0 by
          have h1 : (2 : Int32) = 1 + 1 := rfl
          rw [h1]
          apply Int32.toBitVec_inj.mp
          simp only [Int32.toBitVec_sub, Int32.toBitVec_add]
          bv_omega]
      · rw [if_pos (Int32.not_le.mp hw0)]
        simp only [s_X10_rolls_0, s_X10_rolls_1, s_X10_rolls_2, s_X10_rolls_3, s_X10_rolls_6, s_X10_rolls_9, s_X10_rolls_12, s_X10_rolls_14, s_X10_rolls_15, s_X10_rolls_18, s_X10_rolls_21, s_X10_rolls_22, s_X10_rolls_24, s_X10_rolls_25, s_X10_rolls_28, s_X10_rolls_30, s_X10_rolls_31, s_X10_rolls_32, s_X10_rolls_33, s_X10_rolls_34, s_X10_rolls_37, s_X10_rolls_38, s_X10_rolls_40, s_X10_rolls_41, s_X10_rolls_42, s_X10_rolls_43, s_X10_rolls_44, s_X10_rolls_45, s_X10_rolls_48, s_X10_rolls_50, Option.isSome_some, Option.getD_some, sm_clr_i, sm_clr_r, sm_clr_n, sm_clr_o, sm_clr_l, sm_rr_some, sm_rh_some, Option.toList_some, Option.toList_none, List.cons_append, List.nil_append, List.map_cons, List.map_nil, List.sum_cons, List.sum_nil, sm_cat_i, sm_cat_r, sm_cat_n, sm_cat_l, Nat.reduceAdd, Nat.reduceLeDiff, Nat.zero_add, Nat.add_zero, if_true, if_false, not_true_eq_false, not_false_eq_true, and_self, true_and, and_true, hl, ha, md_c S, hC, hne, hq, i1, e1, hw0]
end MODEL1

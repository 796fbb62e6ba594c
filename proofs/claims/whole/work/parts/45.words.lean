-- words
section WORDS
variable {xs : List Int32} {h : HH} {i len cl fr to ce pl : Nat} {lt vb nu : List Int32}
def wd (k : Nat) : List Int32 := sm_strs.getD k []
def wh_B (lt w : List Int32) (fr : Nat) : Nat → Nat → Bool
  | 0, _ => true
  | f + 1, j => decide (lt.getD (fr + j) 0 = w.getD j 0) && wh_B lt w fr f (j + 1)
theorem wd_len {k : Nat} (hk : k < 9) : (wd k).length ≤ 6 := by
  have : ∀ k, k < 9 → (wd k).length ≤ 6 := by decide
  exact this k hk
theorem wh_loop (S : tx_at h i len cl fr to ce pl lt vb nu) {k : Nat} (hk : k < 9) (hto : to ≤ len) (hf : to = fr + (wd k).length) : ∀ (f j : Nat), j + f = (wd k).length → sm_run xs n_X7_isHere 20 [some (.ref i), some (.ref (sm_B + k)), some (.int (nI j))] [] h = some (some (.int (b2i (wh_B lt (wd k) fr f j))), h) := by
  obtain ⟨kc, f0, f1, f2, f3, f4, f5, f6, f7, f8, g1, g2, g3⟩ := tx_fld S
  obtain ⟨-, -, -, -, L1, L2, L3, L4⟩ := id S
  have hw := wd_len hk
  intro f
  induction f with
  | zero =>
    intro j hj
    have hle : Int32.ofNat (sm_strs.getD k []).length ≤ nI j := nI_le (a := (wd k).length) (by omega) (by omega)
    rw [s_X7_isHere_20]
    simp only [s_X7_isHere_0, s_X7_isHere_1, s_X7_isHere_4, s_X7_isHere_5, s_X7_isHere_8, s_X7_isHere_9, s_X7_isHere_12, s_X7_isHere_13, s_X7_isHere_16, s_X7_isHere_17z0, s_X7_isHere_17z1, s_X7_isHere_18, s_X7_isHere_19, s_X7_isHere_21, s_X7_isHere_22, s_X7_isHere_25, s_X7_isHere_28, s_X7_isHere_29, s_X7_isHere_32, s_X7_isHere_33, s_X7_isHere_36, s_X7_isHere_37, s_X7_isHere_38, s_X7_isHere_39, s_X7_isHere_40, s_X7_isHere_41, s_X7_isHere_44, s_X7_isHere_47, s_X7_isHere_48z0, s_X7_isHere_48z1, s_X7_isHere_49, s_X7_isHere_52, s_X7_isHere_55, s_X7_isHere_56z0, s_X7_isHere_56z1, Option.isSome_some, Option.getD_some, sm_clr_i, sm_clr_r, sm_clr_n, sm_clr_o, sm_clr_l, sm_rr_some, sm_rh_some, Option.toList_some, Option.toList_none, List.cons_append, List.nil_append, List.map_cons, List.map_nil, List.sum_cons, List.sum_nil, sm_cat_i, sm_cat_r, sm_cat_n, sm_cat_l, Nat.reduceAdd, Nat.reduceLeDiff, Nat.zero_add, Nat.add_zero, if_true, if_false, not_true_eq_false, not_false_eq_true, and_self, true_and, and_true, hk, hle]
    rfl
  | succ f ih =>
    intro j hj
    have hle : ¬ Int32.ofNat (sm_strs.getD k []).length ≤ nI j := nI_ge (b := (wd k).length) (by omega) (by omega)
    have i1 : sm_inr (some lt) (nI (fr + j)) = true := sm_inr_nI (by omega) (by omega)
    have e1 : sm_el (some lt) (nI (fr + j)) = lt.getD (fr + j) 0 := sm_el_nI (by omega)
    have i2 : sm_inr (some (sm_strs.getD k [])) (nI j) = true := sm_inr_nI (l := wd k) (by omega) (by omega)
    have e2 : sm_el (some (sm_strs.getD k [])) (nI j) = (wd k).getD j 0 := sm_el_nI (l := wd k) (by omega)
    rw [s_X7_isHere_20]
    simp only [s_X7_isHere_0, s_X7_isHere_1, s_X7_isHere_4, s_X7_isHere_5, s_X7_isHere_8, s_X7_isHere_9, s_X7_isHere_12, s_X7_isHere_13, s_X7_isHere_16, s_X7_isHere_17z0, s_X7_isHere_17z1, s_X7_isHere_18, s_X7_isHere_19, s_X7_isHere_21, s_X7_isHere_22, s_X7_isHere_25, s_X7_isHere_28, s_X7_isHere_29, s_X7_isHere_32, s_X7_isHere_33, s_X7_isHere_36, s_X7_isHere_37, s_X7_isHere_38, s_X7_isHere_39, s_X7_isHere_40, s_X7_isHere_41, s_X7_isHere_44, s_X7_isHere_47, s_X7_isHere_48z0, s_X7_isHere_48z1, s_X7_isHere_49, s_X7_isHere_52, s_X7_isHere_55, s_X7_isHere_56z0, s_X7_isHere_56z1, Option.isSome_some, Option.getD_some, sm_clr_i, sm_clr_r, sm_clr_n, sm_clr_o, sm_clr_l, sm_rr_some, sm_rh_some, Option.toList_some, Option.toList_none, List.cons_append, List.nil_append, List.map_cons, List.map_nil, List.sum_cons, List.sum_nil, sm_cat_i, sm_cat_r, sm_cat_n, sm_cat_l, Nat.reduceAdd, Nat.reduceLeDiff, Nat.zero_add, Nat.add_zero, if_true, if_false, not_true_eq_false, not_false_eq_true, and_self, true_and, and_true, hk, hle, f2, f5, nI_add, g1, i1, e1, i2, e2, nI_1]
    show _ = some (some (Value.int (b2i (decide (lt.getD (fr + j) 0 = (wd k).getD j 0) && wh_B lt (wd k) fr f (j + 1)))), h)
    by_cases hq : lt.getD (fr + j) 0 = (wd k).getD j 0
    · rw [if_pos hq, decide_eq_true hq, Bool.true_and]
      exact ih (j + 1) (by omega)
    · rw [if_neg hq, decide_eq_false hq, Bool.false_and]
      rfl
theorem c_isHere (S : tx_at h i len cl fr to ce pl lt vb nu) {k : Nat} (hk : k < 9) (hft : fr ≤ to) (hto : to ≤ len) : sm_call xs n_X7_isHere [.ref i, .ref (sm_B + k)] h = some (some (.int (b2i (decide (to = fr + (wd k).length) && wh_B lt (wd k) fr (wd k).length 0))), h) := by
  obtain ⟨kc, f0, f1, f2, f3, f4, f5, f6, f7, f8, g1, g2, g3⟩ := tx_fld S
  obtain ⟨-, -, -, -, L1, L2, L3, L4⟩ := id S
  have hw := wd_len hk
  rw [c0_X7_isHere]
  by_cases hq : to = fr + (wd k).length
  · have he : Int32.ofNat (sm_strs.getD k []).length = nI (to - fr) := by rw [show to - fr = (wd k).length by omega]; rfl
    rw [decide_eq_true hq, Bool.true_and]
    simp only [s_X7_isHere_0, s_X7_isHere_1, s_X7_isHere_4, s_X7_isHere_5, s_X7_isHere_8, s_X7_isHere_9, s_X7_isHere_12, s_X7_isHere_13, s_X7_isHere_16, s_X7_isHere_17z0, s_X7_isHere_17z1, s_X7_isHere_18, s_X7_isHere_19, s_X7_isHere_21, s_X7_isHere_22, s_X7_isHere_25, s_X7_isHere_28, s_X7_isHere_29, s_X7_isHere_32, s_X7_isHere_33, s_X7_isHere_36, s_X7_isHere_37, s_X7_isHere_38, s_X7_isHere_39, s_X7_isHere_40, s_X7_isHere_41, s_X7_isHere_44, s_X7_isHere_47, s_X7_isHere_48z0, s_X7_isHere_48z1, s_X7_isHere_49, s_X7_isHere_52, s_X7_isHere_55, s_X7_isHere_56z0, s_X7_isHere_56z1, Option.isSome_some, Option.getD_some, sm_clr_i, sm_clr_r, sm_clr_n, sm_clr_o, sm_clr_l, sm_rr_some, sm_rh_some, Option.toList_some, Option.toList_none, List.cons_append, List.nil_append, List.map_cons, List.map_nil, List.sum_cons, List.sum_nil, sm_cat_i, sm_cat_r, sm_cat_n, sm_cat_l, Nat.reduceAdd, Nat.reduceLeDiff, Nat.zero_add, Nat.add_zero, if_true, if_false, not_true_eq_false, not_false_eq_true, and_self, true_and, and_true, hk, f6, f5, pk_sub hft, he]
    exact wh_loop S hk hto hq (wd k).length 0 (by omega)
  · have he : ¬ Int32.ofNat (sm_strs.getD k []).length = nI (to - fr) := fun e => by
      have := (nI_eq (a := (wd k).length) (b := to - fr) (by omega) (by omega)).mp e
      omega
    rw [decide_eq_false hq, Bool.false_and]
    simp only [s_X7_isHere_0, s_X7_isHere_1, s_X7_isHere_4, s_X7_isHere_5, s_X7_isHere_8, s_X7_isHere_9, s_X7_isHere_12, s_X7_isHere_13, s_X7_isHere_16, s_X7_isHere_17z0, s_X7_isHere_17z1, s_X7_isHere_18, s_X7_isHere_19, s_X7_isHere_21, s_X7_isHere_22, s_X7_isHere_25, s_X7_isHere_28, s_X7_isHere_29, s_X7_isHere_32, s_X7_isHere_33, s_X7_isHere_36, s_X7_isHere_37, s_X7_isHere_38, s_X7_isHere_39, s_X7_isHere_40, s_X7_isHere_41, s_X7_isHere_44, s_X7_isHere_47, s_X7_isHere_48z0, s_X7_isHere_48z1, s_X7_isHere_49, s_X7_isHere_52, s_X7_isHere_55, s_X7_isHere_56z0, s_X7_isHere_56z1, Option.isSome_some, Option.getD_some, sm_clr_i, sm_clr_r, sm_clr_n, sm_clr_o, sm_clr_l, sm_rr_some, sm_rh_some, Option.toList_some, Option.toList_none, List.cons_append, List.nil_append, List.map_cons, List.map_nil, List.sum_cons, List.sum_nil, sm_cat_i, sm_cat_r, sm_cat_n, sm_cat_l, Nat.reduceAdd, Nat.reduceLeDiff, Nat.zero_add, Nat.add_zero, if_true, if_false, not_true_eq_false, not_false_eq_true, and_self, true_and, and_true, hk, f6, f5, pk_sub hft, he]
    rfl
end WORDS

-- heaps: one cell written
theorem hp_ne {h : HH} {i j : Nat} {e : AE} (hij : i ≠ j) : (h.set i e)[j]? = h[j]? := List.getElem?_set_ne hij
theorem hp_eq {h : HH} {i : Nat} {e f : AE} (hi : h[i]? = some f) : (h.set i e)[i]? = some e := by
  rw [List.getElem?_set_self (List.getElem?_eq_some_iff.mp hi).1]
theorem hp_same {h : HH} {i : Nat} {e : AE} (hi : h[i]? = some e) : h.set i e = h := by
  apply List.ext_getElem?
  intro j
  by_cases hij : i = j
  · subst hij; rw [hp_eq hi, hi]
  · rw [hp_ne hij]
theorem sm_aset_nI {h : HH} {a j : Nat} {l : List Int32} {x : Int32} (hj : j < 2 ^ 31) : sm_aset h a .int (some l) (nI j) x = h.set a (.inl (.int, l.set j x)) := by
  unfold sm_aset
  dsimp only
  rw [nI_clamp hj]
  rfl
theorem sm_arr_set {h : HH} {a : Nat} {l m : List Int32} (hi : h[a]? = some (.inl (.int, l))) : sm_arr (h.set a (.inl (.int, m))) a .int = some m := by
  unfold sm_arr
  rw [hp_eq hi]
  rfl
-- Arrays.fill
theorem fl_list (l : List Int32) (v : Int32) {j : Nat} (hj : j < l.length) : (List.replicate j v ++ l.drop j).set j v = List.replicate (j + 1) v ++ l.drop (j + 1) := by
  rw [List.set_append_right _ _ (by simp)]
  simp only [List.length_replicate, Nat.sub_self]
  rw [List.drop_eq_getElem_cons hj, List.set_cons_zero, List.replicate_succ', List.append_assoc]
  rfl
theorem fl_loop {xs : List Int32} {h : HH} {a : Nat} {l : List Int32} {v : Int32} (ha : h[a]? = some (.inl (.int, l))) (hl : l.length < 2 ^ 31) : ∀ (k j : Nat), j + k = l.length → sm_run xs n_J7_fill_53178 5 [some (.ref a), some (.int v), some (.int (nI j)), some (.int (nI l.length))] [] (h.set a (.inl (.int, List.replicate j v ++ l.drop j))) = some (none, h.set a (.inl (.int, List.replicate l.length v))) := by
  intro k
  induction k with
  | zero =>
    intro j hj
    have hle : nI l.length ≤ nI j := nI_le (by omega) (by omega)
    rw [s_J7_fill_53178_5]
    simp only [s_J7_fill_53178_0, s_J7_fill_53178_1, s_J7_fill_53178_2, s_J7_fill_53178_3, s_J7_fill_53178_4, s_J7_fill_53178_6, s_J7_fill_53178_7, s_J7_fill_53178_10, s_J7_fill_53178_11, s_J7_fill_53178_12, s_J7_fill_53178_13, s_J7_fill_53178_14, s_J7_fill_53178_17, s_J7_fill_53178_20, Option.isSome_some, Option.getD_some, sm_clr_i, sm_clr_r, sm_clr_n, sm_clr_o, sm_clr_l, sm_rr_some, sm_rh_some, Option.toList_some, Option.toList_none, List.cons_append, List.nil_append, List.map_cons, List.map_nil, List.sum_cons, List.sum_nil, sm_cat_i, sm_cat_r, sm_cat_n, sm_cat_l, Nat.reduceAdd, Nat.reduceLeDiff, Nat.zero_add, Nat.add_zero, if_true, if_false, not_true_eq_false, not_false_eq_true, and_self, true_and, and_true, hle]
    rw [show j = l.length by omega]
    simp
  | succ k ih =>
    intro j hj
    have hle : ¬ nI l.length ≤ nI j := nI_ge (by omega) (by omega)
    have g1 := sm_arr_set (m := List.replicate j v ++ l.drop j) ha
    have e1 : sm_inr (some (List.replicate j v ++ l.drop j)) (nI j) = true := sm_inr_nI (by simp; omega) (by simp; omega)
    rw [s_J7_fill_53178_5]
    simp only [s_J7_fill_53178_0, s_J7_fill_53178_1, s_J7_fill_53178_2, s_J7_fill_53178_3, s_J7_fill_53178_4, s_J7_fill_53178_6, s_J7_fill_53178_7, s_J7_fill_53178_10, s_J7_fill_53178_11, s_J7_fill_53178_12, s_J7_fill_53178_13, s_J7_fill_53178_14, s_J7_fill_53178_17, s_J7_fill_53178_20, Option.isSome_some, Option.getD_some, sm_clr_i, sm_clr_r, sm_clr_n, sm_clr_o, sm_clr_l, sm_rr_some, sm_rh_some, Option.toList_some, Option.toList_none, List.cons_append, List.nil_append, List.map_cons, List.map_nil, List.sum_cons, List.sum_nil, sm_cat_i, sm_cat_r, sm_cat_n, sm_cat_l, Nat.reduceAdd, Nat.reduceLeDiff, Nat.zero_add, Nat.add_zero, if_true, if_false, not_true_eq_false, not_false_eq_true, and_self, true_and, and_true, hle, g1, e1, sm_aset_nI (show j < 2 ^ 31 by omega), List.set_set, nI_1, fl_list l v (show j < l.length by omega)]
    exact ih (j + 1) (by omega)
theorem c_fill {xs : List Int32} {h : HH} {a : Nat} {l : List Int32} {v : Int32} (ha : h[a]? = some (.inl (.int, l))) (hl : l.length < 2 ^ 31) : sm_call xs n_J7_fill_53178 [.ref a, .int v] h = some (none, h.set a (.inl (.int, List.replicate l.length v))) := by
  have g1 : sm_arr h a .int = some l := by unfold sm_arr; rw [ha]; rfl
  rw [c0_J7_fill_53178]
  simp only [s_J7_fill_53178_0, s_J7_fill_53178_1, s_J7_fill_53178_2, s_J7_fill_53178_3, s_J7_fill_53178_4, s_J7_fill_53178_6, s_J7_fill_53178_7, s_J7_fill_53178_10, s_J7_fill_53178_11, s_J7_fill_53178_12, s_J7_fill_53178_13, s_J7_fill_53178_14, s_J7_fill_53178_17, s_J7_fill_53178_20, Option.isSome_some, Option.getD_some, sm_clr_i, sm_clr_r, sm_clr_n, sm_clr_o, sm_clr_l, sm_rr_some, sm_rh_some, Option.toList_some, Option.toList_none, List.cons_append, List.nil_append, List.map_cons, List.map_nil, List.sum_cons, List.sum_nil, sm_cat_i, sm_cat_r, sm_cat_n, sm_cat_l, Nat.reduceAdd, Nat.reduceLeDiff, Nat.zero_add, Nat.add_zero, if_true, if_false, not_true_eq_false, not_false_eq_true, and_self, true_and, and_true, g1]
  have h1 := fl_loop (xs := xs) (v := v) ha hl l.length 0 (by omega)
  have h2 : h.set a (.inl (.int, List.replicate 0 v ++ l.drop 0)) = h := by
    simp only [List.replicate_zero, List.nil_append, List.drop_zero]
    exact hp_same ha
  rw [h2] at h1
  exact h1
section PATCHW
variable {xs : List Int32} {h : HH} {i : Nat} {P : PT} {n p : Nat}
-- writing a field or a row of a patch
def pt_setc (P : PT) (x : Int32) : PT := (x, P.2)
def pt_setp (P : PT) (x : Int32) : PT := (P.1, x, P.2.2)
def pt_sets (P : PT) (x : Int32) : PT := (P.1, P.2.1, x, P.2.2.2)
def pt_setsl (P : PT) (l : List Int32) : PT := (P.1, P.2.1, P.2.2.1, l, P.2.2.2.2)
def pt_setw (P : PT) (l : List Int32) : PT := (P.1, P.2.1, P.2.2.1, P.2.2.2.1, l, P.2.2.2.2.2)
def pt_setk (P : PT) (l : List Int32) : PT := (P.1, P.2.1, P.2.2.1, P.2.2.2.1, P.2.2.2.2.1, l, P.2.2.2.2.2.2)
def pt_setpu (P : PT) (l : List Int32) : PT := (P.1, P.2.1, P.2.2.1, P.2.2.2.1, P.2.2.2.2.1, P.2.2.2.2.2.1, l, P.2.2.2.2.2.2.2)
def pt_setd (P : PT) (l : List Int32) : PT := (P.1, P.2.1, P.2.2.1, P.2.2.2.1, P.2.2.2.2.1, P.2.2.2.2.2.1, P.2.2.2.2.2.2.1, l)
theorem pt_fset0 (H : pt_at h i P) (x : Int32) : sm_fset h i 0 (.int x) = h.set i (pt_O i (pt_setc P x)) ∧ pt_at (h.set i (pt_O i (pt_setc P x))) i (pt_setc P x) := by
  obtain ⟨h0, h1, h2, h3, h4, h5⟩ := H
  refine ⟨by unfold sm_fset; rw [h0]; rfl, hp_eq h0, ?_, ?_, ?_, ?_, ?_⟩
  · rw [hp_ne (by omega)]; exact h1
  · rw [hp_ne (by omega)]; exact h2
  · rw [hp_ne (by omega)]; exact h3
  · rw [hp_ne (by omega)]; exact h4
  · rw [hp_ne (by omega)]; exact h5
theorem pt_fset1 (H : pt_at h i P) (x : Int32) : sm_fset h i 1 (.int x) = h.set i (pt_O i (pt_setp P x)) ∧ pt_at (h.set i (pt_O i (pt_setp P x))) i (pt_setp P x) := by
  obtain ⟨h0, h1, h2, h3, h4, h5⟩ := H
  refine ⟨by unfold sm_fset; rw [h0]; rfl, hp_eq h0, ?_, ?_, ?_, ?_, ?_⟩
  · rw [hp_ne (by omega)]; exact h1
  · rw [hp_ne (by omega)]; exact h2
  · rw [hp_ne (by omega)]; exact h3
  · rw [hp_ne (by omega)]; exact h4
  · rw [hp_ne (by omega)]; exact h5
theorem pt_fset2 (H : pt_at h i P) (x : Int32) : sm_fset h i 2 (.int x) = h.set i (pt_O i (pt_sets P x)) ∧ pt_at (h.set i (pt_O i (pt_sets P x))) i (pt_sets P x) := by
  obtain ⟨h0, h1, h2, h3, h4, h5⟩ := H
  refine ⟨by unfold sm_fset; rw [h0]; rfl, hp_eq h0, ?_, ?_, ?_, ?_, ?_⟩
  · rw [hp_ne (by omega)]; exact h1
  · rw [hp_ne (by omega)]; exact h2
  · rw [hp_ne (by omega)]; exact h3
  · rw [hp_ne (by omega)]; exact h4
  · rw [hp_ne (by omega)]; exact h5
theorem pt_aset1 (H : pt_at h i P) (l : List Int32) : pt_at (h.set (i + 1) (.inl (.int, l))) i (pt_setsl P l) := by
  obtain ⟨h0, h1, h2, h3, h4, h5⟩ := H
  refine ⟨?_, hp_eq h1, ?_, ?_, ?_, ?_⟩
  · rw [hp_ne (by omega)]; exact h0
  · rw [hp_ne (by omega)]; exact h2
  · rw [hp_ne (by omega)]; exact h3
  · rw [hp_ne (by omega)]; exact h4
  · rw [hp_ne (by omega)]; exact h5
theorem pt_aset2 (H : pt_at h i P) (l : List Int32) : pt_at (h.set (i + 2) (.inl (.int, l))) i (pt_setw P l) := by
  obtain ⟨h0, h1, h2, h3, h4, h5⟩ := H
  refine ⟨?_, ?_, hp_eq h2, ?_, ?_, ?_⟩
  · rw [hp_ne (by omega)]; exact h0
  · rw [hp_ne (by omega)]; exact h1
  · rw [hp_ne (by omega)]; exact h3
  · rw [hp_ne (by omega)]; exact h4
  · rw [hp_ne (by omega)]; exact h5
theorem pt_aset3 (H : pt_at h i P) (l : List Int32) : pt_at (h.set (i + 3) (.inl (.int, l))) i (pt_setk P l) := by
  obtain ⟨h0, h1, h2, h3, h4, h5⟩ := H
  refine ⟨?_, ?_, ?_, hp_eq h3, ?_, ?_⟩
  · rw [hp_ne (by omega)]; exact h0
  · rw [hp_ne (by omega)]; exact h1
  · rw [hp_ne (by omega)]; exact h2
  · rw [hp_ne (by omega)]; exact h4
  · rw [hp_ne (by omega)]; exact h5
theorem pt_aset4 (H : pt_at h i P) (l : List Int32) : pt_at (h.set (i + 4) (.inl (.int, l))) i (pt_setpu P l) := by
  obtain ⟨h0, h1, h2, h3, h4, h5⟩ := H
  refine ⟨?_, ?_, ?_, ?_, hp_eq h4, ?_⟩
  · rw [hp_ne (by omega)]; exact h0
  · rw [hp_ne (by omega)]; exact h1
  · rw [hp_ne (by omega)]; exact h2
  · rw [hp_ne (by omega)]; exact h3
  · rw [hp_ne (by omega)]; exact h5
theorem pt_aset5 (H : pt_at h i P) (l : List Int32) : pt_at (h.set (i + 5) (.inl (.int, l))) i (pt_setd P l) := by
  obtain ⟨h0, h1, h2, h3, h4, h5⟩ := H
  refine ⟨?_, ?_, ?_, ?_, ?_, hp_eq h5⟩
  · rw [hp_ne (by omega)]; exact h0
  · rw [hp_ne (by omega)]; exact h1
  · rw [hp_ne (by omega)]; exact h2
  · rw [hp_ne (by omega)]; exact h3
  · rw [hp_ne (by omega)]; exact h4
-- two players
def hs_P (p : Nat) (a b : Int32) : Bool := hs_C p a && (hs_C p b && decide (a ≠ b))
theorem c_hasPair (H : pt_at h i P) (K : pt_ok P n p) (a b : Int32) : sm_call xs n_X3_hasPair [.ref i, .int a, .int b] h = some (some (.int (b2i (hs_P p a b))), h) := by
  have hA := c_hasPlayer (xs := xs) H K a
  have hB := c_hasPlayer (xs := xs) H K b
  obtain ⟨kc, f0, f1, f2, f3, f4, f5, f6, f7⟩ := pt_fld H
  rw [c0_X3_hasPair]
  unfold hs_P
  cases ha : hs_C p a with
  | false =>
    rw [ha, b2i_f] at hA
    simp only [s_X3_hasPair_0, s_X3_hasPair_1, s_X3_hasPair_2, s_X3_hasPair_5, s_X3_hasPair_8, s_X3_hasPair_9, s_X3_hasPair_10, s_X3_hasPair_13, s_X3_hasPair_16, s_X3_hasPair_17, s_X3_hasPair_18, s_X3_hasPair_21, s_X3_hasPair_22, s_X3_hasPair_25, s_X3_hasPair_26z0, s_X3_hasPair_26z1, Option.isSome_some, Option.getD_some, sm_clr_i, sm_clr_r, sm_clr_n, sm_clr_o, sm_clr_l, sm_rr_some, sm_rh_some, Option.toList_some, Option.toList_none, List.cons_append, List.nil_append, List.map_cons, List.map_nil, List.sum_cons, List.sum_nil, sm_cat_i, sm_cat_r, sm_cat_n, sm_cat_l, Nat.reduceAdd, Nat.reduceLeDiff, Nat.zero_add, Nat.add_zero, if_true, if_false, not_true_eq_false, not_false_eq_true, and_self, true_and, and_true, kc, hA]
    rfl
  | true =>
    rw [ha, b2i_t] at hA
    cases hb : hs_C p b with
    | false =>
      rw [hb, b2i_f] at hB
      simp only [s_X3_hasPair_0, s_X3_hasPair_1, s_X3_hasPair_2, s_X3_hasPair_5, s_X3_hasPair_8, s_X3_hasPair_9, s_X3_hasPair_10, s_X3_hasPair_13, s_X3_hasPair_16, s_X3_hasPair_17, s_X3_hasPair_18, s_X3_hasPair_21, s_X3_hasPair_22, s_X3_hasPair_25, s_X3_hasPair_26z0, s_X3_hasPair_26z1, Option.isSome_some, Option.getD_some, sm_clr_i, sm_clr_r, sm_clr_n, sm_clr_o, sm_clr_l, sm_rr_some, sm_rh_some, Option.toList_some, Option.toList_none, List.cons_append, List.nil_append, List.map_cons, List.map_nil, List.sum_cons, List.sum_nil, sm_cat_i, sm_cat_r, sm_cat_n, sm_cat_l, Nat.reduceAdd, Nat.reduceLeDiff, Nat.zero_add, Nat.add_zero, if_true, if_false, not_true_eq_false, not_false_eq_true, and_self, true_and, and_true, kc, hA, hB]
      rfl
    | true =>
      rw [hb, b2i_t] at hB
      by_cases hab : a = b
      · subst hab
        simp only [s_X3_hasPair_0, s_X3_hasPair_1, s_X3_hasPair_2, s_X3_hasPair_5, s_X3_hasPair_8, s_X3_hasPair_9, s_X3_hasPair_10, s_X3_hasPair_13, s_X3_hasPair_16, s_X3_hasPair_17, s_X3_hasPair_18, s_X3_hasPair_21, s_X3_hasPair_22, s_X3_hasPair_25, s_X3_hasPair_26z0, s_X3_hasPair_26z1, Option.isSome_some, Option.getD_some, sm_clr_i, sm_clr_r, sm_clr_n, sm_clr_o, sm_clr_l, sm_rr_some, sm_rh_some, Option.toList_some, Option.toList_none, List.cons_append, List.nil_append, List.map_cons, List.map_nil, List.sum_cons, List.sum_nil, sm_cat_i, sm_cat_r, sm_cat_n, sm_cat_l, Nat.reduceAdd, Nat.reduceLeDiff, Nat.zero_add, Nat.add_zero, if_true, if_false, not_true_eq_false, not_false_eq_true, and_self, true_and, and_true, kc, hA]
        simp [b2i]
      · simp only [s_X3_hasPair_0, s_X3_hasPair_1, s_X3_hasPair_2, s_X3_hasPair_5, s_X3_hasPair_8, s_X3_hasPair_9, s_X3_hasPair_10, s_X3_hasPair_13, s_X3_hasPair_16, s_X3_hasPair_17, s_X3_hasPair_18, s_X3_hasPair_21, s_X3_hasPair_22, s_X3_hasPair_25, s_X3_hasPair_26z0, s_X3_hasPair_26z1, Option.isSome_some, Option.getD_some, sm_clr_i, sm_clr_r, sm_clr_n, sm_clr_o, sm_clr_l, sm_rr_some, sm_rh_some, Option.toList_some, Option.toList_none, List.cons_append, List.nil_append, List.map_cons, List.map_nil, List.sum_cons, List.sum_nil, sm_cat_i, sm_cat_r, sm_cat_n, sm_cat_l, Nat.reduceAdd, Nat.reduceLeDiff, Nat.zero_add, Nat.add_zero, if_true, if_false, not_true_eq_false, not_false_eq_true, and_self, true_and, and_true, kc, hA, hB, hab]
        simp [b2i, hab]
theorem c_lay (H : pt_at h i P) (K : pt_ok P n p) (c v : Int32) : sm_call xs n_X3_lay [.ref i, .int c, .int v] h = some (none, if hs_C n c then h.set (i + 2) (.inl (.int, (pt_w P).set c.toNatClampNeg v)) else h) := by
  have hC := c_hasCell (xs := xs) H K c
  obtain ⟨hc, hp, hn, hp5, l1, l2, l3, l4, l5⟩ := K
  obtain ⟨kc, f0, f1, f2, f3, f4, f5, f6, f7⟩ := pt_fld H
  obtain ⟨g1, g2, g3, g4, g5⟩ := pt_arr H
  rw [c0_X3_lay]
  cases hb : hs_C n c with
  | false =>
    rw [hb, b2i_f] at hC
    simp only [s_X3_lay_0, s_X3_lay_1, s_X3_lay_2, s_X3_lay_5, s_X3_lay_8, s_X3_lay_9, s_X3_lay_12, s_X3_lay_13, s_X3_lay_14, s_X3_lay_15, Option.isSome_some, Option.getD_some, sm_clr_i, sm_clr_r, sm_clr_n, sm_clr_o, sm_clr_l, sm_rr_some, sm_rh_some, Option.toList_some, Option.toList_none, List.cons_append, List.nil_append, List.map_cons, List.map_nil, List.sum_cons, List.sum_nil, sm_cat_i, sm_cat_r, sm_cat_n, sm_cat_l, Nat.reduceAdd, Nat.reduceLeDiff, Nat.zero_add, Nat.add_zero, if_true, if_false, not_true_eq_false, not_false_eq_true, and_self, true_and, and_true, kc, hC]
    simp
  | true =>
    rw [hb, b2i_t] at hC
    obtain ⟨k, hk, rfl⟩ := hs_C_of hb (by omega)
    have e1 : sm_inr (some (pt_w P)) (nI k) = true := sm_inr_nI (by omega) (by omega)
    simp only [s_X3_lay_0, s_X3_lay_1, s_X3_lay_2, s_X3_lay_5, s_X3_lay_8, s_X3_lay_9, s_X3_lay_12, s_X3_lay_13, s_X3_lay_14, s_X3_lay_15, Option.isSome_some, Option.getD_some, sm_clr_i, sm_clr_r, sm_clr_n, sm_clr_o, sm_clr_l, sm_rr_some, sm_rh_some, Option.toList_some, Option.toList_none, List.cons_append, List.nil_append, List.map_cons, List.map_nil, List.sum_cons, List.sum_nil, sm_cat_i, sm_cat_r, sm_cat_n, sm_cat_l, Nat.reduceAdd, Nat.reduceLeDiff, Nat.zero_add, Nat.add_zero, if_true, if_false, not_true_eq_false, not_false_eq_true, and_self, true_and, and_true, kc, hC, f4, g2, e1, sm_aset_nI (show k < 2 ^ 31 by omega), nI_clamp (show k < 2 ^ 31 by omega)]
    simp
theorem c_tilt (H : pt_at h i P) (K : pt_ok P n p) (c v : Int32) : sm_call xs n_X3_tilt [.ref i, .int c, .int v] h = some (none, if hs_C n c then h.set (i + 1) (.inl (.int, (pt_sl P).set c.toNatClampNeg v)) else h) := by
  have hC := c_hasCell (xs := xs) H K c
  obtain ⟨hc, hp, hn, hp5, l1, l2, l3, l4, l5⟩ := K
  obtain ⟨kc, f0, f1, f2, f3, f4, f5, f6, f7⟩ := pt_fld H
  obtain ⟨g1, g2, g3, g4, g5⟩ := pt_arr H
  rw [c0_X3_tilt]
  cases hb : hs_C n c with
  | false =>
    rw [hb, b2i_f] at hC
    simp only [s_X3_tilt_0, s_X3_tilt_1, s_X3_tilt_2, s_X3_tilt_5, s_X3_tilt_8, s_X3_tilt_9, s_X3_tilt_12, s_X3_tilt_13, s_X3_tilt_14, s_X3_tilt_15, Option.isSome_some, Option.getD_some, sm_clr_i, sm_clr_r, sm_clr_n, sm_clr_o, sm_clr_l, sm_rr_some, sm_rh_some, Option.toList_some, Option.toList_none, List.cons_append, List.nil_append, List.map_cons, List.map_nil, List.sum_cons, List.sum_nil, sm_cat_i, sm_cat_r, sm_cat_n, sm_cat_l, Nat.reduceAdd, Nat.reduceLeDiff, Nat.zero_add, Nat.add_zero, if_true, if_false, not_true_eq_false, not_false_eq_true, and_self, true_and, and_true, kc, hC]
    simp
  | true =>
    rw [hb, b2i_t] at hC
    obtain ⟨k, hk, rfl⟩ := hs_C_of hb (by omega)
    have e1 : sm_inr (some (pt_sl P)) (nI k) = true := sm_inr_nI (by omega) (by omega)
    simp only [s_X3_tilt_0, s_X3_tilt_1, s_X3_tilt_2, s_X3_tilt_5, s_X3_tilt_8, s_X3_tilt_9, s_X3_tilt_12, s_X3_tilt_13, s_X3_tilt_14, s_X3_tilt_15, Option.isSome_some, Option.getD_some, sm_clr_i, sm_clr_r, sm_clr_n, sm_clr_o, sm_clr_l, sm_rr_some, sm_rh_some, Option.toList_some, Option.toList_none, List.cons_append, List.nil_append, List.map_cons, List.map_nil, List.sum_cons, List.sum_nil, sm_cat_i, sm_cat_r, sm_cat_n, sm_cat_l, Nat.reduceAdd, Nat.reduceLeDiff, Nat.zero_add, Nat.add_zero, if_true, if_false, not_true_eq_false, not_false_eq_true, and_self, true_and, and_true, kc, hC, f3, g1, e1, sm_aset_nI (show k < 2 ^ 31 by omega), nI_clamp (show k < 2 ^ 31 by omega)]
    simp
end PATCHW

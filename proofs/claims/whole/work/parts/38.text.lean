-- the text: letters (160 chars), clauses as they were read
def tx_at (h : HH) (i len cl fr to ce pl : Nat) (lt vb nu : List Int32) : Prop := h[i]? = some (.inr (.inr (7, [.int (nI len), .int (nI cl), .ref (i + 1), .ref (i + 2), .ref (i + 3), .int (nI fr), .int (nI to), .int (nI ce), .int (nI pl)]))) ∧ h[i + 1]? = some (.inl (.char, lt)) ∧ h[i + 2]? = some (.inl (.int, vb)) ∧ h[i + 3]? = some (.inl (.int, nu)) ∧ lt.length = 160 ∧ vb.length = 14 ∧ nu.length = 42 ∧ len ≤ 160
section TEXT
variable {xs : List Int32} {h : HH} {i len cl fr to ce pl : Nat} {lt vb nu : List Int32}
theorem tx_fld (S : tx_at h i len cl fr to ce pl lt vb nu) : sm_cls h i = some 7 ∧ sm_fld h i 7 0 = some (.int (nI len)) ∧ sm_fld h i 7 1 = some (.int (nI cl)) ∧ sm_fld h i 7 2 = some (.ref (i + 1)) ∧ sm_fld h i 7 3 = some (.ref (i + 2)) ∧ sm_fld h i 7 4 = some (.ref (i + 3)) ∧ sm_fld h i 7 5 = some (.int (nI fr)) ∧ sm_fld h i 7 6 = some (.int (nI to)) ∧ sm_fld h i 7 7 = some (.int (nI ce)) ∧ sm_fld h i 7 8 = some (.int (nI pl)) ∧ sm_arr h (i + 1) .char = some lt ∧ sm_arr h (i + 2) .int = some vb ∧ sm_arr h (i + 3) .int = some nu := by
  obtain ⟨h0, h1, h2, h3, -⟩ := S
  refine ⟨by unfold sm_cls; rw [h0], fld_O h0 rfl, fld_O h0 rfl, fld_O h0 rfl, fld_O h0 rfl, fld_O h0 rfl, fld_O h0 rfl, fld_O h0 rfl, fld_O h0 rfl, fld_O h0 rfl, ?_, ?_, ?_⟩
  · unfold sm_arr; rw [h1]; rfl
  · unfold sm_arr; rw [h2]; rfl
  · unfold sm_arr; rw [h3]; rfl
theorem tx_len (S : tx_at h i len cl fr to ce pl lt vb nu) (v : Nat) (hv : v ≤ 160) : ∃ h', sm_fset h i 0 (.int (nI v)) = h' ∧ tx_at h' i v cl fr to ce pl lt vb nu ∧ hp_fc h h' i (i + 3) := by
  obtain ⟨h0, h1, h2, h3, l1, l2, l3, l4⟩ := S
  obtain ⟨h', w, o, n, q⟩ := fset_O (k := 0) (v := .int (nI v)) h0
  exact ⟨h', w, ⟨o, (q _ (by omega)).trans h1, (q _ (by omega)).trans h2, (q _ (by omega)).trans h3, l1, l2, l3, hv⟩, n, fun z hz => q z (by omega)⟩
theorem tx_cl (S : tx_at h i len cl fr to ce pl lt vb nu) (v : Nat) : ∃ h', sm_fset h i 1 (.int (nI v)) = h' ∧ tx_at h' i len v fr to ce pl lt vb nu ∧ hp_fc h h' i (i + 3) := by
  obtain ⟨h0, h1, h2, h3, l1, l2, l3, l4⟩ := S
  obtain ⟨h', w, o, n, q⟩ := fset_O (k := 1) (v := .int (nI v)) h0
  exact ⟨h', w, ⟨o, (q _ (by omega)).trans h1, (q _ (by omega)).trans h2, (q _ (by omega)).trans h3, l1, l2, l3, l4⟩, n, fun z hz => q z (by omega)⟩
theorem tx_fr (S : tx_at h i len cl fr to ce pl lt vb nu) (v : Nat) : ∃ h', sm_fset h i 5 (.int (nI v)) = h' ∧ tx_at h' i len cl v to ce pl lt vb nu ∧ hp_fc h h' i (i + 3) := by
  obtain ⟨h0, h1, h2, h3, l1, l2, l3, l4⟩ := S
  obtain ⟨h', w, o, n, q⟩ := fset_O (k := 5) (v := .int (nI v)) h0
  exact ⟨h', w, ⟨o, (q _ (by omega)).trans h1, (q _ (by omega)).trans h2, (q _ (by omega)).trans h3, l1, l2, l3, l4⟩, n, fun z hz => q z (by omega)⟩
theorem tx_to (S : tx_at h i len cl fr to ce pl lt vb nu) (v : Nat) : ∃ h', sm_fset h i 6 (.int (nI v)) = h' ∧ tx_at h' i len cl fr v ce pl lt vb nu ∧ hp_fc h h' i (i + 3) := by
  obtain ⟨h0, h1, h2, h3, l1, l2, l3, l4⟩ := S
  obtain ⟨h', w, o, n, q⟩ := fset_O (k := 6) (v := .int (nI v)) h0
  exact ⟨h', w, ⟨o, (q _ (by omega)).trans h1, (q _ (by omega)).trans h2, (q _ (by omega)).trans h3, l1, l2, l3, l4⟩, n, fun z hz => q z (by omega)⟩
theorem tx_ce (S : tx_at h i len cl fr to ce pl lt vb nu) (v : Nat) : ∃ h', sm_fset h i 7 (.int (nI v)) = h' ∧ tx_at h' i len cl fr to v pl lt vb nu ∧ hp_fc h h' i (i + 3) := by
  obtain ⟨h0, h1, h2, h3, l1, l2, l3, l4⟩ := S
  obtain ⟨h', w, o, n, q⟩ := fset_O (k := 7) (v := .int (nI v)) h0
  exact ⟨h', w, ⟨o, (q _ (by omega)).trans h1, (q _ (by omega)).trans h2, (q _ (by omega)).trans h3, l1, l2, l3, l4⟩, n, fun z hz => q z (by omega)⟩
theorem tx_pl (S : tx_at h i len cl fr to ce pl lt vb nu) (v : Nat) : ∃ h', sm_fset h i 8 (.int (nI v)) = h' ∧ tx_at h' i len cl fr to ce v lt vb nu ∧ hp_fc h h' i (i + 3) := by
  obtain ⟨h0, h1, h2, h3, l1, l2, l3, l4⟩ := S
  obtain ⟨h', w, o, n, q⟩ := fset_O (k := 8) (v := .int (nI v)) h0
  exact ⟨h', w, ⟨o, (q _ (by omega)).trans h1, (q _ (by omega)).trans h2, (q _ (by omega)).trans h3, l1, l2, l3, l4⟩, n, fun z hz => q z (by omega)⟩
-- sorts of letters
def so_F (x : Int32) : Int32 := if x < 97 then (if x < 48 then 0 else if 57 < x then 0 else 2) else if 122 < x then (if x < 48 then 0 else if 57 < x then 0 else 2) else 1
theorem c_sortOf (x : Int32) : sm_call xs n_X7_sortOf [.int x] h = some (some (.int (so_F x)), h) := by
  rw [c0_X7_sortOf]
  simp only [s_X7_sortOf_0, s_X7_sortOf_1, s_X7_sortOf_3, s_X7_sortOf_6, s_X7_sortOf_7, s_X7_sortOf_9, s_X7_sortOf_12, s_X7_sortOf_13, s_X7_sortOf_14, s_X7_sortOf_15, s_X7_sortOf_17, s_X7_sortOf_20, s_X7_sortOf_21, s_X7_sortOf_23, s_X7_sortOf_26, s_X7_sortOf_27, s_X7_sortOf_30, s_X7_sortOf_31, Option.isSome_some, Option.getD_some, sm_clr_i, sm_clr_r, sm_clr_n, sm_clr_o, sm_clr_l, sm_rr_some, sm_rh_some, Option.toList_some, Option.toList_none, List.cons_append, List.nil_append, List.map_cons, List.map_nil, List.sum_cons, List.sum_nil, sm_cat_i, sm_cat_r, sm_cat_n, sm_cat_l, Nat.reduceAdd, Nat.reduceLeDiff, Nat.zero_add, Nat.add_zero, if_true, if_false, not_true_eq_false, not_false_eq_true, and_self, true_and, and_true]
  unfold so_F
  by_cases h1 : x < 97
  · by_cases h2 : x < 48
    · simp only [h1, h2, if_true]
    · by_cases h3 : 57 < x
      · simp only [h1, h2, h3, if_true, if_false]
      · simp only [h1, h2, h3, if_true, if_false]
  · by_cases h4 : 122 < x
    · by_cases h2 : x < 48
      · simp only [h1, h2, h4, if_true, if_false]
      · by_cases h3 : 57 < x
        · simp only [h1, h2, h3, h4, if_true, if_false]
        · simp only [h1, h2, h3, h4, if_true, if_false]
    · simp only [h1, h4, if_true, if_false]
-- tokens
def sk_F (lt : List Int32) (len : Nat) : Nat → Nat → Nat
  | 0, k => k
  | f + 1, k => if lt.getD k 0 = 32 then sk_F lt len f (k + 1) else k
def te_F (lt : List Int32) (len : Nat) (s : Int32) : Nat → Nat → Nat
  | 0, k => k
  | f + 1, k => if so_F (lt.getD k 0) = s then te_F lt len s f (k + 1) else k
theorem sk_le (lt : List Int32) (len : Nat) : ∀ f k, k ≤ sk_F lt len f k ∧ sk_F lt len f k ≤ k + f := by
  intro f
  induction f with
  | zero => intro k; exact ⟨Nat.le_refl _, Nat.le_refl _⟩
  | succ f ih =>
    intro k
    unfold sk_F
    split
    · have := ih (k + 1); omega
    · omega
theorem te_le (lt : List Int32) (len : Nat) (s : Int32) : ∀ f k, k ≤ te_F lt len s f k ∧ te_F lt len s f k ≤ k + f := by
  intro f
  induction f with
  | zero => intro k; exact ⟨Nat.le_refl _, Nat.le_refl _⟩
  | succ f ih =>
    intro k
    unfold te_F
    split
    · have := ih (k + 1); omega
    · omega
theorem st_skip : ∀ (f k : Nat) (h : HH) (l1 : Option Value), tx_at h i len cl k to ce pl lt vb nu → k + f = len → ∃ h', sm_run xs n_X7_step 8 [some (.ref i), l1] [] h = sm_run xs n_X7_step 46 [some (.ref i), l1] [] h' ∧ tx_at h' i len cl (sk_F lt len f k) to ce pl lt vb nu ∧ hp_fc h h' i (i + 3) := by
  intro f
  induction f with
  | zero =>
    intro k h l1 S hk
    obtain ⟨kc, f0, f1, f2, f3, f4, f5, f6, f7, f8, g1, g2, g3⟩ := tx_fld S
    have hle : nI len ≤ nI k := nI_le (by omega) (by have := S.2.2.2.2.2.2.2; omega)
    refine ⟨h, ?_, S, hp_fc_rf _ _ _⟩
    rw [s_X7_step_8]
    simp only [s_X7_step_0, s_X7_step_1, s_X7_step_2, s_X7_step_5, s_X7_step_9, s_X7_step_12, s_X7_step_13, s_X7_step_16, s_X7_step_19, s_X7_step_20, s_X7_step_23, s_X7_step_24, s_X7_step_27, s_X7_step_28, s_X7_step_30, s_X7_step_33, s_X7_step_34, s_X7_step_34i, s_X7_step_35, s_X7_step_38, s_X7_step_39, s_X7_step_40, s_X7_step_43, s_X7_step_47, s_X7_step_48, s_X7_step_51, s_X7_step_54, s_X7_step_55, s_X7_step_58, s_X7_step_59, s_X7_step_62, s_X7_step_65, s_X7_step_66, s_X7_step_69, s_X7_step_70, s_X7_step_73, s_X7_step_74, s_X7_step_77, s_X7_step_78, s_X7_step_79, s_X7_step_79i, s_X7_step_80, s_X7_step_83, s_X7_step_84, s_X7_step_85, s_X7_step_88, s_X7_step_89, s_X7_step_92, s_X7_step_93, s_X7_step_96, s_X7_step_97, s_X7_step_100, s_X7_step_103, s_X7_step_104, s_X7_step_107, s_X7_step_108, s_X7_step_111, s_X7_step_112, s_X7_step_115, s_X7_step_116, s_X7_step_119, s_X7_step_120, s_X7_step_120i, s_X7_step_121, s_X7_step_124, s_X7_step_125, s_X7_step_126, s_X7_step_129, s_X7_step_132, Option.isSome_some, Option.getD_some, sm_clr_i, sm_clr_r, sm_clr_n, sm_clr_o, sm_clr_l, sm_rr_some, sm_rh_some, Option.toList_some, Option.toList_none, List.cons_append, List.nil_append, List.map_cons, List.map_nil, List.sum_cons, List.sum_nil, sm_cat_i, sm_cat_r, sm_cat_n, sm_cat_l, Nat.reduceAdd, Nat.reduceLeDiff, Nat.zero_add, Nat.add_zero, if_true, if_false, not_true_eq_false, not_false_eq_true, and_self, true_and, and_true, f5, f0, hle]
  | succ f ih =>
    intro k h l1 S hk
    obtain ⟨kc, f0, f1, f2, f3, f4, f5, f6, f7, f8, g1, g2, g3⟩ := tx_fld S
    obtain ⟨-, -, -, -, L1, L2, L3, L4⟩ := id S
    have hle : ¬ nI len ≤ nI k := nI_ge (by omega) (by omega)
    have i1 : sm_inr (some lt) (nI k) = true := sm_inr_nI (by omega) (by omega)
    have e1 : sm_el (some lt) (nI k) = lt.getD k 0 := sm_el_nI (by omega)
    by_cases hb : lt.getD k 0 = 32
    · obtain ⟨h1, w1, S1, r1⟩ := tx_fr S (k + 1)
      obtain ⟨h2, w2, S2, r2⟩ := ih (k + 1) h1 l1 S1 (by omega)
      refine ⟨h2, ?_, by unfold sk_F; rw [if_pos hb]; exact S2, hp_fc_tr r1 r2⟩
      rw [s_X7_step_8]
      simp only [s_X7_step_0, s_X7_step_1, s_X7_step_2, s_X7_step_5, s_X7_step_9, s_X7_step_12, s_X7_step_13, s_X7_step_16, s_X7_step_19, s_X7_step_20, s_X7_step_23, s_X7_step_24, s_X7_step_27, s_X7_step_28, s_X7_step_30, s_X7_step_33, s_X7_step_34, s_X7_step_34i, s_X7_step_35, s_X7_step_38, s_X7_step_39, s_X7_step_40, s_X7_step_43, s_X7_step_47, s_X7_step_48, s_X7_step_51, s_X7_step_54, s_X7_step_55, s_X7_step_58, s_X7_step_59, s_X7_step_62, s_X7_step_65, s_X7_step_66, s_X7_step_69, s_X7_step_70, s_X7_step_73, s_X7_step_74, s_X7_step_77, s_X7_step_78, s_X7_step_79, s_X7_step_79i, s_X7_step_80, s_X7_step_83, s_X7_step_84, s_X7_step_85, s_X7_step_88, s_X7_step_89, s_X7_step_92, s_X7_step_93, s_X7_step_96, s_X7_step_97, s_X7_step_100, s_X7_step_103, s_X7_step_104, s_X7_step_107, s_X7_step_108, s_X7_step_111, s_X7_step_112, s_X7_step_115, s_X7_step_116, s_X7_step_119, s_X7_step_120, s_X7_step_120i, s_X7_step_121, s_X7_step_124, s_X7_step_125, s_X7_step_126, s_X7_step_129, s_X7_step_132, Option.isSome_some, Option.getD_some, sm_clr_i, sm_clr_r, sm_clr_n, sm_clr_o, sm_clr_l, sm_rr_some, sm_rh_some, Option.toList_some, Option.toList_none, List.cons_append, List.nil_append, List.map_cons, List.map_nil, List.sum_cons, List.sum_nil, sm_cat_i, sm_cat_r, sm_cat_n, sm_cat_l, Nat.reduceAdd, Nat.reduceLeDiff, Nat.zero_add, Nat.add_zero, if_true, if_false, not_true_eq_false, not_false_eq_true, and_self, true_and, and_true, f5, f0, hle, f2, g1, i1, e1, hb, nI_1, w1]
      exact w2
    · refine ⟨h, ?_, by unfold sk_F; rw [if_neg hb]; exact S, hp_fc_rf _ _ _⟩
      rw [s_X7_step_8]
      simp only [s_X7_step_0, s_X7_step_1, s_X7_step_2, s_X7_step_5, s_X7_step_9, s_X7_step_12, s_X7_step_13, s_X7_step_16, s_X7_step_19, s_X7_step_20, s_X7_step_23, s_X7_step_24, s_X7_step_27, s_X7_step_28, s_X7_step_30, s_X7_step_33, s_X7_step_34, s_X7_step_34i, s_X7_step_35, s_X7_step_38, s_X7_step_39, s_X7_step_40, s_X7_step_43, s_X7_step_47, s_X7_step_48, s_X7_step_51, s_X7_step_54, s_X7_step_55, s_X7_step_58, s_X7_step_59, s_X7_step_62, s_X7_step_65, s_X7_step_66, s_X7_step_69, s_X7_step_70, s_X7_step_73, s_X7_step_74, s_X7_step_77, s_X7_step_78, s_X7_step_79, s_X7_step_79i, s_X7_step_80, s_X7_step_83, s_X7_step_84, s_X7_step_85, s_X7_step_88, s_X7_step_89, s_X7_step_92, s_X7_step_93, s_X7_step_96, s_X7_step_97, s_X7_step_100, s_X7_step_103, s_X7_step_104, s_X7_step_107, s_X7_step_108, s_X7_step_111, s_X7_step_112, s_X7_step_115, s_X7_step_116, s_X7_step_119, s_X7_step_120, s_X7_step_120i, s_X7_step_121, s_X7_step_124, s_X7_step_125, s_X7_step_126, s_X7_step_129, s_X7_step_132, Option.isSome_some, Option.getD_some, sm_clr_i, sm_clr_r, sm_clr_n, sm_clr_o, sm_clr_l, sm_rr_some, sm_rh_some, Option.toList_some, Option.toList_none, List.cons_append, List.nil_append, List.map_cons, List.map_nil, List.sum_cons, List.sum_nil, sm_cat_i, sm_cat_r, sm_cat_n, sm_cat_l, Nat.reduceAdd, Nat.reduceLeDiff, Nat.zero_add, Nat.add_zero, if_true, if_false, not_true_eq_false, not_false_eq_true, and_self, true_and, and_true, f5, f0, hle, f2, g1, i1, e1, hb]
theorem st_ext {s : Int32} (hs : ¬ s = 0) : ∀ (f k : Nat) (h : HH), tx_at h i len cl fr k ce pl lt vb nu → k + f = len → ∃ h', sm_run xs n_X7_step 88 [some (.ref i), some (.int s)] [] h = some (none, h') ∧ tx_at h' i len cl fr (te_F lt len s f k) ce pl lt vb nu ∧ hp_fc h h' i (i + 3) := by
  intro f
  induction f with
  | zero =>
    intro k h S hk
    obtain ⟨kc, f0, f1, f2, f3, f4, f5, f6, f7, f8, g1, g2, g3⟩ := tx_fld S
    have hle : nI len ≤ nI k := nI_le (by omega) (by have := S.2.2.2.2.2.2.2; omega)
    refine ⟨h, ?_, S, hp_fc_rf _ _ _⟩
    rw [s_X7_step_88]
    simp only [s_X7_step_0, s_X7_step_1, s_X7_step_2, s_X7_step_5, s_X7_step_8, s_X7_step_9, s_X7_step_12, s_X7_step_13, s_X7_step_16, s_X7_step_19, s_X7_step_20, s_X7_step_23, s_X7_step_24, s_X7_step_27, s_X7_step_28, s_X7_step_30, s_X7_step_33, s_X7_step_34, s_X7_step_34i, s_X7_step_35, s_X7_step_38, s_X7_step_39, s_X7_step_40, s_X7_step_43, s_X7_step_46, s_X7_step_47, s_X7_step_48, s_X7_step_51, s_X7_step_54, s_X7_step_55, s_X7_step_58, s_X7_step_59, s_X7_step_62, s_X7_step_65, s_X7_step_66, s_X7_step_69, s_X7_step_70, s_X7_step_73, s_X7_step_74, s_X7_step_77, s_X7_step_78, s_X7_step_79, s_X7_step_79i, s_X7_step_80, s_X7_step_83, s_X7_step_84, s_X7_step_85, s_X7_step_89, s_X7_step_92, s_X7_step_93, s_X7_step_96, s_X7_step_97, s_X7_step_100, s_X7_step_103, s_X7_step_104, s_X7_step_107, s_X7_step_108, s_X7_step_111, s_X7_step_112, s_X7_step_115, s_X7_step_116, s_X7_step_119, s_X7_step_120, s_X7_step_120i, s_X7_step_121, s_X7_step_124, s_X7_step_125, s_X7_step_126, s_X7_step_129, s_X7_step_132, Option.isSome_some, Option.getD_some, sm_clr_i, sm_clr_r, sm_clr_n, sm_clr_o, sm_clr_l, sm_rr_some, sm_rh_some, Option.toList_some, Option.toList_none, List.cons_append, List.nil_append, List.map_cons, List.map_nil, List.sum_cons, List.sum_nil, sm_cat_i, sm_cat_r, sm_cat_n, sm_cat_l, Nat.reduceAdd, Nat.reduceLeDiff, Nat.zero_add, Nat.add_zero, if_true, if_false, not_true_eq_false, not_false_eq_true, and_self, true_and, and_true, hs, f6, f0, hle]
  | succ f ih =>
    intro k h S hk
    obtain ⟨kc, f0, f1, f2, f3, f4, f5, f6, f7, f8, g1, g2, g3⟩ := tx_fld S
    obtain ⟨-, -, -, -, L1, L2, L3, L4⟩ := id S
    have hle : ¬ nI len ≤ nI k := nI_ge (by omega) (by omega)
    have i1 : sm_inr (some lt) (nI k) = true := sm_inr_nI (by omega) (by omega)
    have e1 : sm_el (some lt) (nI k) = lt.getD k 0 := sm_el_nI (by omega)
    have hq := c_sortOf (xs := xs) (h := h) (lt.getD k 0)
    by_cases hb : so_F (lt.getD k 0) = s
    · obtain ⟨h1, w1, S1, r1⟩ := tx_to S (k + 1)
      obtain ⟨h2, w2, S2, r2⟩ := ih (k + 1) h1 S1 (by omega)
      refine ⟨h2, ?_, by unfold te_F; rw [if_pos hb]; exact S2, hp_fc_tr r1 r2⟩
      rw [s_X7_step_88]
      simp only [s_X7_step_0, s_X7_step_1, s_X7_step_2, s_X7_step_5, s_X7_step_8, s_X7_step_9, s_X7_step_12, s_X7_step_13, s_X7_step_16, s_X7_step_19, s_X7_step_20, s_X7_step_23, s_X7_step_24, s_X7_step_27, s_X7_step_28, s_X7_step_30, s_X7_step_33, s_X7_step_34, s_X7_step_34i, s_X7_step_35, s_X7_step_38, s_X7_step_39, s_X7_step_40, s_X7_step_43, s_X7_step_46, s_X7_step_47, s_X7_step_48, s_X7_step_51, s_X7_step_54, s_X7_step_55, s_X7_step_58, s_X7_step_59, s_X7_step_62, s_X7_step_65, s_X7_step_66, s_X7_step_69, s_X7_step_70, s_X7_step_73, s_X7_step_74, s_X7_step_77, s_X7_step_78, s_X7_step_79, s_X7_step_79i, s_X7_step_80, s_X7_step_83, s_X7_step_84, s_X7_step_85, s_X7_step_89, s_X7_step_92, s_X7_step_93, s_X7_step_96, s_X7_step_97, s_X7_step_100, s_X7_step_103, s_X7_step_104, s_X7_step_107, s_X7_step_108, s_X7_step_111, s_X7_step_112, s_X7_step_115, s_X7_step_116, s_X7_step_119, s_X7_step_120, s_X7_step_120i, s_X7_step_121, s_X7_step_124, s_X7_step_125, s_X7_step_126, s_X7_step_129, s_X7_step_132, Option.isSome_some, Option.getD_some, sm_clr_i, sm_clr_r, sm_clr_n, sm_clr_o, sm_clr_l, sm_rr_some, sm_rh_some, Option.toList_some, Option.toList_none, List.cons_append, List.nil_append, List.map_cons, List.map_nil, List.sum_cons, List.sum_nil, sm_cat_i, sm_cat_r, sm_cat_n, sm_cat_l, Nat.reduceAdd, Nat.reduceLeDiff, Nat.zero_add, Nat.add_zero, if_true, if_false, not_true_eq_false, not_false_eq_true, and_self, true_and, and_true, hs, f6, f0, hle, f2, g1, i1, e1, hq, hb, nI_1, w1]
      exact w2
    · refine ⟨h, ?_, by unfold te_F; rw [if_neg hb]; exact S, hp_fc_rf _ _ _⟩
      rw [s_X7_step_88]
      simp only [s_X7_step_0, s_X7_step_1, s_X7_step_2, s_X7_step_5, s_X7_step_8, s_X7_step_9, s_X7_step_12, s_X7_step_13, s_X7_step_16, s_X7_step_19, s_X7_step_20, s_X7_step_23, s_X7_step_24, s_X7_step_27, s_X7_step_28, s_X7_step_30, s_X7_step_33, s_X7_step_34, s_X7_step_34i, s_X7_step_35, s_X7_step_38, s_X7_step_39, s_X7_step_40, s_X7_step_43, s_X7_step_46, s_X7_step_47, s_X7_step_48, s_X7_step_51, s_X7_step_54, s_X7_step_55, s_X7_step_58, s_X7_step_59, s_X7_step_62, s_X7_step_65, s_X7_step_66, s_X7_step_69, s_X7_step_70, s_X7_step_73, s_X7_step_74, s_X7_step_77, s_X7_step_78, s_X7_step_79, s_X7_step_79i, s_X7_step_80, s_X7_step_83, s_X7_step_84, s_X7_step_85, s_X7_step_89, s_X7_step_92, s_X7_step_93, s_X7_step_96, s_X7_step_97, s_X7_step_100, s_X7_step_103, s_X7_step_104, s_X7_step_107, s_X7_step_108, s_X7_step_111, s_X7_step_112, s_X7_step_115, s_X7_step_116, s_X7_step_119, s_X7_step_120, s_X7_step_120i, s_X7_step_121, s_X7_step_124, s_X7_step_125, s_X7_step_126, s_X7_step_129, s_X7_step_132, Option.isSome_some, Option.getD_some, sm_clr_i, sm_clr_r, sm_clr_n, sm_clr_o, sm_clr_l, sm_rr_some, sm_rh_some, Option.toList_some, Option.toList_none, List.cons_append, List.nil_append, List.map_cons, List.map_nil, List.sum_cons, List.sum_nil, sm_cat_i, sm_cat_r, sm_cat_n, sm_cat_l, Nat.reduceAdd, Nat.reduceLeDiff, Nat.zero_add, Nat.add_zero, if_true, if_false, not_true_eq_false, not_false_eq_true, and_self, true_and, and_true, hs, f6, f0, hle, f2, g1, i1, e1, hq, hb]
def tk_F (lt : List Int32) (len k : Nat) : Nat := sk_F lt len (len - k) k
def tk_E (lt : List Int32) (len a : Nat) : Nat := if a < len then (if so_F (lt.getD a 0) = 0 then a + 1 else te_F lt len (so_F (lt.getD a 0)) (len - (a + 1)) (a + 1)) else a
theorem w_step (S : tx_at h i len cl fr to ce pl lt vb nu) (hto : to ≤ len) : ∃ h', sm_call xs n_X7_step [.ref i] h = some (none, h') ∧ tx_at h' i len cl (tk_F lt len to) (tk_E lt len (tk_F lt len to)) ce pl lt vb nu ∧ hp_fc h h' i (i + 3) := by
  obtain ⟨kc, f0, f1, f2, f3, f4, f5, f6, f7, f8, g1, g2, g3⟩ := tx_fld S
  obtain ⟨h1, w1, S1, r1⟩ := tx_fr S to
  obtain ⟨h2, w2, S2, r2⟩ := st_skip (xs := xs) (len - to) to h1 none S1 (by omega)
  have hb := sk_le lt len (len - to) to
  have S2 : tx_at h2 i len cl (tk_F lt len to) to ce pl lt vb nu := S2
  have hb : to ≤ tk_F lt len to ∧ tk_F lt len to ≤ len := ⟨hb.1, by have := hb.2; unfold tk_F; omega⟩
  generalize tk_F lt len to = a at S2 hb
  obtain ⟨-, b0, b1, b2, b3, b4, b5, b6, b7, b8, c1, c2, c3⟩ := tx_fld S2
  obtain ⟨-, -, -, -, L1, L2, L3, L4⟩ := id S2
  obtain ⟨h3, w3, S3, r3⟩ := tx_to S2 a
  obtain ⟨-, d0, d1, d2, d3, d4, d5, d6, d7, d8, e1, e2, e3⟩ := tx_fld S3
  have r13 := hp_fc_tr (hp_fc_tr r1 r2) r3
  unfold tk_E
  by_cases hal : a < len
  · have hle : ¬ nI len ≤ nI a := nI_ge hal (by omega)
    have i1 : sm_inr (some lt) (nI a) = true := sm_inr_nI (by omega) (by omega)
    have m1 : sm_el (some lt) (nI a) = lt.getD a 0 := sm_el_nI (by omega)
    have hq := c_sortOf (xs := xs) (h := h3) (lt.getD a 0)
    obtain ⟨h4, w4, S4, r4⟩ := tx_to S3 (a + 1)
    rw [if_pos hal]
    by_cases hz : so_F (lt.getD a 0) = 0
    · refine ⟨h4, ?_, by rw [if_pos hz]; exact S4, hp_fc_tr r13 r4⟩
      rw [c0_X7_step]
      simp only [s_X7_step_0, s_X7_step_1, s_X7_step_2, s_X7_step_5, s_X7_step_9, s_X7_step_12, s_X7_step_13, s_X7_step_16, s_X7_step_19, s_X7_step_20, s_X7_step_23, s_X7_step_24, s_X7_step_27, s_X7_step_28, s_X7_step_30, s_X7_step_33, s_X7_step_34, s_X7_step_34i, s_X7_step_35, s_X7_step_38, s_X7_step_39, s_X7_step_40, s_X7_step_43, s_X7_step_47, s_X7_step_48, s_X7_step_51, s_X7_step_54, s_X7_step_55, s_X7_step_58, s_X7_step_59, s_X7_step_62, s_X7_step_65, s_X7_step_66, s_X7_step_69, s_X7_step_70, s_X7_step_73, s_X7_step_74, s_X7_step_77, s_X7_step_78, s_X7_step_79, s_X7_step_79i, s_X7_step_80, s_X7_step_83, s_X7_step_84, s_X7_step_85, s_X7_step_88, s_X7_step_89, s_X7_step_92, s_X7_step_93, s_X7_step_96, s_X7_step_97, s_X7_step_100, s_X7_step_103, s_X7_step_104, s_X7_step_107, s_X7_step_108, s_X7_step_111, s_X7_step_112, s_X7_step_115, s_X7_step_116, s_X7_step_119, s_X7_step_120, s_X7_step_120i, s_X7_step_121, s_X7_step_124, s_X7_step_125, s_X7_step_126, s_X7_step_129, s_X7_step_132, Option.isSome_some, Option.getD_some, sm_clr_i, sm_clr_r, sm_clr_n, sm_clr_o, sm_clr_l, sm_rr_some, sm_rh_some, Option.toList_some, Option.toList_none, List.cons_append, List.nil_append, List.map_cons, List.map_nil, List.sum_cons, List.sum_nil, sm_cat_i, sm_cat_r, sm_cat_n, sm_cat_l, Nat.reduceAdd, Nat.reduceLeDiff, Nat.zero_add, Nat.add_zero, if_true, if_false, not_true_eq_false, not_false_eq_true, and_self, true_and, and_true, f6, f5, w1]
      rw [w2, s_X7_step_46]
      simp only [s_X7_step_0, s_X7_step_1, s_X7_step_2, s_X7_step_5, s_X7_step_9, s_X7_step_12, s_X7_step_13, s_X7_step_16, s_X7_step_19, s_X7_step_20, s_X7_step_23, s_X7_step_24, s_X7_step_27, s_X7_step_28, s_X7_step_30, s_X7_step_33, s_X7_step_34, s_X7_step_34i, s_X7_step_35, s_X7_step_38, s_X7_step_39, s_X7_step_40, s_X7_step_43, s_X7_step_47, s_X7_step_48, s_X7_step_51, s_X7_step_54, s_X7_step_55, s_X7_step_58, s_X7_step_59, s_X7_step_62, s_X7_step_65, s_X7_step_66, s_X7_step_69, s_X7_step_70, s_X7_step_73, s_X7_step_74, s_X7_step_77, s_X7_step_78, s_X7_step_79, s_X7_step_79i, s_X7_step_80, s_X7_step_83, s_X7_step_84, s_X7_step_85, s_X7_step_88, s_X7_step_89, s_X7_step_92, s_X7_step_93, s_X7_step_96, s_X7_step_97, s_X7_step_100, s_X7_step_103, s_X7_step_104, s_X7_step_107, s_X7_step_108, s_X7_step_111, s_X7_step_112, s_X7_step_115, s_X7_step_116, s_X7_step_119, s_X7_step_120, s_X7_step_120i, s_X7_step_121, s_X7_step_124, s_X7_step_125, s_X7_step_126, s_X7_step_129, s_X7_step_132, Option.isSome_some, Option.getD_some, sm_clr_i, sm_clr_r, sm_clr_n, sm_clr_o, sm_clr_l, sm_rr_some, sm_rh_some, Option.toList_some, Option.toList_none, List.cons_append, List.nil_append, List.map_cons, List.map_nil, List.sum_cons, List.sum_nil, sm_cat_i, sm_cat_r, sm_cat_n, sm_cat_l, Nat.reduceAdd, Nat.reduceLeDiff, Nat.zero_add, Nat.add_zero, if_true, if_false, not_true_eq_false, not_false_eq_true, and_self, true_and, and_true, b5, b6, w3, d5, d0, hle, d2, e1, i1, m1, hq, d6, nI_1, w4, hz]
    · obtain ⟨h5, w5, S5, r5⟩ := st_ext (xs := xs) hz (len - (a + 1)) (a + 1) h4 S4 (by omega)
      refine ⟨h5, ?_, by rw [if_neg hz]; exact S5, hp_fc_tr (hp_fc_tr r13 r4) r5⟩
      rw [c0_X7_step]
      simp only [s_X7_step_0, s_X7_step_1, s_X7_step_2, s_X7_step_5, s_X7_step_9, s_X7_step_12, s_X7_step_13, s_X7_step_16, s_X7_step_19, s_X7_step_20, s_X7_step_23, s_X7_step_24, s_X7_step_27, s_X7_step_28, s_X7_step_30, s_X7_step_33, s_X7_step_34, s_X7_step_34i, s_X7_step_35, s_X7_step_38, s_X7_step_39, s_X7_step_40, s_X7_step_43, s_X7_step_47, s_X7_step_48, s_X7_step_51, s_X7_step_54, s_X7_step_55, s_X7_step_58, s_X7_step_59, s_X7_step_62, s_X7_step_65, s_X7_step_66, s_X7_step_69, s_X7_step_70, s_X7_step_73, s_X7_step_74, s_X7_step_77, s_X7_step_78, s_X7_step_79, s_X7_step_79i, s_X7_step_80, s_X7_step_83, s_X7_step_84, s_X7_step_85, s_X7_step_88, s_X7_step_89, s_X7_step_92, s_X7_step_93, s_X7_step_96, s_X7_step_97, s_X7_step_100, s_X7_step_103, s_X7_step_104, s_X7_step_107, s_X7_step_108, s_X7_step_111, s_X7_step_112, s_X7_step_115, s_X7_step_116, s_X7_step_119, s_X7_step_120, s_X7_step_120i, s_X7_step_121, s_X7_step_124, s_X7_step_125, s_X7_step_126, s_X7_step_129, s_X7_step_132, Option.isSome_some, Option.getD_some, sm_clr_i, sm_clr_r, sm_clr_n, sm_clr_o, sm_clr_l, sm_rr_some, sm_rh_some, Option.toList_some, Option.toList_none, List.cons_append, List.nil_append, List.map_cons, List.map_nil, List.sum_cons, List.sum_nil, sm_cat_i, sm_cat_r, sm_cat_n, sm_cat_l, Nat.reduceAdd, Nat.reduceLeDiff, Nat.zero_add, Nat.add_zero, if_true, if_false, not_true_eq_false, not_false_eq_true, and_self, true_and, and_true, f6, f5, w1]
      rw [w2, s_X7_step_46]
      simp only [s_X7_step_0, s_X7_step_1, s_X7_step_2, s_X7_step_5, s_X7_step_9, s_X7_step_12, s_X7_step_13, s_X7_step_16, s_X7_step_19, s_X7_step_20, s_X7_step_23, s_X7_step_24, s_X7_step_27, s_X7_step_28, s_X7_step_30, s_X7_step_33, s_X7_step_34, s_X7_step_34i, s_X7_step_35, s_X7_step_38, s_X7_step_39, s_X7_step_40, s_X7_step_43, s_X7_step_47, s_X7_step_48, s_X7_step_51, s_X7_step_54, s_X7_step_55, s_X7_step_58, s_X7_step_59, s_X7_step_62, s_X7_step_65, s_X7_step_66, s_X7_step_69, s_X7_step_70, s_X7_step_73, s_X7_step_74, s_X7_step_77, s_X7_step_78, s_X7_step_79, s_X7_step_79i, s_X7_step_80, s_X7_step_83, s_X7_step_84, s_X7_step_85, s_X7_step_89, s_X7_step_92, s_X7_step_93, s_X7_step_96, s_X7_step_97, s_X7_step_100, s_X7_step_103, s_X7_step_104, s_X7_step_107, s_X7_step_108, s_X7_step_111, s_X7_step_112, s_X7_step_115, s_X7_step_116, s_X7_step_119, s_X7_step_120, s_X7_step_120i, s_X7_step_121, s_X7_step_124, s_X7_step_125, s_X7_step_126, s_X7_step_129, s_X7_step_132, Option.isSome_some, Option.getD_some, sm_clr_i, sm_clr_r, sm_clr_n, sm_clr_o, sm_clr_l, sm_rr_some, sm_rh_some, Option.toList_some, Option.toList_none, List.cons_append, List.nil_append, List.map_cons, List.map_nil, List.sum_cons, List.sum_nil, sm_cat_i, sm_cat_r, sm_cat_n, sm_cat_l, Nat.reduceAdd, Nat.reduceLeDiff, Nat.zero_add, Nat.add_zero, if_true, if_false, not_true_eq_false, not_false_eq_true, and_self, true_and, and_true, b5, b6, w3, d5, d0, hle, d2, e1, i1, m1, hq, d6, nI_1, w4]
      exact w5
  · have hle : nI len ≤ nI a := nI_le (by omega) (by omega)
    rw [if_neg hal]
    refine ⟨h3, ?_, S3, r13⟩
    rw [c0_X7_step]
    simp only [s_X7_step_0, s_X7_step_1, s_X7_step_2, s_X7_step_5, s_X7_step_9, s_X7_step_12, s_X7_step_13, s_X7_step_16, s_X7_step_19, s_X7_step_20, s_X7_step_23, s_X7_step_24, s_X7_step_27, s_X7_step_28, s_X7_step_30, s_X7_step_33, s_X7_step_34, s_X7_step_34i, s_X7_step_35, s_X7_step_38, s_X7_step_39, s_X7_step_40, s_X7_step_43, s_X7_step_47, s_X7_step_48, s_X7_step_51, s_X7_step_54, s_X7_step_55, s_X7_step_58, s_X7_step_59, s_X7_step_62, s_X7_step_65, s_X7_step_66, s_X7_step_69, s_X7_step_70, s_X7_step_73, s_X7_step_74, s_X7_step_77, s_X7_step_78, s_X7_step_79, s_X7_step_79i, s_X7_step_80, s_X7_step_83, s_X7_step_84, s_X7_step_85, s_X7_step_88, s_X7_step_89, s_X7_step_92, s_X7_step_93, s_X7_step_96, s_X7_step_97, s_X7_step_100, s_X7_step_103, s_X7_step_104, s_X7_step_107, s_X7_step_108, s_X7_step_111, s_X7_step_112, s_X7_step_115, s_X7_step_116, s_X7_step_119, s_X7_step_120, s_X7_step_120i, s_X7_step_121, s_X7_step_124, s_X7_step_125, s_X7_step_126, s_X7_step_129, s_X7_step_132, Option.isSome_some, Option.getD_some, sm_clr_i, sm_clr_r, sm_clr_n, sm_clr_o, sm_clr_l, sm_rr_some, sm_rh_some, Option.toList_some, Option.toList_none, List.cons_append, List.nil_append, List.map_cons, List.map_nil, List.sum_cons, List.sum_nil, sm_cat_i, sm_cat_r, sm_cat_n, sm_cat_l, Nat.reduceAdd, Nat.reduceLeDiff, Nat.zero_add, Nat.add_zero, if_true, if_false, not_true_eq_false, not_false_eq_true, and_self, true_and, and_true, f6, f5, w1]
    rw [w2, s_X7_step_46]
    simp only [s_X7_step_0, s_X7_step_1, s_X7_step_2, s_X7_step_5, s_X7_step_9, s_X7_step_12, s_X7_step_13, s_X7_step_16, s_X7_step_19, s_X7_step_20, s_X7_step_23, s_X7_step_24, s_X7_step_27, s_X7_step_28, s_X7_step_30, s_X7_step_33, s_X7_step_34, s_X7_step_34i, s_X7_step_35, s_X7_step_38, s_X7_step_39, s_X7_step_40, s_X7_step_43, s_X7_step_47, s_X7_step_48, s_X7_step_51, s_X7_step_54, s_X7_step_55, s_X7_step_58, s_X7_step_59, s_X7_step_62, s_X7_step_65, s_X7_step_66, s_X7_step_69, s_X7_step_70, s_X7_step_73, s_X7_step_74, s_X7_step_77, s_X7_step_78, s_X7_step_79, s_X7_step_79i, s_X7_step_80, s_X7_step_83, s_X7_step_84, s_X7_step_85, s_X7_step_88, s_X7_step_89, s_X7_step_92, s_X7_step_93, s_X7_step_96, s_X7_step_97, s_X7_step_100, s_X7_step_103, s_X7_step_104, s_X7_step_107, s_X7_step_108, s_X7_step_111, s_X7_step_112, s_X7_step_115, s_X7_step_116, s_X7_step_119, s_X7_step_120, s_X7_step_120i, s_X7_step_121, s_X7_step_124, s_X7_step_125, s_X7_step_126, s_X7_step_129, s_X7_step_132, Option.isSome_some, Option.getD_some, sm_clr_i, sm_clr_r, sm_clr_n, sm_clr_o, sm_clr_l, sm_rr_some, sm_rh_some, Option.toList_some, Option.toList_none, List.cons_append, List.nil_append, List.map_cons, List.map_nil, List.sum_cons, List.sum_nil, sm_cat_i, sm_cat_r, sm_cat_n, sm_cat_l, Nat.reduceAdd, Nat.reduceLeDiff, Nat.zero_add, Nat.add_zero, if_true, if_false, not_true_eq_false, not_false_eq_true, and_self, true_and, and_true, b5, b6, w3, d5, d0, hle]
end TEXT

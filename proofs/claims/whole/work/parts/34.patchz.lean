section PATCHZ
variable {xs : List Int32} {h : HH} {i : Nat} {P : PT} {n p : Nat}
def pt_tell (P : PT) (n p : Nat) (v a b c : Int32) : PT := if v = 0 then pt_begin P a else if v = 1 then pt_tilt P n a b else if v = 2 then pt_lay P n a b else if v = 7 then pt_owe P p a b c else if v = 8 then pt_setd P (List.replicate 25 0) else pt_join P p (v - 3) a
theorem w_tell (H : pt_at h i P) (K : pt_ok P n p) (v a b c : Int32) : wr_P (sm_call xs n_X3_tell [.ref i, .int v, .int a, .int b, .int c] h) none h i (pt_tell P n p v a b c) := by
  obtain ⟨kc, f0, f1, f2, f3, f4, f5, f6, f7⟩ := pt_fld H
  unfold pt_tell
  by_cases v0 : v = 0
  · obtain ⟨h', e, H', r⟩ := w_begin (xs := xs) H K a
    refine ⟨h', ?_, by rw [if_pos v0]; exact H', r⟩
    rw [c0_X3_tell]
    simp only [s_X3_tell_0, s_X3_tell_1, s_X3_tell_52, s_X3_tell_53, s_X3_tell_54, s_X3_tell_57, s_X3_tell_60, s_X3_tell_61, s_X3_tell_62, s_X3_tell_63, s_X3_tell_66, s_X3_tell_69, s_X3_tell_70, s_X3_tell_71, s_X3_tell_72, s_X3_tell_75, s_X3_tell_78, s_X3_tell_79, s_X3_tell_80, s_X3_tell_81, s_X3_tell_83, s_X3_tell_86, s_X3_tell_89, s_X3_tell_90, s_X3_tell_93, s_X3_tell_94, s_X3_tell_97, s_X3_tell_100, s_X3_tell_101, s_X3_tell_102, s_X3_tell_103, s_X3_tell_104, s_X3_tell_105, s_X3_tell_108, Option.isSome_some, Option.getD_some, sm_clr_i, sm_clr_r, sm_clr_n, sm_clr_o, sm_clr_l, sm_rr_some, sm_rh_some, Option.toList_some, Option.toList_none, List.cons_append, List.nil_append, List.map_cons, List.map_nil, List.sum_cons, List.sum_nil, sm_cat_i, sm_cat_r, sm_cat_n, sm_cat_l, Nat.reduceAdd, Nat.reduceLeDiff, Nat.zero_add, Nat.add_zero, if_true, if_false, not_true_eq_false, not_false_eq_true, and_self, true_and, and_true, if_pos v0, kc, e]
  by_cases v1 : v = 1
  · obtain ⟨h', e, H', r⟩ := w_tilt (xs := xs) H K a b
    refine ⟨h', ?_, by rw [if_neg v0, if_pos v1]; exact H', r⟩
    rw [c0_X3_tell]
    simp only [s_X3_tell_0, s_X3_tell_1, s_X3_tell_52, s_X3_tell_53, s_X3_tell_54, s_X3_tell_57, s_X3_tell_60, s_X3_tell_61, s_X3_tell_62, s_X3_tell_63, s_X3_tell_66, s_X3_tell_69, s_X3_tell_70, s_X3_tell_71, s_X3_tell_72, s_X3_tell_75, s_X3_tell_78, s_X3_tell_79, s_X3_tell_80, s_X3_tell_81, s_X3_tell_83, s_X3_tell_86, s_X3_tell_89, s_X3_tell_90, s_X3_tell_93, s_X3_tell_94, s_X3_tell_97, s_X3_tell_100, s_X3_tell_101, s_X3_tell_102, s_X3_tell_103, s_X3_tell_104, s_X3_tell_105, s_X3_tell_108, Option.isSome_some, Option.getD_some, sm_clr_i, sm_clr_r, sm_clr_n, sm_clr_o, sm_clr_l, sm_rr_some, sm_rh_some, Option.toList_some, Option.toList_none, List.cons_append, List.nil_append, List.map_cons, List.map_nil, List.sum_cons, List.sum_nil, sm_cat_i, sm_cat_r, sm_cat_n, sm_cat_l, Nat.reduceAdd, Nat.reduceLeDiff, Nat.zero_add, Nat.add_zero, if_true, if_false, not_true_eq_false, not_false_eq_true, and_self, true_and, and_true, if_neg v0, if_pos v1, kc, e]
  by_cases v2 : v = 2
  · obtain ⟨h', e, H', r⟩ := w_lay (xs := xs) H K a b
    refine ⟨h', ?_, by rw [if_neg v0, if_neg v1, if_pos v2]; exact H', r⟩
    rw [c0_X3_tell]
    simp only [s_X3_tell_0, s_X3_tell_1, s_X3_tell_52, s_X3_tell_53, s_X3_tell_54, s_X3_tell_57, s_X3_tell_60, s_X3_tell_61, s_X3_tell_62, s_X3_tell_63, s_X3_tell_66, s_X3_tell_69, s_X3_tell_70, s_X3_tell_71, s_X3_tell_72, s_X3_tell_75, s_X3_tell_78, s_X3_tell_79, s_X3_tell_80, s_X3_tell_81, s_X3_tell_83, s_X3_tell_86, s_X3_tell_89, s_X3_tell_90, s_X3_tell_93, s_X3_tell_94, s_X3_tell_97, s_X3_tell_100, s_X3_tell_101, s_X3_tell_102, s_X3_tell_103, s_X3_tell_104, s_X3_tell_105, s_X3_tell_108, Option.isSome_some, Option.getD_some, sm_clr_i, sm_clr_r, sm_clr_n, sm_clr_o, sm_clr_l, sm_rr_some, sm_rh_some, Option.toList_some, Option.toList_none, List.cons_append, List.nil_append, List.map_cons, List.map_nil, List.sum_cons, List.sum_nil, sm_cat_i, sm_cat_r, sm_cat_n, sm_cat_l, Nat.reduceAdd, Nat.reduceLeDiff, Nat.zero_add, Nat.add_zero, if_true, if_false, not_true_eq_false, not_false_eq_true, and_self, true_and, and_true, if_neg v0, if_neg v1, if_pos v2, kc, e]
  by_cases v7 : v = 7
  · obtain ⟨h', e, H', r⟩ := w_owe (xs := xs) H K a b c
    have v3 : ¬ v = 3 := by rw [v7]; decide
    have v4 : ¬ v = 4 := by rw [v7]; decide
    have v5 : ¬ v = 5 := by rw [v7]; decide
    have v6 : ¬ v = 6 := by rw [v7]; decide
    refine ⟨h', ?_, by rw [if_neg v0, if_neg v1, if_neg v2, if_pos v7]; exact H', r⟩
    rw [c0_X3_tell]
    simp only [s_X3_tell_0, s_X3_tell_1, s_X3_tell_52, s_X3_tell_53, s_X3_tell_54, s_X3_tell_57, s_X3_tell_60, s_X3_tell_61, s_X3_tell_62, s_X3_tell_63, s_X3_tell_66, s_X3_tell_69, s_X3_tell_70, s_X3_tell_71, s_X3_tell_72, s_X3_tell_75, s_X3_tell_78, s_X3_tell_79, s_X3_tell_80, s_X3_tell_81, s_X3_tell_83, s_X3_tell_86, s_X3_tell_89, s_X3_tell_90, s_X3_tell_93, s_X3_tell_94, s_X3_tell_97, s_X3_tell_100, s_X3_tell_101, s_X3_tell_102, s_X3_tell_103, s_X3_tell_104, s_X3_tell_105, s_X3_tell_108, Option.isSome_some, Option.getD_some, sm_clr_i, sm_clr_r, sm_clr_n, sm_clr_o, sm_clr_l, sm_rr_some, sm_rh_some, Option.toList_some, Option.toList_none, List.cons_append, List.nil_append, List.map_cons, List.map_nil, List.sum_cons, List.sum_nil, sm_cat_i, sm_cat_r, sm_cat_n, sm_cat_l, Nat.reduceAdd, Nat.reduceLeDiff, Nat.zero_add, Nat.add_zero, if_true, if_false, not_true_eq_false, not_false_eq_true, and_self, true_and, and_true, if_neg v0, if_neg v1, if_neg v2, if_neg v3, if_neg v4, if_neg v5, if_neg v6, if_pos v7, kc, e]
  by_cases v8 : v = 8
  · obtain ⟨h', e, H', r⟩ := wl_5 (xs := xs) H K.2.2.2.2.2.2.2.2 0
    have v3 : ¬ v = 3 := by rw [v8]; decide
    have v4 : ¬ v = 4 := by rw [v8]; decide
    have v5 : ¬ v = 5 := by rw [v8]; decide
    have v6 : ¬ v = 6 := by rw [v8]; decide
    refine ⟨h', ?_, by rw [if_neg v0, if_neg v1, if_neg v2, if_neg v7, if_pos v8]; exact H', r⟩
    rw [c0_X3_tell]
    simp only [s_X3_tell_0, s_X3_tell_1, s_X3_tell_52, s_X3_tell_53, s_X3_tell_54, s_X3_tell_57, s_X3_tell_60, s_X3_tell_61, s_X3_tell_62, s_X3_tell_63, s_X3_tell_66, s_X3_tell_69, s_X3_tell_70, s_X3_tell_71, s_X3_tell_72, s_X3_tell_75, s_X3_tell_78, s_X3_tell_79, s_X3_tell_80, s_X3_tell_81, s_X3_tell_83, s_X3_tell_86, s_X3_tell_89, s_X3_tell_90, s_X3_tell_93, s_X3_tell_94, s_X3_tell_97, s_X3_tell_100, s_X3_tell_101, s_X3_tell_102, s_X3_tell_103, s_X3_tell_104, s_X3_tell_105, s_X3_tell_108, Option.isSome_some, Option.getD_some, sm_clr_i, sm_clr_r, sm_clr_n, sm_clr_o, sm_clr_l, sm_rr_some, sm_rh_some, Option.toList_some, Option.toList_none, List.cons_append, List.nil_append, List.map_cons, List.map_nil, List.sum_cons, List.sum_nil, sm_cat_i, sm_cat_r, sm_cat_n, sm_cat_l, Nat.reduceAdd, Nat.reduceLeDiff, Nat.zero_add, Nat.add_zero, if_true, if_false, not_true_eq_false, not_false_eq_true, and_self, true_and, and_true, if_neg v0, if_neg v1, if_neg v2, if_neg v3, if_neg v4, if_neg v5, if_neg v6, if_neg v7, if_pos v8, f7, e]
  · obtain ⟨h', e, H', r⟩ := w_join (xs := xs) H K (v - 3) a
    refine ⟨h', ?_, by rw [if_neg v0, if_neg v1, if_neg v2, if_neg v7, if_neg v8]; exact H', r⟩
    rw [c0_X3_tell]
    simp only [s_X3_tell_0, s_X3_tell_1, s_X3_tell_52, s_X3_tell_53, s_X3_tell_54, s_X3_tell_57, s_X3_tell_60, s_X3_tell_61, s_X3_tell_62, s_X3_tell_63, s_X3_tell_66, s_X3_tell_69, s_X3_tell_70, s_X3_tell_71, s_X3_tell_72, s_X3_tell_75, s_X3_tell_78, s_X3_tell_79, s_X3_tell_80, s_X3_tell_81, s_X3_tell_83, s_X3_tell_86, s_X3_tell_89, s_X3_tell_90, s_X3_tell_93, s_X3_tell_94, s_X3_tell_97, s_X3_tell_100, s_X3_tell_101, s_X3_tell_102, s_X3_tell_103, s_X3_tell_104, s_X3_tell_105, s_X3_tell_108, Option.isSome_some, Option.getD_some, sm_clr_i, sm_clr_r, sm_clr_n, sm_clr_o, sm_clr_l, sm_rr_some, sm_rh_some, Option.toList_some, Option.toList_none, List.cons_append, List.nil_append, List.map_cons, List.map_nil, List.sum_cons, List.sum_nil, sm_cat_i, sm_cat_r, sm_cat_n, sm_cat_l, Nat.reduceAdd, Nat.reduceLeDiff, Nat.zero_add, Nat.add_zero, if_true, if_false, not_true_eq_false, not_false_eq_true, and_self, true_and, and_true, if_neg v0, if_neg v1, if_neg v2, if_neg v7, if_neg v8, kc, e, ite_self]
end PATCHZ
-- a new patch
theorem al_len (h : HH) (e : AE) : (h ++ [e]).length = h.length + 1 := by simp
theorem al_new (h : HH) (e : AE) : (h ++ [e])[h.length]? = some e := by simp
theorem al_old {h : HH} {e : AE} {j : Nat} (hj : j < h.length) : (h ++ [e])[j]? = h[j]? := List.getElem?_append_left hj
def pt_new : PT := (6, 0, 0, List.replicate 9 2, List.replicate 9 0, List.replicate 5 0, List.replicate 5 0, List.replicate 25 0)
theorem fld_O {h : HH} {i c k : Nat} {fs : List Value} {v : Value} (he : h[i]? = some (.inr (.inr (c, fs)))) (hv : fs[k]? = some v) : sm_fld h i c k = some v := by
  unfold sm_fld
  rw [he]
  dsimp only
  rw [if_pos rfl, hv]
theorem fset_O {h : HH} {i c k : Nat} {fs : List Value} {v : Value} (he : h[i]? = some (.inr (.inr (c, fs)))) : ∃ h', sm_fset h i k v = h' ∧ h'[i]? = some (.inr (.inr (c, fs.set k v))) ∧ h'.length = h.length ∧ ∀ j, j ≠ i → h'[j]? = h[j]? := by
  refine ⟨h.set i (.inr (.inr (c, fs.set k v))), ?_, hp_eq he, by simp, fun j hj => hp_ne (fun e => hj e.symm)⟩
  unfold sm_fset
  rw [he]
theorem al_O (h : HH) (e : AE) : ∃ h', h ++ [e] = h' ∧ h'[h.length]? = some e ∧ h'.length = h.length + 1 ∧ ∀ j, j < h.length → h'[j]? = h[j]? := ⟨_, rfl, al_new h e, al_len h e, fun _ hj => al_old hj⟩
theorem n_9 : ¬ (9 : Int32) < 0 ∧ (9 : Int32).toNatClampNeg ≤ 100000 := by decide
theorem n_5 : ¬ (5 : Int32) < 0 ∧ (5 : Int32).toNatClampNeg ≤ 100000 := by decide
theorem n_25 : ¬ (25 : Int32) < 0 ∧ (25 : Int32).toNatClampNeg ≤ 100000 := by decide
/-- what a making of a patch at i gives -/
def mk_P (c : Option (Option Value × HH)) (h : HH) (i : Nat) : Prop := ∃ h', c = some (none, h') ∧ pt_at h' i pt_new ∧ h'.length = h.length + 5 ∧ ∀ j, j < i → h'[j]? = h[j]?
theorem w_init {xs : List Int32} {h : HH} {i : Nat} (he : h[i]? = some (.inr (.inr (3, sm_dfl 3)))) (hi : h.length = i + 1) (hl : i + 6 ≤ sm_B) : mk_P (sm_call xs n_X3_init [.ref i] h) h i := by
  have he : h[i]? = some (.inr (.inr (3, [.int 0, .int 0, .int 0, .null, .null, .null, .null, .null]))) := he
  have g0 := fld_O (k := 0) he rfl
  obtain ⟨h1, w1, o1, n1, q1⟩ := fset_O (k := 0) (v := .int 6) he
  have s1 : i + 1 < sm_B := by omega
  have e1 : h1.length = i + 1 := by omega
  obtain ⟨h2, w2, a2, n2, q2⟩ := al_O h1 (.inl (.int, List.replicate 9 0))
  have o2 := (q2 i (by omega)).trans o1
  have g2 := fld_O (k := 3) o2 rfl
  obtain ⟨h3, w3, o3, n3, q3⟩ := fset_O (k := 3) (v := .ref (i + 1)) o2
  have s3 : i + 2 < sm_B := by omega
  have e3 : h3.length = i + 2 := by omega
  obtain ⟨h4, w4, a4, n4, q4⟩ := al_O h3 (.inl (.int, List.replicate 9 0))
  have o4 := (q4 i (by omega)).trans o3
  have g4 := fld_O (k := 4) o4 rfl
  obtain ⟨h5, w5, o5, n5, q5⟩ := fset_O (k := 4) (v := .ref (i + 2)) o4
  have s5 : i + 3 < sm_B := by omega
  have e5 : h5.length = i + 3 := by omega
  obtain ⟨h6, w6, a6, n6, q6⟩ := al_O h5 (.inl (.int, List.replicate 5 0))
  have o6 := (q6 i (by omega)).trans o5
  have g6 := fld_O (k := 5) o6 rfl
  obtain ⟨h7, w7, o7, n7, q7⟩ := fset_O (k := 5) (v := .ref (i + 3)) o6
  have s7 : i + 4 < sm_B := by omega
  have e7 : h7.length = i + 4 := by omega
  obtain ⟨h8, w8, a8, n8, q8⟩ := al_O h7 (.inl (.int, List.replicate 5 0))
  have o8 := (q8 i (by omega)).trans o7
  have g8 := fld_O (k := 6) o8 rfl
  obtain ⟨h9, w9, o9, n9, q9⟩ := fset_O (k := 6) (v := .ref (i + 4)) o8
  have s9 : i + 5 < sm_B := by omega
  have e9 : h9.length = i + 5 := by omega
  obtain ⟨hA, wA, aA, nA, qA⟩ := al_O h9 (.inl (.int, List.replicate 25 0))
  have oA := (qA i (by omega)).trans o9
  have gA := fld_O (k := 7) oA rfl
  obtain ⟨hB, wB, oB, nB, qB⟩ := fset_O (k := 7) (v := .ref (i + 5)) oA
  have b1 : hB[i + 1]? = some (.inl (.int, List.replicate 9 0)) := by
    rw [qB _ (by omega), qA _ (by omega), q9 _ (by omega), q8 _ (by omega), q7 _ (by omega), q6 _ (by omega), q5 _ (by omega), q4 _ (by omega), q3 _ (by omega), ← e1]; exact a2
  have b2 : hB[i + 2]? = some (.inl (.int, List.replicate 9 0)) := by
    rw [qB _ (by omega), qA _ (by omega), q9 _ (by omega), q8 _ (by omega), q7 _ (by omega), q6 _ (by omega), q5 _ (by omega), ← e3]; exact a4
  have b3 : hB[i + 3]? = some (.inl (.int, List.replicate 5 0)) := by
    rw [qB _ (by omega), qA _ (by omega), q9 _ (by omega), q8 _ (by omega), q7 _ (by omega), ← e5]; exact a6
  have b4 : hB[i + 4]? = some (.inl (.int, List.replicate 5 0)) := by
    rw [qB _ (by omega), qA _ (by omega), q9 _ (by omega), ← e7]; exact a8
  have b5 : hB[i + 5]? = some (.inl (.int, List.replicate 25 0)) := by
    rw [qB _ (by omega), ← e9]; exact aA
  have gB := fld_O (k := 3) oB rfl
  have cF := c_fill (xs := xs) (v := 2) b1 (by simp)
  have HB : pt_at hB i (6, 0, 0, List.replicate 9 0, List.replicate 9 0, List.replicate 5 0, List.replicate 5 0, List.replicate 25 0) := ⟨oB, b1, b2, b3, b4, b5⟩
  have HF := pt_aset1 HB (List.replicate (List.replicate 9 (0 : Int32)).length 2)
  refine ⟨_, ?_, HF, by simp; omega, fun j hj => ?_⟩
  · rw [c0_X3_init]
    simp only [s_X3_init_0, s_X3_init_1, s_X3_init_4, s_X3_init_5, s_X3_init_7, s_X3_init_10, s_X3_init_11, s_X3_init_13, s_X3_init_15, s_X3_init_18, s_X3_init_19, s_X3_init_21, s_X3_init_23, s_X3_init_26, s_X3_init_27, s_X3_init_28, s_X3_init_30, s_X3_init_33, s_X3_init_34, s_X3_init_35, s_X3_init_37, s_X3_init_40, s_X3_init_41, s_X3_init_43, s_X3_init_45, s_X3_init_48, s_X3_init_49, s_X3_init_52, s_X3_init_53, s_X3_init_56, Option.isSome_some, Option.getD_some, sm_clr_i, sm_clr_r, sm_clr_n, sm_clr_o, sm_clr_l, sm_rr_some, sm_rh_some, Option.toList_some, Option.toList_none, List.cons_append, List.nil_append, List.map_cons, List.map_nil, List.sum_cons, List.sum_nil, sm_cat_i, sm_cat_r, sm_cat_n, sm_cat_l, Nat.reduceAdd, Nat.reduceLeDiff, Nat.zero_add, Nat.add_zero, if_true, if_false, not_true_eq_false, not_false_eq_true, and_self, true_and, and_true, g0, w1, n_9, s1, t_9, w2, g2, w3, s3, w4, g4, w5, n_5, s5, t_5, w6, g6, w7, s7, w8, g8, w9, n_25, s9, t_25, wA, gA, wB, gB, e1, e3, e5, e7, e9, cF]
  · rw [hp_ne (by omega), qB _ (by omega), qA _ (by omega), q9 _ (by omega), q8 _ (by omega), q7 _ (by omega), q6 _ (by omega), q5 _ (by omega), q4 _ (by omega), q3 _ (by omega), q2 _ (by omega), q1 _ (by omega)]

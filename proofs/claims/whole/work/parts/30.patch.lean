theorem sm_cat_i (x : Int32) : (Value.int x).category = 1 := rfl
theorem sm_cat_r (x : Nat) : (Value.ref x).category = 1 := rfl
theorem sm_cat_n : Value.null.category = 1 := rfl
theorem sm_cat_l (x : Int64) : (Value.long x).category = 2 := rfl
/-- a patch: cells, players, shots, slope, worth, kind, purse, debts -/
abbrev PT : Type := Int32 × Int32 × Int32 × List Int32 × List Int32 × List Int32 × List Int32 × List Int32
def pt_c (P : PT) : Int32 := P.1
def pt_p (P : PT) : Int32 := P.2.1
def pt_s (P : PT) : Int32 := P.2.2.1
def pt_sl (P : PT) : List Int32 := P.2.2.2.1
def pt_w (P : PT) : List Int32 := P.2.2.2.2.1
def pt_k (P : PT) : List Int32 := P.2.2.2.2.2.1
def pt_pu (P : PT) : List Int32 := P.2.2.2.2.2.2.1
def pt_d (P : PT) : List Int32 := P.2.2.2.2.2.2.2
def pt_O (i : Nat) (P : PT) : AE := .inr (.inr (3, [.int (pt_c P), .int (pt_p P), .int (pt_s P), .ref (i + 1), .ref (i + 2), .ref (i + 3), .ref (i + 4), .ref (i + 5)]))
def pt_at (h : HH) (i : Nat) (P : PT) : Prop := h[i]? = some (pt_O i P) ∧ h[i + 1]? = some (.inl (.int, pt_sl P)) ∧ h[i + 2]? = some (.inl (.int, pt_w P)) ∧ h[i + 3]? = some (.inl (.int, pt_k P)) ∧ h[i + 4]? = some (.inl (.int, pt_pu P)) ∧ h[i + 5]? = some (.inl (.int, pt_d P))
theorem pt_fld {h : HH} {i : Nat} {P : PT} (H : pt_at h i P) : sm_cls h i = some 3 ∧ sm_fld h i 3 0 = some (.int (pt_c P)) ∧ sm_fld h i 3 1 = some (.int (pt_p P)) ∧ sm_fld h i 3 2 = some (.int (pt_s P)) ∧ sm_fld h i 3 3 = some (.ref (i + 1)) ∧ sm_fld h i 3 4 = some (.ref (i + 2)) ∧ sm_fld h i 3 5 = some (.ref (i + 3)) ∧ sm_fld h i 3 6 = some (.ref (i + 4)) ∧ sm_fld h i 3 7 = some (.ref (i + 5)) := by
  have h0 := H.1
  refine ⟨?_, ?_, ?_, ?_, ?_, ?_, ?_, ?_, ?_⟩
  · unfold sm_cls; rw [h0]; rfl
  all_goals (unfold sm_fld; rw [h0]; rfl)
theorem pt_arr {h : HH} {i : Nat} {P : PT} (H : pt_at h i P) : sm_arr h (i + 1) .int = some (pt_sl P) ∧ sm_arr h (i + 2) .int = some (pt_w P) ∧ sm_arr h (i + 3) .int = some (pt_k P) ∧ sm_arr h (i + 4) .int = some (pt_pu P) ∧ sm_arr h (i + 5) .int = some (pt_d P) := by
  obtain ⟨-, h1, h2, h3, h4, h5⟩ := H
  refine ⟨?_, ?_, ?_, ?_, ?_⟩
  · unfold sm_arr; rw [h1]; rfl
  · unfold sm_arr; rw [h2]; rfl
  · unfold sm_arr; rw [h3]; rfl
  · unfold sm_arr; rw [h4]; rfl
  · unfold sm_arr; rw [h5]; rfl
theorem sm_inr_nI {l : List Int32} {k : Nat} (hk : k < l.length) (hl : l.length < 2 ^ 31) : sm_inr (some l) (nI k) = true := by
  unfold sm_inr
  exact decide_eq_true (nI_in hk hl)
theorem sm_el_nI {l : List Int32} {k : Nat} (hk : k < 2 ^ 31) : sm_el (some l) (nI k) = l.getD k 0 := by
  unfold sm_el
  dsimp only
  rw [nI_clamp hk]
-- where a marble stops
def rl_S (w s : List Int32) : Nat → Nat → Int32 → Int32 → Int32
  | 0, c, left, a => if 0 < left then nI c else a
  | k + 1, c, left, a => if left ≤ 0 then a else if 0 < w.getD c 0 then nI c else rl_S w s k (c + 1) (left + (2 - s.getD c 0 - 1)) (nI c)
theorem rl_0 (w s : List Int32) (c : Nat) (left a : Int32) : rl_S w s 0 c left a = if 0 < left then nI c else a := rfl
theorem rl_1 (w s : List Int32) (k c : Nat) (left a : Int32) : rl_S w s (k + 1) c left a = if left ≤ 0 then a else if 0 < w.getD c 0 then nI c else rl_S w s k (c + 1) (left + (2 - s.getD c 0 - 1)) (nI c) := rfl
theorem rl_loop {xs : List Int32} {h : HH} {i : Nat} {P : PT} {f : Int32} (H : pt_at h i P) (hw : (pt_w P).length = 9) (hs : (pt_sl P).length = 9) {n : Nat} (hn : n ≤ 9) (hc : pt_c P = nI n) : ∀ (k c : Nat) (left a : Int32), c + k = n → sm_run xs n_X3_roll 7 [some (.ref i), some (.int f), some (.int left), some (.int a), some (.int (nI c))] [] h = some (some (.int (rl_S (pt_w P) (pt_sl P) k c left a)), h) := by
  obtain ⟨kc, f0, f1, f2, f3, f4, f5, f6, f7⟩ := pt_fld H
  obtain ⟨g1, g2, g3, g4, g5⟩ := pt_arr H
  intro k
  induction k with
  | zero =>
    intro c left a hk
    have hle : nI n ≤ nI c := nI_le (by omega) (by omega)
    rw [s_X3_roll_7]
    simp only [s_X3_roll_0, s_X3_roll_1, s_X3_roll_2, s_X3_roll_3, s_X3_roll_4, s_X3_roll_5, s_X3_roll_9, s_X3_roll_10, s_X3_roll_13, s_X3_roll_16, s_X3_roll_17, s_X3_roll_20, s_X3_roll_21, s_X3_roll_22, s_X3_roll_24, s_X3_roll_25, s_X3_roll_26, s_X3_roll_29, s_X3_roll_31, s_X3_roll_32, s_X3_roll_35, s_X3_roll_36, s_X3_roll_37, s_X3_roll_38, s_X3_roll_39, s_X3_roll_40, s_X3_roll_43, s_X3_roll_45, s_X3_roll_46, s_X3_roll_47, s_X3_roll_48, s_X3_roll_49, s_X3_roll_50, s_X3_roll_51, s_X3_roll_54, s_X3_roll_57, s_X3_roll_58, s_X3_roll_61, s_X3_roll_62, s_X3_roll_65, s_X3_roll_68, s_X3_roll_69, Option.isSome_some, Option.getD_some, sm_clr_i, sm_clr_r, sm_clr_n, sm_clr_o, sm_clr_l, sm_rr_some, sm_rh_some, Option.toList_some, Option.toList_none, List.cons_append, List.nil_append, List.map_cons, List.map_nil, List.sum_cons, List.sum_nil, sm_cat_i, sm_cat_r, sm_cat_n, sm_cat_l, Nat.reduceAdd, Nat.reduceLeDiff, Nat.zero_add, Nat.add_zero, if_true, if_false, not_true_eq_false, not_false_eq_true, and_self, true_and, and_true, f0, hc, hle]
    rw [rl_0]
    by_cases hl : left ≤ 0
    · rw [if_pos hl, if_neg (Int32.not_lt.mpr hl)]
    · rw [if_neg hl, if_pos (Int32.not_le.mp hl)]
      rw [show c = n by omega]
  | succ k ih =>
    intro c left a hk
    have hle : ¬ nI n ≤ nI c := nI_ge (by omega) (by omega)
    have e1 : sm_inr (some (pt_w P)) (nI c) = true := sm_inr_nI (by omega) (by omega)
    have e2 : sm_inr (some (pt_sl P)) (nI c) = true := sm_inr_nI (by omega) (by omega)
    have e3 : sm_el (some (pt_w P)) (nI c) = (pt_w P).getD c 0 := sm_el_nI (by omega)
    have e4 : sm_el (some (pt_sl P)) (nI c) = (pt_sl P).getD c 0 := sm_el_nI (by omega)
    rw [s_X3_roll_7]
    simp only [s_X3_roll_0, s_X3_roll_1, s_X3_roll_2, s_X3_roll_3, s_X3_roll_4, s_X3_roll_5, s_X3_roll_9, s_X3_roll_10, s_X3_roll_13, s_X3_roll_16, s_X3_roll_17, s_X3_roll_20, s_X3_roll_21, s_X3_roll_22, s_X3_roll_24, s_X3_roll_25, s_X3_roll_26, s_X3_roll_29, s_X3_roll_31, s_X3_roll_32, s_X3_roll_35, s_X3_roll_36, s_X3_roll_37, s_X3_roll_38, s_X3_roll_39, s_X3_roll_40, s_X3_roll_43, s_X3_roll_45, s_X3_roll_46, s_X3_roll_47, s_X3_roll_48, s_X3_roll_49, s_X3_roll_50, s_X3_roll_51, s_X3_roll_54, s_X3_roll_57, s_X3_roll_58, s_X3_roll_61, s_X3_roll_62, s_X3_roll_65, s_X3_roll_68, s_X3_roll_69, Option.isSome_some, Option.getD_some, sm_clr_i, sm_clr_r, sm_clr_n, sm_clr_o, sm_clr_l, sm_rr_some, sm_rh_some, Option.toList_some, Option.toList_none, List.cons_append, List.nil_append, List.map_cons, List.map_nil, List.sum_cons, List.sum_nil, sm_cat_i, sm_cat_r, sm_cat_n, sm_cat_l, Nat.reduceAdd, Nat.reduceLeDiff, Nat.zero_add, Nat.add_zero, if_true, if_false, not_true_eq_false, not_false_eq_true, and_self, true_and, and_true, f0, f3, f4, g1, g2, e1, e2, e3, e4, hc, hle, nI_1]
    rw [ih (c + 1) _ _ (by omega)]
    rw [rl_1]
    by_cases hl : left ≤ 0
    · rw [if_pos hl, if_neg (Int32.not_lt.mpr hl)]
    · rw [if_neg hl, if_pos (Int32.not_le.mp hl)]
      by_cases hw0 : (pt_w P).getD c 0 ≤ 0
      · rw [if_pos hw0, if_neg (Int32.not_lt.mpr hw0)]
      · rw [if_neg hw0, if_pos (Int32.not_le.mp hw0)]

def rl_F (P : PT) (n : Nat) (f : Int32) : Int32 := rl_S (pt_w P) (pt_sl P) n 0 f (-1)
/-- a patch that is in shape: n cells, p players -/
def pt_ok (P : PT) (n p : Nat) : Prop := pt_c P = nI n ∧ pt_p P = nI p ∧ n ≤ 9 ∧ p ≤ 5 ∧ (pt_sl P).length = 9 ∧ (pt_w P).length = 9 ∧ (pt_k P).length = 5 ∧ (pt_pu P).length = 5 ∧ (pt_d P).length = 25
section PATCH
variable {xs : List Int32} {h : HH} {i : Nat} {P : PT} {n p : Nat}
theorem c_roll (H : pt_at h i P) (K : pt_ok P n p) (f : Int32) : sm_call xs n_X3_roll [.ref i, .int f] h = some (some (.int (rl_F P n f)), h) := by
  obtain ⟨hc, hp, hn, hp5, l1, l2, l3, l4, l5⟩ := K
  rw [c0_X3_roll]
  simp only [s_X3_roll_0, s_X3_roll_1, s_X3_roll_2, s_X3_roll_3, s_X3_roll_4, s_X3_roll_5, s_X3_roll_9, s_X3_roll_10, s_X3_roll_13, s_X3_roll_16, s_X3_roll_17, s_X3_roll_20, s_X3_roll_21, s_X3_roll_22, s_X3_roll_24, s_X3_roll_25, s_X3_roll_26, s_X3_roll_29, s_X3_roll_31, s_X3_roll_32, s_X3_roll_35, s_X3_roll_36, s_X3_roll_37, s_X3_roll_38, s_X3_roll_39, s_X3_roll_40, s_X3_roll_43, s_X3_roll_45, s_X3_roll_46, s_X3_roll_47, s_X3_roll_48, s_X3_roll_49, s_X3_roll_50, s_X3_roll_51, s_X3_roll_54, s_X3_roll_57, s_X3_roll_58, s_X3_roll_61, s_X3_roll_62, s_X3_roll_65, s_X3_roll_68, s_X3_roll_69, Option.isSome_some, Option.getD_some, sm_clr_i, sm_clr_r, sm_clr_n, sm_clr_o, sm_clr_l, sm_rr_some, sm_rh_some, Option.toList_some, Option.toList_none, List.cons_append, List.nil_append, List.map_cons, List.map_nil, List.sum_cons, List.sum_nil, sm_cat_i, sm_cat_r, sm_cat_n, sm_cat_l, Nat.reduceAdd, Nat.reduceLeDiff, Nat.zero_add, Nat.add_zero, if_true, if_false, not_true_eq_false, not_false_eq_true, and_self, true_and, and_true]
  exact rl_loop H l2 l1 hn hc n 0 f (-1) (by omega)
def hs_C (n : Nat) (c : Int32) : Bool := decide (0 ≤ c ∧ c < nI n)
def b2i (b : Bool) : Int32 := if b then 1 else 0
theorem c_hasCell (H : pt_at h i P) (K : pt_ok P n p) (c : Int32) : sm_call xs n_X3_hasCell [.ref i, .int c] h = some (some (.int (b2i (hs_C n c))), h) := by
  obtain ⟨hc, hp, hn, hp5, l1, l2, l3, l4, l5⟩ := K
  obtain ⟨kc, f0, f1, f2, f3, f4, f5, f6, f7⟩ := pt_fld H
  rw [c0_X3_hasCell]
  simp only [s_X3_hasCell_0, s_X3_hasCell_1, s_X3_hasCell_4, s_X3_hasCell_5, s_X3_hasCell_6, s_X3_hasCell_9, s_X3_hasCell_12, s_X3_hasCell_13, s_X3_hasCell_16, s_X3_hasCell_17z0, s_X3_hasCell_17z1, Option.isSome_some, Option.getD_some, sm_clr_i, sm_clr_r, sm_clr_n, sm_clr_o, sm_clr_l, sm_rr_some, sm_rh_some, Option.toList_some, Option.toList_none, List.cons_append, List.nil_append, List.map_cons, List.map_nil, List.sum_cons, List.sum_nil, sm_cat_i, sm_cat_r, sm_cat_n, sm_cat_l, Nat.reduceAdd, Nat.reduceLeDiff, Nat.zero_add, Nat.add_zero, if_true, if_false, not_true_eq_false, not_false_eq_true, and_self, true_and, and_true, f0, hc]
  unfold b2i hs_C
  by_cases h0 : c < 0
  · have : ¬ (0 ≤ c ∧ c < nI n) := fun q => Int32.not_le.mpr h0 q.1
    simp [h0, this]
  · by_cases h1 : nI n ≤ c
    · have : ¬ (0 ≤ c ∧ c < nI n) := fun q => Int32.not_lt.mpr h1 q.2
      simp [h0, h1, this]
    · have : (0 ≤ c ∧ c < nI n) := ⟨Int32.not_lt.mp h0, Int32.not_le.mp h1⟩
      simp [h0, h1, this]
theorem c_hasPlayer (H : pt_at h i P) (K : pt_ok P n p) (c : Int32) : sm_call xs n_X3_hasPlayer [.ref i, .int c] h = some (some (.int (b2i (hs_C p c))), h) := by
  obtain ⟨hc, hp, hn, hp5, l1, l2, l3, l4, l5⟩ := K
  obtain ⟨kc, f0, f1, f2, f3, f4, f5, f6, f7⟩ := pt_fld H
  rw [c0_X3_hasPlayer]
  simp only [s_X3_hasPlayer_0, s_X3_hasPlayer_1, s_X3_hasPlayer_4, s_X3_hasPlayer_5, s_X3_hasPlayer_6, s_X3_hasPlayer_9, s_X3_hasPlayer_12, s_X3_hasPlayer_13, s_X3_hasPlayer_16, s_X3_hasPlayer_17z0, s_X3_hasPlayer_17z1, Option.isSome_some, Option.getD_some, sm_clr_i, sm_clr_r, sm_clr_n, sm_clr_o, sm_clr_l, sm_rr_some, sm_rh_some, Option.toList_some, Option.toList_none, List.cons_append, List.nil_append, List.map_cons, List.map_nil, List.sum_cons, List.sum_nil, sm_cat_i, sm_cat_r, sm_cat_n, sm_cat_l, Nat.reduceAdd, Nat.reduceLeDiff, Nat.zero_add, Nat.add_zero, if_true, if_false, not_true_eq_false, not_false_eq_true, and_self, true_and, and_true, f1, hp]
  unfold b2i hs_C
  by_cases h0 : c < 0
  · have : ¬ (0 ≤ c ∧ c < nI p) := fun q => Int32.not_le.mpr h0 q.1
    simp [h0, this]
  · by_cases h1 : nI p ≤ c
    · have : ¬ (0 ≤ c ∧ c < nI p) := fun q => Int32.not_lt.mpr h1 q.2
      simp [h0, h1, this]
    · have : (0 ≤ c ∧ c < nI p) := ⟨Int32.not_lt.mp h0, Int32.not_le.mp h1⟩
      simp [h0, h1, this]
theorem hs_C_of {n : Nat} {c : Int32} (h : hs_C n c = true) (hn : n < 2 ^ 31) : ∃ k, k < n ∧ c = nI k := by
  have h1 := of_decide_eq_true h
  rcases pk_ix c hn with h2 | h2 | h2
  · exact absurd h2 (Int32.not_lt.mpr h1.1)
  · exact absurd h1.2 (Int32.not_lt.mpr h2)
  · exact h2
theorem hs_C_nI {n k : Nat} (hk : k < n) (hn : n < 2 ^ 31) : hs_C n (nI k) = true := decide_eq_true ⟨nI_pos' (by omega), nI_lt hk hn⟩
theorem b2i_t : b2i true = 1 := rfl
theorem b2i_f : b2i false = 0 := rfl
def wt_A (P : PT) (n : Nat) (c : Int32) : Int32 := if hs_C n c then (pt_w P).getD c.toNatClampNeg 0 else 0
theorem c_worthAt (H : pt_at h i P) (K : pt_ok P n p) (c : Int32) : sm_call xs n_X3_worthAt [.ref i, .int c] h = some (some (.int (wt_A P n c)), h) := by
  have hC := c_hasCell (xs := xs) H K c
  obtain ⟨hc, hp, hn, hp5, l1, l2, l3, l4, l5⟩ := K
  obtain ⟨kc, f0, f1, f2, f3, f4, f5, f6, f7⟩ := pt_fld H
  obtain ⟨g1, g2, g3, g4, g5⟩ := pt_arr H
  rw [c0_X3_worthAt]
  unfold wt_A
  cases hb : hs_C n c with
  | false =>
    rw [hb, b2i_f] at hC
    simp only [s_X3_worthAt_0, s_X3_worthAt_1, s_X3_worthAt_2, s_X3_worthAt_5, s_X3_worthAt_8, s_X3_worthAt_9, s_X3_worthAt_12, s_X3_worthAt_13, s_X3_worthAt_14, s_X3_worthAt_17, s_X3_worthAt_18, Option.isSome_some, Option.getD_some, sm_clr_i, sm_clr_r, sm_clr_n, sm_clr_o, sm_clr_l, sm_rr_some, sm_rh_some, Option.toList_some, Option.toList_none, List.cons_append, List.nil_append, List.map_cons, List.map_nil, List.sum_cons, List.sum_nil, sm_cat_i, sm_cat_r, sm_cat_n, sm_cat_l, Nat.reduceAdd, Nat.reduceLeDiff, Nat.zero_add, Nat.add_zero, if_true, if_false, not_true_eq_false, not_false_eq_true, and_self, true_and, and_true, kc, hC]
    simp
  | true =>
    rw [hb, b2i_t] at hC
    obtain ⟨k, hk, rfl⟩ := hs_C_of hb (by omega)
    have e1 : sm_inr (some (pt_w P)) (nI k) = true := sm_inr_nI (by omega) (by omega)
    simp only [s_X3_worthAt_0, s_X3_worthAt_1, s_X3_worthAt_2, s_X3_worthAt_5, s_X3_worthAt_8, s_X3_worthAt_9, s_X3_worthAt_12, s_X3_worthAt_13, s_X3_worthAt_14, s_X3_worthAt_17, s_X3_worthAt_18, Option.isSome_some, Option.getD_some, sm_clr_i, sm_clr_r, sm_clr_n, sm_clr_o, sm_clr_l, sm_rr_some, sm_rh_some, Option.toList_some, Option.toList_none, List.cons_append, List.nil_append, List.map_cons, List.map_nil, List.sum_cons, List.sum_nil, sm_cat_i, sm_cat_r, sm_cat_n, sm_cat_l, Nat.reduceAdd, Nat.reduceLeDiff, Nat.zero_add, Nat.add_zero, if_true, if_false, not_true_eq_false, not_false_eq_true, and_self, true_and, and_true, kc, hC, f4, g2, e1]
    simp [sm_el]
end PATCH

-- counted loops
def itr {α : Type} (g : Nat → α → α) : Nat → Nat → α → α
  | 0, _, s => s
  | k + 1, c, s => itr g k (c + 1) (g c s)
theorem itr_run {α β : Type} (R : Nat → α → β) (g : Nat → α → α) (n : Nat) (fin : α → β) (h0 : ∀ s, R n s = fin s) (h1 : ∀ c s, c < n → R c s = R (c + 1) (g c s)) : ∀ (k c : Nat) (s : α), c + k = n → R c s = fin (itr g k c s) := by
  intro k
  induction k with
  | zero => intro c s hc; rw [show c = n by omega]; exact h0 s
  | succ k ih => intro c s hc; rw [h1 c s (by omega)]; exact ih (c + 1) _ (by omega)
theorem itr_inv {α : Type} (P : α → Prop) (g : Nat → α → α) (h : ∀ c s, P s → P (g c s)) : ∀ (k c : Nat) (s : α), P s → P (itr g k c s) := by
  intro k
  induction k with
  | zero => intro c s hs; exact hs
  | succ k ih => intro c s hs; exact ih (c + 1) _ (h c s hs)
theorem itr_congr {α : Type} (g g' : Nat → α → α) : ∀ (k c : Nat) (s : α), (∀ j s, c ≤ j → j < c + k → g j s = g' j s) → itr g k c s = itr g' k c s := by
  intro k
  induction k with
  | zero => intro c s _; rfl
  | succ k ih =>
    intro c s h
    unfold itr
    rw [h c s (by omega) (by omega)]
    exact ih (c + 1) _ (fun j s h1 h2 => h j s (by omega) (by omega))
def cp_F (f g : Nat → Int32) (b c k : Nat) : Nat → Int32 := fun j => if b + c ≤ j ∧ j < b + c + k then f (j - b) else g j
theorem itr_cp (f : Nat → Int32) (b : Nat) : ∀ (k c : Nat) (g : Nat → Int32), itr (fun c g => fu g (b + c) (f c)) k c g = cp_F f g b c k := by
  intro k
  induction k with
  | zero => intro c g; funext j; unfold cp_F itr; rw [if_neg (by omega)]
  | succ k ih =>
    intro c g
    show itr _ k (c + 1) _ = _
    rw [ih (c + 1)]
    funext j
    unfold cp_F fu
    try dsimp only
    by_cases h1 : b + (c + 1) ≤ j ∧ j < b + (c + 1) + k
    · rw [if_pos h1, if_pos (by omega)]
    · rw [if_neg h1]
      by_cases h2 : j = b + c
      · rw [if_pos h2, if_pos (by omega), h2, show b + c - b = c by omega]
      · rw [if_neg h2, if_neg (by omega)]
-- literal places of rows
theorem lt_r {n : Nat} {f : Nat → Int32} {v : Int32} (k : Nat) (hv : v = nI k) (h : k < n ∧ n ≤ 1000) : sm_inr (some (ls n f)) v = true := by subst hv; exact ai_r h
theorem lt_e {n : Nat} {f : Nat → Int32} {v : Int32} (k : Nat) (hv : v = nI k) (h : k < n ∧ n ≤ 1000) : sm_el (some (ls n f)) v = f k := by subst hv; exact ai_e h
section LIT
variable {f : Nat → Int32} {S : GS} {x : Int32}
theorem l16_0r : sm_inr (some (ls 16 f)) 0 = true := lt_r 0 rfl (by omega)
theorem l16_0e : sm_el (some (ls 16 f)) 0 = f 0 := lt_e 0 rfl (by omega)
theorem l16_10r : sm_inr (some (ls 16 f)) 10 = true := lt_r 10 rfl (by omega)
theorem l16_10e : sm_el (some (ls 16 f)) 10 = f 10 := lt_e 10 rfl (by omega)
theorem l40_39r : sm_inr (some (ls 40 f)) 39 = true := lt_r 39 rfl (by omega)
theorem l40_39e : sm_el (some (ls 40 f)) 39 = f 39 := lt_e 39 rfl (by omega)
theorem l32_0r : sm_inr (some (ls 32 f)) 0 = true := lt_r 0 rfl (by omega)
theorem l32_0e : sm_el (some (ls 32 f)) 0 = f 0 := lt_e 0 rfl (by omega)
theorem l2_0r : sm_inr (some (ls 2 f)) 0 = true := lt_r 0 rfl (by omega)
theorem l2_0e : sm_el (some (ls 2 f)) 0 = f 0 := lt_e 0 rfl (by omega)
theorem l2_1r : sm_inr (some (ls 2 f)) 1 = true := lt_r 1 rfl (by omega)
theorem l2_1e : sm_el (some (ls 2 f)) 1 = f 1 := lt_e 1 rfl (by omega)
theorem l46_0 : sm_aset (hp S) 46 .int (some (ls 16 f)) 0 x = hp (sA S 1 (fu f 0 x)) := hs_46 S f (k := 0) x (by omega)
theorem l48_0 : sm_aset (hp S) 48 .int (some (ls 16 f)) 0 x = hp (sA S 3 (fu f 0 x)) := hs_48 S f (k := 0) x (by omega)
theorem l48_10 : sm_aset (hp S) 48 .int (some (ls 16 f)) 10 x = hp (sA S 3 (fu f 10 x)) := hs_48 S f (k := 10) x (by omega)
theorem l50_39 : sm_aset (hp S) 50 .int (some (ls 40 f)) 39 x = hp (sA S 5 (fu f 39 x)) := hs_50 S f (k := 39) x (by omega)
theorem l58_0 : sm_aset (hp S) 58 .int (some (ls 32 f)) 0 x = hp (sA S 13 (fu f 0 x)) := hs_58 S f (k := 0) x (by omega)
theorem aset_b {h : HH} {a k : Nat} {l : List Int32} {v x : Int32} (hv : v = nI k) (hk : k < 2 ^ 31) (hx : x = 0 ∨ x = 1) : sm_aset h a .boolean (some l) v x = h.set a (.inl (.boolean, l.set k x)) := by
  subst hv
  unfold sm_aset
  try dsimp only
  rw [nI_clamp hk, show sm_nar .boolean x = x by rcases hx with rfl | rfl <;> rfl]
theorem l54_00 : sm_aset (hp S) 54 .boolean (some (ls 2 f)) 0 0 = hp (sA S 9 (fu f 0 0)) := by rw [aset_b (v := 0) (k := 0) rfl (by omega) (Or.inl rfl), ls_set]; exact sa_54 S _
theorem l54_10 : sm_aset (hp S) 54 .boolean (some (ls 2 f)) 1 0 = hp (sA S 9 (fu f 1 0)) := by rw [aset_b (v := 1) (k := 1) rfl (by omega) (Or.inl rfl), ls_set]; exact sa_54 S _
theorem l54_01 : sm_aset (hp S) 54 .boolean (some (ls 2 f)) 0 1 = hp (sA S 9 (fu f 0 1)) := by rw [aset_b (v := 0) (k := 0) rfl (by omega) (Or.inr rfl), ls_set]; exact sa_54 S _
theorem l54_11 : sm_aset (hp S) 54 .boolean (some (ls 2 f)) 1 1 = hp (sA S 9 (fu f 1 1)) := by rw [aset_b (v := 1) (k := 1) rfl (by omega) (Or.inr rfl), ls_set]; exact sa_54 S _
theorem ia_1 (k : Nat) : (1 : Int32) + nI k = nI (1 + k) := nI_add 1 k
theorem ia_9 (k : Nat) : (9 : Int32) + nI k = nI (9 + k) := nI_add 9 k
theorem ia_11 (k : Nat) : (11 : Int32) + nI k = nI (11 + k) := nI_add 11 k
theorem ia_14 (k : Nat) : (14 : Int32) + nI k = nI (14 + k) := nI_add 14 k
theorem ia_m5 (k : Nat) : (5 : Int32) * nI k = nI (5 * k) := pk_mul 5 k
theorem ia_m40 (k : Nat) : (40 : Int32) * nI k = nI (40 * k) := pk_mul 40 k
theorem ia_m3 (k : Nat) : nI k * (3 : Int32) = nI (k * 3) := pk_mul k 3
end LIT
-- bounds
theorem in_L {lo hi : Int64} {a b : Int32} (h1 : lo.toInt = a.toInt) (h2 : hi.toInt = b.toInt) (c : Int32) : in_B c.toInt64 lo hi = rg_B a b c := by
  unfold in_B rg_B
  apply decide_eq_decide.mpr
  rw [Int64.le_iff_toInt_le, Int64.le_iff_toInt_le, Int32.le_iff_toInt_le, Int32.le_iff_toInt_le, l_ti, h1, h2]
theorem in_V (a b c : Int32) : in_B c.toInt64 a.toInt64 b.toInt64 = rg_B a b c := in_L (l_ti a) (l_ti b) c
section MB
variable {xs : List Int32} {S : GS} {n p : Nat}
theorem m_cells : sm_call xs n_X10_cells [.ref 45] (hp S) = some (some (.int (gA S 1 0)), hp S) := by
  rw [c0_X10_cells]
  simp only [s_X10_cells_0, s_X10_cells_1, s_X10_cells_4, s_X10_cells_5, s_X10_cells_6, Option.isSome_some, Option.getD_some, sm_clr_i, sm_clr_r, sm_clr_n, sm_clr_o, sm_clr_l, sm_rr_some, sm_rh_some, Option.toList_some, Option.toList_none, List.cons_append, List.nil_append, List.map_cons, List.map_nil, List.sum_cons, List.sum_nil, sm_cat_i, sm_cat_r, sm_cat_n, sm_cat_l, Nat.reduceAdd, Nat.reduceLeDiff, Nat.zero_add, Nat.add_zero, if_true, if_false, not_true_eq_false, not_false_eq_true, and_self, true_and, and_true, hf_45_0, hf_45_1, hf_45_2, hf_45_3, hf_45_4, hf_45_5, hf_45_6, hf_45_7, hf_45_8, hf_45_9, hf_45_10, hf_45_11, hf_45_12, hf_45_13, hf_45_14, hf_45_15, hf_45_16, hf_45_17, hf_45_18, hf_45_19, hf_45_20, hf_45_21, hc_0, hc_31, hc_33, hc_36, hc_40, hc_41, hc_42, hc_43, hc_45, ha_46, ha_47, ha_48, ha_49, ha_50, ha_51, ha_52, ha_53, ha_54, ha_55, ha_56, ha_57, ha_58, ha_59, hw_45_6, hw_45_7, hw_45_8, hw_45_9, hw_45_10, hw_45_11, hw_45_12, hw_45_17, hs_46, hs_47, hs_48, hs_49, hs_50, hs_51, hs_52, hs_53, hs_55, hs_56, hs_57, hs_58, hs_59, l16_0r, l16_0e]
theorem m_players : sm_call xs n_X10_players [.ref 45] (hp S) = some (some (.int (gA S 1 10)), hp S) := by
  rw [c0_X10_players]
  simp only [s_X10_players_0, s_X10_players_1, s_X10_players_4, s_X10_players_6, s_X10_players_7, Option.isSome_some, Option.getD_some, sm_clr_i, sm_clr_r, sm_clr_n, sm_clr_o, sm_clr_l, sm_rr_some, sm_rh_some, Option.toList_some, Option.toList_none, List.cons_append, List.nil_append, List.map_cons, List.map_nil, List.sum_cons, List.sum_nil, sm_cat_i, sm_cat_r, sm_cat_n, sm_cat_l, Nat.reduceAdd, Nat.reduceLeDiff, Nat.zero_add, Nat.add_zero, if_true, if_false, not_true_eq_false, not_false_eq_true, and_self, true_and, and_true, hf_45_0, hf_45_1, hf_45_2, hf_45_3, hf_45_4, hf_45_5, hf_45_6, hf_45_7, hf_45_8, hf_45_9, hf_45_10, hf_45_11, hf_45_12, hf_45_13, hf_45_14, hf_45_15, hf_45_16, hf_45_17, hf_45_18, hf_45_19, hf_45_20, hf_45_21, hc_0, hc_31, hc_33, hc_36, hc_40, hc_41, hc_42, hc_43, hc_45, ha_46, ha_47, ha_48, ha_49, ha_50, ha_51, ha_52, ha_53, ha_54, ha_55, ha_56, ha_57, ha_58, ha_59, hw_45_6, hw_45_7, hw_45_8, hw_45_9, hw_45_10, hw_45_11, hw_45_12, hw_45_17, hs_46, hs_47, hs_48, hs_49, hs_50, hs_51, hs_52, hs_53, hs_55, hs_56, hs_57, hs_58, hs_59, l16_10r, l16_10e]
theorem m_isCell (hn : gA S 1 0 = nI n) (hn9 : n ≤ 9) (c : Int32) : sm_call xs n_X10_isCell [.ref 45, .int c] (hp S) = some (some (.int (b2i (hs_C n c))), hp S) := by
  have h2 := c_in (xs := xs) (h := hp S) c.toInt64 0 (nI n - 1).toInt64
  rw [in_C (by omega)] at h2
  rw [c0_X10_isCell]
  cases hb : hs_C n c with
  | false => rw [hb, b2i_f] at h2; simp only [s_X10_isCell_0, s_X10_isCell_1, s_X10_isCell_2, s_X10_isCell_3, s_X10_isCell_4, s_X10_isCell_7, s_X10_isCell_8, s_X10_isCell_9, s_X10_isCell_10, s_X10_isCell_13z0, s_X10_isCell_13z1, Option.isSome_some, Option.getD_some, sm_clr_i, sm_clr_r, sm_clr_n, sm_clr_o, sm_clr_l, sm_rr_some, sm_rh_some, Option.toList_some, Option.toList_none, List.cons_append, List.nil_append, List.map_cons, List.map_nil, List.sum_cons, List.sum_nil, sm_cat_i, sm_cat_r, sm_cat_n, sm_cat_l, Nat.reduceAdd, Nat.reduceLeDiff, Nat.zero_add, Nat.add_zero, if_true, if_false, not_true_eq_false, not_false_eq_true, and_self, true_and, and_true, hc_45, m_cells, hn, h2]; rfl
  | true => rw [hb, b2i_t] at h2; simp only [s_X10_isCell_0, s_X10_isCell_1, s_X10_isCell_2, s_X10_isCell_3, s_X10_isCell_4, s_X10_isCell_7, s_X10_isCell_8, s_X10_isCell_9, s_X10_isCell_10, s_X10_isCell_13z0, s_X10_isCell_13z1, Option.isSome_some, Option.getD_some, sm_clr_i, sm_clr_r, sm_clr_n, sm_clr_o, sm_clr_l, sm_rr_some, sm_rh_some, Option.toList_some, Option.toList_none, List.cons_append, List.nil_append, List.map_cons, List.map_nil, List.sum_cons, List.sum_nil, sm_cat_i, sm_cat_r, sm_cat_n, sm_cat_l, Nat.reduceAdd, Nat.reduceLeDiff, Nat.zero_add, Nat.add_zero, if_true, if_false, not_true_eq_false, not_false_eq_true, and_self, true_and, and_true, hc_45, m_cells, hn, h2]; rfl
theorem m_isPlayer (hn : gA S 1 10 = nI p) (hp5 : p ≤ 5) (c : Int32) : sm_call xs n_X10_isPlayer [.ref 45, .int c] (hp S) = some (some (.int (b2i (hs_C p c))), hp S) := by
  have h2 := c_in (xs := xs) (h := hp S) c.toInt64 0 (nI p - 1).toInt64
  rw [in_C (by omega)] at h2
  rw [c0_X10_isPlayer]
  cases hb : hs_C p c with
  | false => rw [hb, b2i_f] at h2; simp only [s_X10_isPlayer_0, s_X10_isPlayer_1, s_X10_isPlayer_2, s_X10_isPlayer_3, s_X10_isPlayer_4, s_X10_isPlayer_7, s_X10_isPlayer_8, s_X10_isPlayer_9, s_X10_isPlayer_10, s_X10_isPlayer_13z0, s_X10_isPlayer_13z1, Option.isSome_some, Option.getD_some, sm_clr_i, sm_clr_r, sm_clr_n, sm_clr_o, sm_clr_l, sm_rr_some, sm_rh_some, Option.toList_some, Option.toList_none, List.cons_append, List.nil_append, List.map_cons, List.map_nil, List.sum_cons, List.sum_nil, sm_cat_i, sm_cat_r, sm_cat_n, sm_cat_l, Nat.reduceAdd, Nat.reduceLeDiff, Nat.zero_add, Nat.add_zero, if_true, if_false, not_true_eq_false, not_false_eq_true, and_self, true_and, and_true, hc_45, m_players, hn, h2]; rfl
  | true => rw [hb, b2i_t] at h2; simp only [s_X10_isPlayer_0, s_X10_isPlayer_1, s_X10_isPlayer_2, s_X10_isPlayer_3, s_X10_isPlayer_4, s_X10_isPlayer_7, s_X10_isPlayer_8, s_X10_isPlayer_9, s_X10_isPlayer_10, s_X10_isPlayer_13z0, s_X10_isPlayer_13z1, Option.isSome_some, Option.getD_some, sm_clr_i, sm_clr_r, sm_clr_n, sm_clr_o, sm_clr_l, sm_rr_some, sm_rh_some, Option.toList_some, Option.toList_none, List.cons_append, List.nil_append, List.map_cons, List.map_nil, List.sum_cons, List.sum_nil, sm_cat_i, sm_cat_r, sm_cat_n, sm_cat_l, Nat.reduceAdd, Nat.reduceLeDiff, Nat.zero_add, Nat.add_zero, if_true, if_false, not_true_eq_false, not_false_eq_true, and_self, true_and, and_true, hc_45, m_players, hn, h2]; rfl
theorem m_areTwo (hn : gA S 1 10 = nI p) (hp5 : p ≤ 5) (a b : Int32) : sm_call xs n_X10_areTwo [.ref 45, .int a, .int b] (hp S) = some (some (.int (b2i (hs_P p a b))), hp S) := by
  have hA := m_isPlayer (xs := xs) hn hp5 a
  have hB := m_isPlayer (xs := xs) hn hp5 b
  rw [c0_X10_areTwo]
  unfold hs_P
  cases ha : hs_C p a with
  | false =>
    rw [ha, b2i_f] at hA
    simp only [s_X10_areTwo_0, s_X10_areTwo_1, s_X10_areTwo_2, s_X10_areTwo_5, s_X10_areTwo_8, s_X10_areTwo_9, s_X10_areTwo_10, s_X10_areTwo_13, s_X10_areTwo_16, s_X10_areTwo_17, s_X10_areTwo_18, s_X10_areTwo_21, s_X10_areTwo_22, s_X10_areTwo_25, s_X10_areTwo_26z0, s_X10_areTwo_26z1, Option.isSome_some, Option.getD_some, sm_clr_i, sm_clr_r, sm_clr_n, sm_clr_o, sm_clr_l, sm_rr_some, sm_rh_some, Option.toList_some, Option.toList_none, List.cons_append, List.nil_append, List.map_cons, List.map_nil, List.sum_cons, List.sum_nil, sm_cat_i, sm_cat_r, sm_cat_n, sm_cat_l, Nat.reduceAdd, Nat.reduceLeDiff, Nat.zero_add, Nat.add_zero, if_true, if_false, not_true_eq_false, not_false_eq_true, and_self, true_and, and_true, hc_45, hA]
    rfl
  | true =>
    rw [ha, b2i_t] at hA
    cases hb : hs_C p b with
    | false =>
      rw [hb, b2i_f] at hB
      simp only [s_X10_areTwo_0, s_X10_areTwo_1, s_X10_areTwo_2, s_X10_areTwo_5, s_X10_areTwo_8, s_X10_areTwo_9, s_X10_areTwo_10, s_X10_areTwo_13, s_X10_areTwo_16, s_X10_areTwo_17, s_X10_areTwo_18, s_X10_areTwo_21, s_X10_areTwo_22, s_X10_areTwo_25, s_X10_areTwo_26z0, s_X10_areTwo_26z1, Option.isSome_some, Option.getD_some, sm_clr_i, sm_clr_r, sm_clr_n, sm_clr_o, sm_clr_l, sm_rr_some, sm_rh_some, Option.toList_some, Option.toList_none, List.cons_append, List.nil_append, List.map_cons, List.map_nil, List.sum_cons, List.sum_nil, sm_cat_i, sm_cat_r, sm_cat_n, sm_cat_l, Nat.reduceAdd, Nat.reduceLeDiff, Nat.zero_add, Nat.add_zero, if_true, if_false, not_true_eq_false, not_false_eq_true, and_self, true_and, and_true, hc_45, hA, hB]
      rfl
    | true =>
      rw [hb, b2i_t] at hB
      by_cases hab : a = b
      · subst hab
        simp only [s_X10_areTwo_0, s_X10_areTwo_1, s_X10_areTwo_2, s_X10_areTwo_5, s_X10_areTwo_8, s_X10_areTwo_9, s_X10_areTwo_10, s_X10_areTwo_13, s_X10_areTwo_16, s_X10_areTwo_17, s_X10_areTwo_18, s_X10_areTwo_21, s_X10_areTwo_22, s_X10_areTwo_25, s_X10_areTwo_26z0, s_X10_areTwo_26z1, Option.isSome_some, Option.getD_some, sm_clr_i, sm_clr_r, sm_clr_n, sm_clr_o, sm_clr_l, sm_rr_some, sm_rh_some, Option.toList_some, Option.toList_none, List.cons_append, List.nil_append, List.map_cons, List.map_nil, List.sum_cons, List.sum_nil, sm_cat_i, sm_cat_r, sm_cat_n, sm_cat_l, Nat.reduceAdd, Nat.reduceLeDiff, Nat.zero_add, Nat.add_zero, if_true, if_false, not_true_eq_false, not_false_eq_true, and_self, true_and, and_true, hc_45, hA]
        simp [b2i]
      · simp only [s_X10_areTwo_0, s_X10_areTwo_1, s_X10_areTwo_2, s_X10_areTwo_5, s_X10_areTwo_8, s_X10_areTwo_9, s_X10_areTwo_10, s_X10_areTwo_13, s_X10_areTwo_16, s_X10_areTwo_17, s_X10_areTwo_18, s_X10_areTwo_21, s_X10_areTwo_22, s_X10_areTwo_25, s_X10_areTwo_26z0, s_X10_areTwo_26z1, Option.isSome_some, Option.getD_some, sm_clr_i, sm_clr_r, sm_clr_n, sm_clr_o, sm_clr_l, sm_rr_some, sm_rh_some, Option.toList_some, Option.toList_none, List.cons_append, List.nil_append, List.map_cons, List.map_nil, List.sum_cons, List.sum_nil, sm_cat_i, sm_cat_r, sm_cat_n, sm_cat_l, Nat.reduceAdd, Nat.reduceLeDiff, Nat.zero_add, Nat.add_zero, if_true, if_false, not_true_eq_false, not_false_eq_true, and_self, true_and, and_true, hc_45, hA, hB, hab]
        simp [b2i, hab]
theorem m_kind {k : Nat} (hk : k < 5) : sm_call xs n_X10_kind [.ref 45, .int (nI k)] (hp S) = some (some (.int (gA S 1 (11 + k))), hp S) := by
  have h1 : 11 + k < 16 := by omega
  rw [c0_X10_kind]
  simp only [s_X10_kind_0, s_X10_kind_1, s_X10_kind_4, s_X10_kind_6, s_X10_kind_7, s_X10_kind_8, s_X10_kind_9, Option.isSome_some, Option.getD_some, sm_clr_i, sm_clr_r, sm_clr_n, sm_clr_o, sm_clr_l, sm_rr_some, sm_rh_some, Option.toList_some, Option.toList_none, List.cons_append, List.nil_append, List.map_cons, List.map_nil, List.sum_cons, List.sum_nil, sm_cat_i, sm_cat_r, sm_cat_n, sm_cat_l, Nat.reduceAdd, Nat.reduceLeDiff, Nat.zero_add, Nat.add_zero, if_true, if_false, not_true_eq_false, not_false_eq_true, and_self, true_and, and_true, hf_45_0, hf_45_1, hf_45_2, hf_45_3, hf_45_4, hf_45_5, hf_45_6, hf_45_7, hf_45_8, hf_45_9, hf_45_10, hf_45_11, hf_45_12, hf_45_13, hf_45_14, hf_45_15, hf_45_16, hf_45_17, hf_45_18, hf_45_19, hf_45_20, hf_45_21, hc_0, hc_31, hc_33, hc_36, hc_40, hc_41, hc_42, hc_43, hc_45, ha_46, ha_47, ha_48, ha_49, ha_50, ha_51, ha_52, ha_53, ha_54, ha_55, ha_56, ha_57, ha_58, ha_59, hw_45_6, hw_45_7, hw_45_8, hw_45_9, hw_45_10, hw_45_11, hw_45_12, hw_45_17, hs_46, hs_47, hs_48, hs_49, hs_50, hs_51, hs_52, hs_53, hs_55, hs_56, hs_57, hs_58, hs_59, ia_11, ai_r, ai_e, h1]
theorem m_owes {p : Nat} (hp5 : p < 5) : sm_call xs n_X10_owes [.ref 45, .int (nI p)] (hp S) = some (some (.int (itr (fun c s => s + gA S 5 (14 + (5 * p + c))) 5 0 0)), hp S) := by
  rw [c0_X10_owes]
  simp only [s_X10_owes_0, s_X10_owes_1, s_X10_owes_2, s_X10_owes_3, s_X10_owes_5, s_X10_owes_6, s_X10_owes_9, s_X10_owes_10, s_X10_owes_11, s_X10_owes_14, s_X10_owes_16, s_X10_owes_17, s_X10_owes_18, s_X10_owes_19, s_X10_owes_20, s_X10_owes_21, s_X10_owes_22, s_X10_owes_23, s_X10_owes_24, s_X10_owes_25, s_X10_owes_28, s_X10_owes_31, s_X10_owes_32, Option.isSome_some, Option.getD_some, sm_clr_i, sm_clr_r, sm_clr_n, sm_clr_o, sm_clr_l, sm_rr_some, sm_rh_some, Option.toList_some, Option.toList_none, List.cons_append, List.nil_append, List.map_cons, List.map_nil, List.sum_cons, List.sum_nil, sm_cat_i, sm_cat_r, sm_cat_n, sm_cat_l, Nat.reduceAdd, Nat.reduceLeDiff, Nat.zero_add, Nat.add_zero, if_true, if_false, not_true_eq_false, not_false_eq_true, and_self, true_and, and_true]
  refine itr_run (fun c s => sm_run xs n_X10_owes 4 [some (.ref 45), some (.int (nI p)), some (.int s), some (.int (nI c))] [] (hp S)) _ 5 (fun s => some (some (.int s), hp S)) (fun s => ?_) (fun c s hc => ?_) 5 0 0 rfl
  · try dsimp only
    rw [s_X10_owes_4]
    simp only [s_X10_owes_0, s_X10_owes_1, s_X10_owes_2, s_X10_owes_3, s_X10_owes_5, s_X10_owes_6, s_X10_owes_9, s_X10_owes_10, s_X10_owes_11, s_X10_owes_14, s_X10_owes_16, s_X10_owes_17, s_X10_owes_18, s_X10_owes_19, s_X10_owes_20, s_X10_owes_21, s_X10_owes_22, s_X10_owes_23, s_X10_owes_24, s_X10_owes_25, s_X10_owes_28, s_X10_owes_31, s_X10_owes_32, Option.isSome_some, Option.getD_some, sm_clr_i, sm_clr_r, sm_clr_n, sm_clr_o, sm_clr_l, sm_rr_some, sm_rh_some, Option.toList_some, Option.toList_none, List.cons_append, List.nil_append, List.map_cons, List.map_nil, List.sum_cons, List.sum_nil, sm_cat_i, sm_cat_r, sm_cat_n, sm_cat_l, Nat.reduceAdd, Nat.reduceLeDiff, Nat.zero_add, Nat.add_zero, if_true, if_false, not_true_eq_false, not_false_eq_true, and_self, true_and, and_true, show (5 : Int32) ≤ nI 5 from by decide]
  · have h1 : 14 + (5 * p + c) < 40 := by omega
    have h2 : ¬ (5 : Int32) ≤ nI c := nI_ge (b := 5) hc (by omega)
    try dsimp only
    rw [s_X10_owes_4]
    simp only [s_X10_owes_0, s_X10_owes_1, s_X10_owes_2, s_X10_owes_3, s_X10_owes_5, s_X10_owes_6, s_X10_owes_9, s_X10_owes_10, s_X10_owes_11, s_X10_owes_14, s_X10_owes_16, s_X10_owes_17, s_X10_owes_18, s_X10_owes_19, s_X10_owes_20, s_X10_owes_21, s_X10_owes_22, s_X10_owes_23, s_X10_owes_24, s_X10_owes_25, s_X10_owes_28, s_X10_owes_31, s_X10_owes_32, Option.isSome_some, Option.getD_some, sm_clr_i, sm_clr_r, sm_clr_n, sm_clr_o, sm_clr_l, sm_rr_some, sm_rh_some, Option.toList_some, Option.toList_none, List.cons_append, List.nil_append, List.map_cons, List.map_nil, List.sum_cons, List.sum_nil, sm_cat_i, sm_cat_r, sm_cat_n, sm_cat_l, Nat.reduceAdd, Nat.reduceLeDiff, Nat.zero_add, Nat.add_zero, if_true, if_false, not_true_eq_false, not_false_eq_true, and_self, true_and, and_true, hf_45_0, hf_45_1, hf_45_2, hf_45_3, hf_45_4, hf_45_5, hf_45_6, hf_45_7, hf_45_8, hf_45_9, hf_45_10, hf_45_11, hf_45_12, hf_45_13, hf_45_14, hf_45_15, hf_45_16, hf_45_17, hf_45_18, hf_45_19, hf_45_20, hf_45_21, hc_0, hc_31, hc_33, hc_36, hc_40, hc_41, hc_42, hc_43, hc_45, ha_46, ha_47, ha_48, ha_49, ha_50, ha_51, ha_52, ha_53, ha_54, ha_55, ha_56, ha_57, ha_58, ha_59, hw_45_6, hw_45_7, hw_45_8, hw_45_9, hw_45_10, hw_45_11, hw_45_12, hw_45_17, hs_46, hs_47, hs_48, hs_49, hs_50, hs_51, hs_52, hs_53, hs_55, hs_56, hs_57, hs_58, hs_59, h2, ia_m5, ia_14, nI_add, Nat.add_assoc, ai_r, ai_e, h1, nI_1]
theorem m_owed {p : Nat} (hp5 : p < 5) : sm_call xs n_X10_owed [.ref 45, .int (nI p)] (hp S) = some (some (.int (itr (fun c s => s + gA S 5 (14 + (5 * c + p))) 5 0 0)), hp S) := by
  rw [c0_X10_owed]
  simp only [s_X10_owed_0, s_X10_owed_1, s_X10_owed_2, s_X10_owed_3, s_X10_owed_5, s_X10_owed_6, s_X10_owed_9, s_X10_owed_10, s_X10_owed_11, s_X10_owed_14, s_X10_owed_16, s_X10_owed_17, s_X10_owed_18, s_X10_owed_19, s_X10_owed_20, s_X10_owed_21, s_X10_owed_22, s_X10_owed_23, s_X10_owed_24, s_X10_owed_25, s_X10_owed_28, s_X10_owed_31, s_X10_owed_32, Option.isSome_some, Option.getD_some, sm_clr_i, sm_clr_r, sm_clr_n, sm_clr_o, sm_clr_l, sm_rr_some, sm_rh_some, Option.toList_some, Option.toList_none, List.cons_append, List.nil_append, List.map_cons, List.map_nil, List.sum_cons, List.sum_nil, sm_cat_i, sm_cat_r, sm_cat_n, sm_cat_l, Nat.reduceAdd, Nat.reduceLeDiff, Nat.zero_add, Nat.add_zero, if_true, if_false, not_true_eq_false, not_false_eq_true, and_self, true_and, and_true]
  refine itr_run (fun c s => sm_run xs n_X10_owed 4 [some (.ref 45), some (.int (nI p)), some (.int s), some (.int (nI c))] [] (hp S)) _ 5 (fun s => some (some (.int s), hp S)) (fun s => ?_) (fun c s hc => ?_) 5 0 0 rfl
  · try dsimp only
    rw [s_X10_owed_4]
    simp only [s_X10_owed_0, s_X10_owed_1, s_X10_owed_2, s_X10_owed_3, s_X10_owed_5, s_X10_owed_6, s_X10_owed_9, s_X10_owed_10, s_X10_owed_11, s_X10_owed_14, s_X10_owed_16, s_X10_owed_17, s_X10_owed_18, s_X10_owed_19, s_X10_owed_20, s_X10_owed_21, s_X10_owed_22, s_X10_owed_23, s_X10_owed_24, s_X10_owed_25, s_X10_owed_28, s_X10_owed_31, s_X10_owed_32, Option.isSome_some, Option.getD_some, sm_clr_i, sm_clr_r, sm_clr_n, sm_clr_o, sm_clr_l, sm_rr_some, sm_rh_some, Option.toList_some, Option.toList_none, List.cons_append, List.nil_append, List.map_cons, List.map_nil, List.sum_cons, List.sum_nil, sm_cat_i, sm_cat_r, sm_cat_n, sm_cat_l, Nat.reduceAdd, Nat.reduceLeDiff, Nat.zero_add, Nat.add_zero, if_true, if_false, not_true_eq_false, not_false_eq_true, and_self, true_and, and_true, show (5 : Int32) ≤ nI 5 from by decide]
  · have h1 : 14 + (5 * c + p) < 40 := by omega
    have h2 : ¬ (5 : Int32) ≤ nI c := nI_ge (b := 5) hc (by omega)
    try dsimp only
    rw [s_X10_owed_4]
    simp only [s_X10_owed_0, s_X10_owed_1, s_X10_owed_2, s_X10_owed_3, s_X10_owed_5, s_X10_owed_6, s_X10_owed_9, s_X10_owed_10, s_X10_owed_11, s_X10_owed_14, s_X10_owed_16, s_X10_owed_17, s_X10_owed_18, s_X10_owed_19, s_X10_owed_20, s_X10_owed_21, s_X10_owed_22, s_X10_owed_23, s_X10_owed_24, s_X10_owed_25, s_X10_owed_28, s_X10_owed_31, s_X10_owed_32, Option.isSome_some, Option.getD_some, sm_clr_i, sm_clr_r, sm_clr_n, sm_clr_o, sm_clr_l, sm_rr_some, sm_rh_some, Option.toList_some, Option.toList_none, List.cons_append, List.nil_append, List.map_cons, List.map_nil, List.sum_cons, List.sum_nil, sm_cat_i, sm_cat_r, sm_cat_n, sm_cat_l, Nat.reduceAdd, Nat.reduceLeDiff, Nat.zero_add, Nat.add_zero, if_true, if_false, not_true_eq_false, not_false_eq_true, and_self, true_and, and_true, hf_45_0, hf_45_1, hf_45_2, hf_45_3, hf_45_4, hf_45_5, hf_45_6, hf_45_7, hf_45_8, hf_45_9, hf_45_10, hf_45_11, hf_45_12, hf_45_13, hf_45_14, hf_45_15, hf_45_16, hf_45_17, hf_45_18, hf_45_19, hf_45_20, hf_45_21, hc_0, hc_31, hc_33, hc_36, hc_40, hc_41, hc_42, hc_43, hc_45, ha_46, ha_47, ha_48, ha_49, ha_50, ha_51, ha_52, ha_53, ha_54, ha_55, ha_56, ha_57, ha_58, ha_59, hw_45_6, hw_45_7, hw_45_8, hw_45_9, hw_45_10, hw_45_11, hw_45_12, hw_45_17, hs_46, hs_47, hs_48, hs_49, hs_50, hs_51, hs_52, hs_53, hs_55, hs_56, hs_57, hs_58, hs_59, h2, ia_m5, ia_14, nI_add, Nat.add_assoc, ai_r, ai_e, h1, nI_1]
theorem m_has {k : Nat} (hk : k < 5) (w : Int32) : sm_call xs n_X10_has [.ref 45, .int (nI k), .int w] (hp S) = some (some (.int (if gA S 1 (11 + k) = 3 then w / 2 else w)), hp S) := by
  have h1 := m_kind (xs := xs) (S := S) hk
  rw [c0_X10_has]
  by_cases h3 : gA S 1 (11 + k) = 3
  · simp only [s_X10_has_0, s_X10_has_1, s_X10_has_2, s_X10_has_5, s_X10_has_6, s_X10_has_9, s_X10_has_10, s_X10_has_11, s_X10_has_12, s_X10_has_15, s_X10_has_16, Option.isSome_some, Option.getD_some, sm_clr_i, sm_clr_r, sm_clr_n, sm_clr_o, sm_clr_l, sm_rr_some, sm_rh_some, Option.toList_some, Option.toList_none, List.cons_append, List.nil_append, List.map_cons, List.map_nil, List.sum_cons, List.sum_nil, sm_cat_i, sm_cat_r, sm_cat_n, sm_cat_l, Nat.reduceAdd, Nat.reduceLeDiff, Nat.zero_add, Nat.add_zero, if_true, if_false, not_true_eq_false, not_false_eq_true, and_self, true_and, and_true, hc_45, h1, h3, show ¬ (2 : Int32) = 0 from by decide]
  · simp only [s_X10_has_0, s_X10_has_1, s_X10_has_2, s_X10_has_5, s_X10_has_6, s_X10_has_9, s_X10_has_10, s_X10_has_11, s_X10_has_12, s_X10_has_15, s_X10_has_16, Option.isSome_some, Option.getD_some, sm_clr_i, sm_clr_r, sm_clr_n, sm_clr_o, sm_clr_l, sm_rr_some, sm_rh_some, Option.toList_some, Option.toList_none, List.cons_append, List.nil_append, List.map_cons, List.map_nil, List.sum_cons, List.sum_nil, sm_cat_i, sm_cat_r, sm_cat_n, sm_cat_l, Nat.reduceAdd, Nat.reduceLeDiff, Nat.zero_add, Nat.add_zero, if_true, if_false, not_true_eq_false, not_false_eq_true, and_self, true_and, and_true, hc_45, h1, h3]
-- where a marble stops
def sl_of (G : Nat → Int32) : Nat → Int32 := fun c => G (1 + c)
theorem m_rolls {q : Nat} {w : Nat → Int32} {N : Nat} (hn : gA S 1 0 = nI n) (hn9 : n ≤ 9) (hq : sm_arr (hp S) q .int = some (ls N w)) (hN : 9 ≤ N ∧ N ≤ 1000) (f : Int32) : sm_call xs n_X10_rolls [.ref 45, .ref q, .int f] (hp S) = some (some (.int (rf_S w (sl_of (gA S 1)) n 0 f (-1))), hp S) := by
  rw [c0_X10_rolls]
  simp only [s_X10_rolls_0, s_X10_rolls_1, s_X10_rolls_2, s_X10_rolls_3, s_X10_rolls_6, s_X10_rolls_9, s_X10_rolls_12, s_X10_rolls_14, s_X10_rolls_15, s_X10_rolls_18, s_X10_rolls_21, s_X10_rolls_22, s_X10_rolls_24, s_X10_rolls_25, s_X10_rolls_28, s_X10_rolls_30, s_X10_rolls_31, s_X10_rolls_32, s_X10_rolls_33, s_X10_rolls_34, s_X10_rolls_37, s_X10_rolls_38, s_X10_rolls_40, s_X10_rolls_41, s_X10_rolls_42, s_X10_rolls_43, s_X10_rolls_44, s_X10_rolls_45, s_X10_rolls_48, s_X10_rolls_50, Option.isSome_some, Option.getD_some, sm_clr_i, sm_clr_r, sm_clr_n, sm_clr_o, sm_clr_l, sm_rr_some, sm_rh_some, Option.toList_some, Option.toList_none, List.cons_append, List.nil_append, List.map_cons, List.map_nil, List.sum_cons, List.sum_nil, sm_cat_i, sm_cat_r, sm_cat_n, sm_cat_l, Nat.reduceAdd, Nat.reduceLeDiff, Nat.zero_add, Nat.add_zero, if_true, if_false, not_true_eq_false, not_false_eq_true, and_self, true_and, and_true]
  have hl : ∀ (k c : Nat) (left a : Int32), c + k = n → a + 1 = nI c → sm_run xs n_X10_rolls 5 [some (.ref 45), some (.ref q), some (.int f), some (.int left), some (.int a)] [] (hp S) = some (some (.int (rf_S w (sl_of (gA S 1)) k c left a)), hp S) := by
    intro k
    induction k with
    | zero =>
      intro c left a hk ha
      rw [s_X10_rolls_5]
      show _ = some (some (Value.int (if 0 < left then nI c else a)), hp S)
      by_cases hl : left ≤ 0
      · rw [if_neg (Int32.not_lt.mpr hl)]
        simp only [s_X10_rolls_0, s_X10_rolls_1, s_X10_rolls_2, s_X10_rolls_3, s_X10_rolls_6, s_X10_rolls_9, s_X10_rolls_12, s_X10_rolls_14, s_X10_rolls_15, s_X10_rolls_18, s_X10_rolls_21, s_X10_rolls_22, s_X10_rolls_24, s_X10_rolls_25, s_X10_rolls_28, s_X10_rolls_30, s_X10_rolls_31, s_X10_rolls_32, s_X10_rolls_33, s_X10_rolls_34, s_X10_rolls_37, s_X10_rolls_38, s_X10_rolls_40, s_X10_rolls_41, s_X10_rolls_42, s_X10_rolls_43, s_X10_rolls_44, s_X10_rolls_45, s_X10_rolls_48, s_X10_rolls_50, Option.isSome_some, Option.getD_some, sm_clr_i, sm_clr_r, sm_clr_n, sm_clr_o, sm_clr_l, sm_rr_some, sm_rh_some, Option.toList_some, Option.toList_none, List.cons_append, List.nil_append, List.map_cons, List.map_nil, List.sum_cons, List.sum_nil, sm_cat_i, sm_cat_r, sm_cat_n, sm_cat_l, Nat.reduceAdd, Nat.reduceLeDiff, Nat.zero_add, Nat.add_zero, if_true, if_false, not_true_eq_false, not_false_eq_true, and_self, true_and, and_true, hl]
      · rw [if_pos (Int32.not_le.mp hl)]
        have hcn : nI c = nI n := by rw [show c = n by omega]
        simp only [s_X10_rolls_0, s_X10_rolls_1, s_X10_rolls_2, s_X10_rolls_3, s_X10_rolls_6, s_X10_rolls_9, s_X10_rolls_12, s_X10_rolls_14, s_X10_rolls_15, s_X10_rolls_18, s_X10_rolls_21, s_X10_rolls_22, s_X10_rolls_24, s_X10_rolls_25, s_X10_rolls_28, s_X10_rolls_30, s_X10_rolls_31, s_X10_rolls_32, s_X10_rolls_33, s_X10_rolls_34, s_X10_rolls_37, s_X10_rolls_38, s_X10_rolls_40, s_X10_rolls_41, s_X10_rolls_42, s_X10_rolls_43, s_X10_rolls_44, s_X10_rolls_45, s_X10_rolls_48, s_X10_rolls_50, Option.isSome_some, Option.getD_some, sm_clr_i, sm_clr_r, sm_clr_n, sm_clr_o, sm_clr_l, sm_rr_some, sm_rh_some, Option.toList_some, Option.toList_none, List.cons_append, List.nil_append, List.map_cons, List.map_nil, List.sum_cons, List.sum_nil, sm_cat_i, sm_cat_r, sm_cat_n, sm_cat_l, Nat.reduceAdd, Nat.reduceLeDiff, Nat.zero_add, Nat.add_zero, if_true, if_false, not_true_eq_false, not_false_eq_true, and_self, true_and, and_true, hl, ha, hc_45, m_cells, hn, hcn]
    | succ k ih =>
      intro c left a hk ha
      have hne : ¬ nI c = nI n := fun e => by have := (nI_eq (by omega) (by omega)).mp e; omega
      have i1 : sm_inr (some (ls N w)) (nI c) = true := ai_r (by omega)
      have e1 : sm_el (some (ls N w)) (nI c) = w c := ai_e (by omega)
      have h2 : 1 + c < 16 := by omega
      rw [s_X10_rolls_5]
      show _ = some (some (Value.int (if left ≤ 0 then a else if 0 < w c then nI c else rf_S w (sl_of (gA S 1)) k (c + 1) (left + (2 - gA S 1 (1 + c) - 1)) (nI c))), hp S)
      by_cases hl : left ≤ 0
      · rw [if_pos hl]
        simp only [s_X10_rolls_0, s_X10_rolls_1, s_X10_rolls_2, s_X10_rolls_3, s_X10_rolls_6, s_X10_rolls_9, s_X10_rolls_12, s_X10_rolls_14, s_X10_rolls_15, s_X10_rolls_18, s_X10_rolls_21, s_X10_rolls_22, s_X10_rolls_24, s_X10_rolls_25, s_X10_rolls_28, s_X10_rolls_30, s_X10_rolls_31, s_X10_rolls_32, s_X10_rolls_33, s_X10_rolls_34, s_X10_rolls_37, s_X10_rolls_38, s_X10_rolls_40, s_X10_rolls_41, s_X10_rolls_42, s_X10_rolls_43, s_X10_rolls_44, s_X10_rolls_45, s_X10_rolls_48, s_X10_rolls_50, Option.isSome_some, Option.getD_some, sm_clr_i, sm_clr_r, sm_clr_n, sm_clr_o, sm_clr_l, sm_rr_some, sm_rh_some, Option.toList_some, Option.toList_none, List.cons_append, List.nil_append, List.map_cons, List.map_nil, List.sum_cons, List.sum_nil, sm_cat_i, sm_cat_r, sm_cat_n, sm_cat_l, Nat.reduceAdd, Nat.reduceLeDiff, Nat.zero_add, Nat.add_zero, if_true, if_false, not_true_eq_false, not_false_eq_true, and_self, true_and, and_true, hl]
      · rw [if_neg hl]
        by_cases hw0 : w c ≤ 0
        · rw [if_neg (Int32.not_lt.mpr hw0)]
          simp only [s_X10_rolls_0, s_X10_rolls_1, s_X10_rolls_2, s_X10_rolls_3, s_X10_rolls_6, s_X10_rolls_9, s_X10_rolls_12, s_X10_rolls_14, s_X10_rolls_15, s_X10_rolls_18, s_X10_rolls_21, s_X10_rolls_22, s_X10_rolls_24, s_X10_rolls_25, s_X10_rolls_28, s_X10_rolls_30, s_X10_rolls_31, s_X10_rolls_32, s_X10_rolls_33, s_X10_rolls_34, s_X10_rolls_37, s_X10_rolls_38, s_X10_rolls_40, s_X10_rolls_41, s_X10_rolls_42, s_X10_rolls_43, s_X10_rolls_44, s_X10_rolls_45, s_X10_rolls_48, s_X10_rolls_50, Option.isSome_some, Option.getD_some, sm_clr_i, sm_clr_r, sm_clr_n, sm_clr_o, sm_clr_l, sm_rr_some, sm_rh_some, Option.toList_some, Option.toList_none, List.cons_append, List.nil_append, List.map_cons, List.map_nil, List.sum_cons, List.sum_nil, sm_cat_i, sm_cat_r, sm_cat_n, sm_cat_l, Nat.reduceAdd, Nat.reduceLeDiff, Nat.zero_add, Nat.add_zero, if_true, if_false, not_true_eq_false, not_false_eq_true, and_self, true_and, and_true, hl, ha, hc_45, m_cells, hn, hne, hq, i1, e1, hw0, hf_45_0, ha_46, ia_1, ai_r, ai_e, h2]
          rw [ih (c + 1) _ (nI c) (by omega) (nI_1 c)]
          rw [show (2 : Int32) - gA S 1 (1 + c) - 1 = 1 - gA S 1 (1 + c) by
            have h1 : (2 : Int32) = 1 + 1 := rfl
            rw [h1]
            apply Int32.toBitVec_inj.mp
            simp only [Int32.toBitVec_sub, Int32.toBitVec_add]
            bv_omega]
        · rw [if_pos (Int32.not_le.mp hw0)]
          simp only [s_X10_rolls_0, s_X10_rolls_1, s_X10_rolls_2, s_X10_rolls_3, s_X10_rolls_6, s_X10_rolls_9, s_X10_rolls_12, s_X10_rolls_14, s_X10_rolls_15, s_X10_rolls_18, s_X10_rolls_21, s_X10_rolls_22, s_X10_rolls_24, s_X10_rolls_25, s_X10_rolls_28, s_X10_rolls_30, s_X10_rolls_31, s_X10_rolls_32, s_X10_rolls_33, s_X10_rolls_34, s_X10_rolls_37, s_X10_rolls_38, s_X10_rolls_40, s_X10_rolls_41, s_X10_rolls_42, s_X10_rolls_43, s_X10_rolls_44, s_X10_rolls_45, s_X10_rolls_48, s_X10_rolls_50, Option.isSome_some, Option.getD_some, sm_clr_i, sm_clr_r, sm_clr_n, sm_clr_o, sm_clr_l, sm_rr_some, sm_rh_some, Option.toList_some, Option.toList_none, List.cons_append, List.nil_append, List.map_cons, List.map_nil, List.sum_cons, List.sum_nil, sm_cat_i, sm_cat_r, sm_cat_n, sm_cat_l, Nat.reduceAdd, Nat.reduceLeDiff, Nat.zero_add, Nat.add_zero, if_true, if_false, not_true_eq_false, not_false_eq_true, and_self, true_and, and_true, hl, ha, hc_45, m_cells, hn, hne, hq, i1, e1, hw0]
  exact hl n 0 f (-1) (by omega) rfl
def wm_F (w : Nat → Int32) (n : Nat) (c : Int32) : Int32 := if hs_C n c then w c.toNatClampNeg else 0
theorem m_worthAt {q : Nat} {w : Nat → Int32} {N : Nat} (hn : gA S 1 0 = nI n) (hn9 : n ≤ 9) (hq : sm_arr (hp S) q .int = some (ls N w)) (hN : 9 ≤ N ∧ N ≤ 1000) (c : Int32) : sm_call xs n_X10_worthAt [.ref 45, .ref q, .int c] (hp S) = some (some (.int (wm_F w n c)), hp S) := by
  have h2 := c_in (xs := xs) (h := hp S) c.toInt64 0 (nI n - 1).toInt64
  rw [in_C (by omega)] at h2
  rw [c0_X10_worthAt]
  unfold wm_F
  cases hb : hs_C n c with
  | false => rw [hb, b2i_f] at h2; simp only [s_X10_worthAt_0, s_X10_worthAt_1, s_X10_worthAt_2, s_X10_worthAt_3, s_X10_worthAt_4, s_X10_worthAt_7, s_X10_worthAt_8, s_X10_worthAt_9, s_X10_worthAt_10, s_X10_worthAt_13, s_X10_worthAt_16, s_X10_worthAt_17, s_X10_worthAt_18, s_X10_worthAt_19, s_X10_worthAt_22, s_X10_worthAt_23, Option.isSome_some, Option.getD_some, sm_clr_i, sm_clr_r, sm_clr_n, sm_clr_o, sm_clr_l, sm_rr_some, sm_rh_some, Option.toList_some, Option.toList_none, List.cons_append, List.nil_append, List.map_cons, List.map_nil, List.sum_cons, List.sum_nil, sm_cat_i, sm_cat_r, sm_cat_n, sm_cat_l, Nat.reduceAdd, Nat.reduceLeDiff, Nat.zero_add, Nat.add_zero, if_true, if_false, not_true_eq_false, not_false_eq_true, and_self, true_and, and_true, hc_45, m_cells, hn, h2]; rfl
  | true =>
    rw [hb, b2i_t] at h2
    obtain ⟨k, hk, rfl⟩ := hs_C_of hb (by omega)
    have i1 : sm_inr (some (ls N w)) (nI k) = true := ai_r (by omega)
    have e1 : sm_el (some (ls N w)) (nI k) = w k := ai_e (by omega)
    simp only [s_X10_worthAt_0, s_X10_worthAt_1, s_X10_worthAt_2, s_X10_worthAt_3, s_X10_worthAt_4, s_X10_worthAt_7, s_X10_worthAt_8, s_X10_worthAt_9, s_X10_worthAt_10, s_X10_worthAt_13, s_X10_worthAt_16, s_X10_worthAt_17, s_X10_worthAt_18, s_X10_worthAt_19, s_X10_worthAt_22, s_X10_worthAt_23, Option.isSome_some, Option.getD_some, sm_clr_i, sm_clr_r, sm_clr_n, sm_clr_o, sm_clr_l, sm_rr_some, sm_rh_some, Option.toList_some, Option.toList_none, List.cons_append, List.nil_append, List.map_cons, List.map_nil, List.sum_cons, List.sum_nil, sm_cat_i, sm_cat_r, sm_cat_n, sm_cat_l, Nat.reduceAdd, Nat.reduceLeDiff, Nat.zero_add, Nat.add_zero, if_true, if_false, not_true_eq_false, not_false_eq_true, and_self, true_and, and_true, hc_45, m_cells, hn, h2, show ¬ (1 : Int32) = 0 from by decide, hq, i1, e1, nI_clamp (show k < 2 ^ 31 by omega)]
end MB

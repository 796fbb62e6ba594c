theorem lw_cond {l i : Nat} (hl : l < 2 ^ 30) (hi : i < 2 ^ 30) : (Int32.ofNat l - 5 < nI i) ↔ l < i + 5 := by
  have e1 : (Int32.ofNat l).toInt = l := Int32.toInt_ofNat_of_lt (by omega)
  have e2 : (nI i).toInt = i := Int32.toInt_ofNat_of_lt (by omega)
  have e3 : (Int32.ofNat l - 5).toInt = (l : Int) - 5 := by
    rw [Int32.toInt_sub, e1, show (5 : Int32).toInt = 5 from rfl]
    apply Int.bmod_eq_of_le <;> omega
  rw [Int32.lt_iff_toInt_lt, e2, e3]
  omega
section LP
variable {xs : List Int32}
theorem lw_turn {S : GS} (hG : hGrow xs) (C : cpl S) {i : Nat} (hi : i + 5 ≤ xs.length) (hx : xs.length < 2 ^ 30) : ∃ S', cpl S' ∧ sm_run xs n_L_law 18 [some (.ref (sm_B + 9)), some (.ref 0), some (.ref 45), some (.int (nI i))] [] (hp S) = sm_run xs n_L_law 908 [some (.ref (sm_B + 9)), some (.ref 0), some (.ref 45), some (.int (nI i))] [] (hp S') := by
  have q0 := hp_no (cpl_q C)
  have i0 : sm_inr (some xs) (nI i) = true := sm_inr_nI (by omega) (by omega)
  have c0 : ¬ (Int32.ofNat xs.length - 5 < nI i) := fun h => by have := (lw_cond hx (by omega)).mp h; omega
  have e : sm_run xs n_L_law 18 [some (.ref (sm_B + 9)), some (.ref 0), some (.ref 45), some (.int (nI i))] [] (hp S) = sm_run xs n_L_law 32 [some (.ref (sm_B + 9)), some (.ref 0), some (.ref 45), some (.int (nI i))] [.int (sm_el (some xs) (nI i) &&& 31)] (hp S) := by
    simp only [s_L_law_18, s_L_law_19, s_L_law_20, s_L_law_21, s_L_law_22, s_L_law_23, s_L_law_26, s_L_law_27, s_L_law_28, s_L_law_29, s_L_law_31, Option.isSome_some, Option.getD_some, sm_clr_i, sm_clr_r, sm_clr_n, sm_clr_o, sm_clr_l, zr_some, zh_some, Option.toList_some, Option.toList_none, List.cons_append, List.nil_append, List.map_cons, List.map_nil, List.sum_cons, List.sum_nil, sm_cat_i, sm_cat_r, sm_cat_n, sm_cat_l, Nat.reduceAdd, Nat.reduceLeDiff, Nat.zero_add, Nat.add_zero, if_true, if_false, not_true_eq_false, not_false_eq_true, and_self, true_and, and_true, q0, i0, c0]
  rw [e]
  clear e
  obtain ⟨x, hxx⟩ : ∃ x, x = sm_el (some xs) (nI i) &&& 31 := ⟨_, rfl⟩
  rw [← hxx, s_L_law_32]
  have h31 : xs.length < 2 ^ 31 := by omega
  by_cases h0 : x = 0
  · rw [if_pos h0]; exact lw_write hG C hi h31
  rw [if_neg h0]
  by_cases h1 : x = 1
  · rw [if_pos h1]; exact lw_erase hG C hi h31
  rw [if_neg h1]
  by_cases h2 : x = 2
  · rw [if_pos h2]; exact lw_fault hG C hi h31
  rw [if_neg h2]
  by_cases h3 : x = 3
  · rw [if_pos h3]; exact lw_patch hG C hi h31
  rw [if_neg h3]
  by_cases h4 : x = 4
  · rw [if_pos h4]; exact lw_cell hG C hi h31
  rw [if_neg h4]
  by_cases h5 : x = 5
  · rw [if_pos h5]; exact lw_player hG C hi h31
  rw [if_neg h5]
  by_cases h6 : x = 6
  · rw [if_pos h6]; exact lw_debt hG C hi h31
  rw [if_neg h6]
  by_cases h7 : x = 7
  · rw [if_pos h7]; exact lw_as hG C hi h31
  rw [if_neg h7]
  by_cases h8 : x = 8
  · rw [if_pos h8]; exact lw_shoot hG C hi h31
  rw [if_neg h8]
  by_cases h9 : x = 9
  · rw [if_pos h9]; exact lw_pay hG C hi h31
  rw [if_neg h9]
  by_cases h10 : x = 10
  · rw [if_pos h10]; exact lw_undo hG C hi h31
  rw [if_neg h10]
  by_cases h11 : x = 11
  · rw [if_pos h11]; exact lw_keep hG C hi h31
  rw [if_neg h11]
  by_cases h12 : x = 12
  · rw [if_pos h12]; exact lw_back hG C hi h31
  rw [if_neg h12]
  by_cases h13 : x = 13
  · rw [if_pos h13]; exact lw_stop hG C hi h31
  rw [if_neg h13]
  by_cases h14 : x = 14
  · rw [if_pos h14]; exact lw_odds hG C hi h31
  rw [if_neg h14]
  by_cases h15 : x = 15
  · rw [if_pos h15]; exact lw_mean hG C hi h31
  rw [if_neg h15]
  by_cases h16 : x = 16
  · rw [if_pos h16]; exact lw_best hG C hi h31
  rw [if_neg h16]
  by_cases h17 : x = 17
  · rw [if_pos h17]; exact lw_two hG C hi h31
  rw [if_neg h17]
  by_cases h18 : x = 18
  · rw [if_pos h18]; exact lw_seen hG C hi h31
  rw [if_neg h18]
  by_cases h19 : x = 19
  · rw [if_pos h19]; exact lw_forget hG C hi h31
  rw [if_neg h19]
  by_cases h20 : x = 20
  · rw [if_pos h20]; exact lw_slopes hG C hi h31
  rw [if_neg h20]
  by_cases h21 : x = 21
  · rw [if_pos h21]; exact lw_ruin hG C hi h31
  rw [if_neg h21]
  by_cases h22 : x = 22
  · rw [if_pos h22]; exact lw_netted hG C hi h31
  rw [if_neg h22]
  by_cases h23 : x = 23
  · rw [if_pos h23]; exact lw_ring hG C hi h31
  rw [if_neg h23]
  by_cases h24 : x = 24
  · rw [if_pos h24]; exact lw_poor hG C hi h31
  rw [if_neg h24]
  by_cases h25 : x = 25
  · rw [if_pos h25]; exact lw_rain hG C hi h31
  rw [if_neg h25]
  by_cases h26 : x = 26
  · rw [if_pos h26]; exact lw_count hG C hi h31
  rw [if_neg h26]
  exact ⟨S, C, rfl⟩
theorem lw_loop (hG : hGrow xs) (hx : xs.length < 2 ^ 29) : ∀ (f i : Nat) (S : GS), cpl S → i ≤ xs.length + 5 → xs.length + 5 < i + f → ∃ S', cpl S' ∧ sm_run xs n_L_law 18 [some (.ref (sm_B + 9)), some (.ref 0), some (.ref 45), some (.int (nI i))] [] (hp S) = some (some (.int 1), hp S') := by
  intro f
  induction f with
  | zero => intro i S C h1 h2; omega
  | succ f ih =>
    intro i S C h1 h2
    by_cases z : i + 5 ≤ xs.length
    · obtain ⟨S1, C1, e1⟩ := lw_turn hG C z (by omega)
      obtain ⟨S2, C2, e2⟩ := ih (i + 5) S1 C1 (by omega) (by omega)
      refine ⟨S2, C2, e1.trans (Eq.trans ?_ e2)⟩
      simp only [s_L_law_908, s_L_law_911, Option.isSome_some, Option.getD_some, sm_clr_i, sm_clr_r, sm_clr_n, sm_clr_o, sm_clr_l, zr_some, zh_some, Option.toList_some, Option.toList_none, List.cons_append, List.nil_append, List.map_cons, List.map_nil, List.sum_cons, List.sum_nil, sm_cat_i, sm_cat_r, sm_cat_n, sm_cat_l, Nat.reduceAdd, Nat.reduceLeDiff, Nat.zero_add, Nat.add_zero, if_true, if_false, not_true_eq_false, not_false_eq_true, and_self, true_and, and_true, lw_a5]
    · have q0 := hp_no (cpl_q C)
      have c0 : Int32.ofNat xs.length - 5 < nI i := (lw_cond (by omega) (by omega)).mpr (by omega)
      refine ⟨S, C, ?_⟩
      simp only [s_L_law_18, s_L_law_19, s_L_law_20, s_L_law_21, s_L_law_22, s_L_law_23, s_L_law_914, s_L_law_915z0, s_L_law_915z1, Option.isSome_some, Option.getD_some, sm_clr_i, sm_clr_r, sm_clr_n, sm_clr_o, sm_clr_l, zr_some, zh_some, Option.toList_some, Option.toList_none, List.cons_append, List.nil_append, List.map_cons, List.map_nil, List.sum_cons, List.sum_nil, sm_cat_i, sm_cat_r, sm_cat_n, sm_cat_l, Nat.reduceAdd, Nat.reduceLeDiff, Nat.zero_add, Nat.add_zero, if_true, if_false, not_true_eq_false, not_false_eq_true, and_self, true_and, and_true, q0, c0]
end LP

/-- a text read: its fault, or how many clauses it has and the patch behind them -/
def rd_F (t : Nat → Int32) (len : Nat) : Nat → Nat → Int32 → Int32 → PF → Nat ⊕ (Nat × PF)
  | 0, _, _, _, _ => .inl 0
  | k + 1, e, ce, pl, F => match ps_F t len e ce pl with
    | .inl f => .inl f
    | .inr q => if len ≤ tA t len q.1 then .inr (14 - k, te_T F q.2.1 q.2.2.1 q.2.2.2.1 q.2.2.2.2) else if ¬ t (tA t len q.1) = 59 then .inl (tA t len q.1) else if k = 0 then .inl (tA t len q.1) else rd_F t len k (tE t len q.1) (ce_F ce q.2.1 q.2.2.1) (pl_F pl q.2.1) (te_T F q.2.1 q.2.2.1 q.2.2.2.1 q.2.2.2.2)
def fo_F (vb nu : Nat → Int32) (k j : Nat) (F : PF) : PF := itr (fun i F => te_T F (vb i) (nu (i * 3)) (nu (i * 3 + 1)) (nu (i * 3 + 2))) k j F
theorem fo_ext {vb nu vb' nu' : Nat → Int32} {k j : Nat} {F : PF} (h1 : ∀ i, i < j + k → vb i = vb' i) (h2 : ∀ i, i < (j + k) * 3 → nu i = nu' i) : fo_F vb nu k j F = fo_F vb' nu' k j F := by
  unfold fo_F
  apply itr_congr
  intro i s hi hk
  rw [h1 i hk, h2 (i * 3) (by omega), h2 (i * 3 + 1) (by omega), h2 (i * 3 + 2) (by omega)]
/-- what a clause that stands says of its numbers -/
theorem lo_nn (v i : Int32) : 0 ≤ lo_F v i := by
  unfold lo_F
  split
  · decide
  · split
    · split <;> decide
    · decide
theorem ps_end {t : Nat → Int32} {len e : Nat} {ce pl : Int32} {q : Nat × Int32 × Int32 × Int32 × Int32} (he : e ≤ len) (h : ps_F t len e ce pl = .inr q) : q.1 ≤ len := by
  have h0 := tE_le t he
  have h1 := tE_le t h0.2.1
  have h2 := tE_le t h1.2.1
  have h3 := tE_le t h2.2.1
  unfold ps_F at h
  split at h
  · cases h
  · split at h
    · cases h
    · split at h
      · cases h; exact h0.2.1
      · unfold ps_1 at h
        split at h
        · cases h
        · split at h
          · cases h; exact h1.2.1
          · unfold ps_2 at h
            split at h
            · cases h
            · split at h
              · cases h; exact h2.2.1
              · unfold ps_3 at h
                split at h
                · cases h
                · cases h; exact h3.2.1
theorem ps_0 {t : Nat → Int32} {len e : Nat} {ce pl : Int32} {q : Nat × Int32 × Int32 × Int32 × Int32} (h : ps_F t len e ce pl = .inr q) (h0 : q.2.1 = 0) : ∃ m : Nat, 4 ≤ m ∧ m ≤ 9 ∧ q.2.2.1 = nI m := by
  unfold ps_F at h
  split at h
  · cases h
  · split at h
    · cases h
    · split at h
      · cases h; exact absurd h0 (show ¬ (8 : Int32) = 0 by decide)
      · have hv := ps_v h
        rw [h0] at hv
        rw [← hv] at h
        unfold ps_1 at h
        split at h
        · cases h
        · rename_i hn
          rw [if_pos (show nb_F 0 = 1 by decide)] at h
          cases h
          have a1 : ¬ nx t len (tE t len e) < 4 := fun z => hn (Or.inl z)
          have a2 : ¬ (9 : Int32) < nx t len (tE t len e) := fun z => hn (Or.inr z)
          obtain ⟨m, hm, e2⟩ := nI_of2 (x := nx t len (tE t len e)) (M := 9) (n := 9) rfl (fun z => a1 (Int32.lt_of_lt_of_le z (by decide))) (Int32.not_lt.mp a2)
          refine ⟨m, ?_, hm, e2⟩
          rw [e2] at a1
          by_cases hm4 : m < 4
          · exact absurd (nI_lt (b := 4) hm4 (by omega)) a1
          · omega
/-- the reading of the text and the number of clauses -/
def frY (S S' : GS) : Prop := gT S' = gT S ∧ gQ S' = gQ S ∧ gI S' = gI S ∧ gA S' = gA S ∧ (∀ k, k < 4 ∨ 8 < k → gN S' k = gN S k) ∧ (∀ k, k ≠ 3 → k ≠ 4 → gR S' k = gR S k)
theorem frX_Y {S S' : GS} (h : frX S S') : frY S S' := ⟨h.1, h.2.1, h.2.2.1, h.2.2.2.1, fun k hk => h.2.2.2.2.1 k (by omega), h.2.2.2.2.2⟩
theorem frY_tr {S S' S'' : GS} (h : frY S S') (k : frY S' S'') : frY S S'' := ⟨k.1.trans h.1, k.2.1.trans h.2.1, k.2.2.1.trans h.2.2.1, k.2.2.2.1.trans h.2.2.2.1, fun j hj => (k.2.2.2.2.1 j hj).trans (h.2.2.2.2.1 j hj), fun j a b => (k.2.2.2.2.2 j a b).trans (h.2.2.2.2.2 j a b)⟩
theorem frY_N (S : GS) {k : Nat} (x : Int32) (hk : 4 ≤ k ∧ k ≤ 8) : frY S (sN S k x) := ⟨rfl, rfl, rfl, rfl, fun j hj => fu_n (by omega), fun _ _ _ => rfl⟩
def RR (S S' : GS) (j : Nat) (F : PF) (r : Int32) (o : Nat ⊕ (Nat × PF)) : Prop := match o with
  | .inl f => r = nI f
  | .inr q => r = -1 ∧ gN S' 4 = nI q.1 ∧ j < q.1 ∧ q.1 ≤ 14 ∧ fo_F (gR S' 3) (gR S' 4) (q.1 - j) j F = q.2 ∧ (∀ i, i < j → gR S' 3 i = gR S 3 i) ∧ (∀ i, i < j * 3 → gR S' 4 i = gR S 4 i) ∧ (∀ i, j ≤ i → i < q.1 → gR S' 3 i = 0 → ∃ m : Nat, 4 ≤ m ∧ m ≤ 9 ∧ gR S' 4 (i * 3) = nI m)
section RE
variable {xs : List Int32} {len : Nat}
def RB (S S' : GS) (len j : Nat) (q : Nat × Int32 × Int32 × Int32 × Int32) : Prop := frX S S' ∧ gN S' 5 = nI (tA (gR S 2) len q.1) ∧ gN S' 6 = nI (tE (gR S 2) len q.1) ∧ gR S' 3 = fu (gR S 3) j q.2.1 ∧ (∀ i, i < j * 3 → gR S' 4 i = gR S 4 i) ∧ (∀ F, te_T F q.2.1 (gR S' 4 (j * 3)) (gR S' 4 (j * 3 + 1)) (gR S' 4 (j * 3 + 2)) = te_T F q.2.1 q.2.2.1 q.2.2.2.1 q.2.2.2.2) ∧ (q.2.1 = 0 → gR S' 4 (j * 3) = q.2.2.1) ∧ gN S' 7 = ce_F (gN S 7) q.2.1 q.2.2.1 ∧ gN S' 8 = pl_F (gN S 8) q.2.1
theorem rd_body (h160 : len ≤ 160) (l1 l2 : Option Value) {j e : Nat} {S : GS} (hj : j < 14) (hl : gN S 3 = nI len) (he : gN S 6 = nI e) (hel : e ≤ len) : (∀ f, ps_F (gR S 2) len e (gN S 7) (gN S 8) = .inl f → ∃ S', sm_run xs n_X7_read 22 [some (.ref 36), l1, l2, some (.int (nI j))] [] (hp S) = some (some (.int (nI f)), hp S') ∧ frX S S') ∧ (∀ q, ps_F (gR S 2) len e (gN S 7) (gN S 8) = .inr q → ∃ S', RB S S' len j q ∧ sm_run xs n_X7_read 22 [some (.ref 36), l1, l2, some (.int (nI j))] [] (hp S) = (if len ≤ tA (gR S 2) len q.1 then some (some (.int (-1)), hp (sN S' 4 (nI (j + 1)))) else if ¬ gR S 2 (tA (gR S 2) len q.1) = 59 then some (some (.int (nI (tA (gR S 2) len q.1))), hp S') else sm_run xs n_X7_read 22 [some (.ref 36), l1, sm_clr l2, some (.int (nI (j + 1)))] [] (hp S'))) := by
  obtain ⟨S1, b, e1, f1, P1⟩ := rc_call (xs := xs) hl h160 he hel hj
  have hle : ¬ (14 : Int32) ≤ nI j := nI_ge (b := 14) hj (by omega)
  constructor
  · intro f hf
    rw [hf] at P1
    obtain ⟨rfl, p2⟩ := P1
    refine ⟨S1, ?_, f1⟩
    rw [b2i_f] at e1
    rw [s_X7_read_22]
    simp only [s_X7_read_0, s_X7_read_1, s_X7_read_2, s_X7_read_5, s_X7_read_6, s_X7_read_7, s_X7_read_10, s_X7_read_11, s_X7_read_12, s_X7_read_15, s_X7_read_16, s_X7_read_17, s_X7_read_20, s_X7_read_21, s_X7_read_23, s_X7_read_25, s_X7_read_28, s_X7_read_29, s_X7_read_30, s_X7_read_33, s_X7_read_36, s_X7_read_37, s_X7_read_40, s_X7_read_41, s_X7_read_42, s_X7_read_45, s_X7_read_46, s_X7_read_49, s_X7_read_50, s_X7_read_53, s_X7_read_56, s_X7_read_57, s_X7_read_58, s_X7_read_59, s_X7_read_60, s_X7_read_63, s_X7_read_64, s_X7_read_65, s_X7_read_66, s_X7_read_69, s_X7_read_70, s_X7_read_73, s_X7_read_74, s_X7_read_76, s_X7_read_79, s_X7_read_80, s_X7_read_83, s_X7_read_84, s_X7_read_87, s_X7_read_90, s_X7_read_91, s_X7_read_94, Option.isSome_some, Option.getD_some, sm_clr_i, sm_clr_r, sm_clr_n, sm_clr_o, sm_clr_l, sm_rr_some, sm_rh_some, Option.toList_some, Option.toList_none, List.cons_append, List.nil_append, List.map_cons, List.map_nil, List.sum_cons, List.sum_nil, sm_cat_i, sm_cat_r, sm_cat_n, sm_cat_l, Nat.reduceAdd, Nat.reduceLeDiff, Nat.zero_add, Nat.add_zero, if_true, if_false, not_true_eq_false, not_false_eq_true, and_self, true_and, and_true, hf_0_0, hf_0_1, hf_0_2, hf_0_3, hf_0_4, hf_0_5, hf_0_6, hf_0_7, hf_0_8, hf_0_9, hf_0_10, hf_0_11, hf_0_12, hf_0_13, hf_0_14, hf_31_0, hf_31_1, hf_31_2, hf_33_0, hf_33_1, hf_33_2, hf_36_0, hf_36_1, hf_36_2, hf_36_3, hf_36_4, hf_36_5, hf_36_6, hf_36_7, hf_36_8, hc_0, hc_31, hc_33, hc_36, hc_40, hc_41, hc_42, hc_43, hc_45, ha_34, ha_35, ha_37, ha_38, ha_39, ha_44, hw_31_0, hw_31_1, hw_33_0, hw_36_0, hw_36_1, hw_36_5, hw_36_6, hw_36_7, hw_36_8, hw_0_4, hw_0_5, hs_34, hs_35, hs_38, hs_39, hs_44, hle, e1, p2]
  · intro q hq
    have hqe := ps_end hel hq
    rw [hq] at P1
    obtain ⟨rfl, p2, p3, p4, p5, p6, p7, p8⟩ := P1
    rw [b2i_t] at e1
    have hl1 : gN S1 3 = nI len := (f1.2.2.2.2.1 3 (by omega)).trans hl
    have r2 : gR S1 2 = gR S 2 := f1.2.2.2.2.2 2 (by omega) (by omega)
    have h1 := t_step (xs := xs) hl1 h160 p2 hqe
    rw [show sN (sN S1 5 (nI (tA (gR S1 2) len q.1))) 6 (nI (tE (gR S1 2) len q.1)) = s1 S1 len q.1 from rfl] at h1
    have hA := tA_le (gR S 2) hqe
    have n5 : gN (s1 S1 len q.1) 5 = nI (tA (gR S 2) len q.1) := by rw [← r2]; rfl
    have n6 : gN (s1 S1 len q.1) 6 = nI (tE (gR S 2) len q.1) := by rw [← r2]; rfl
    have n3 : gN (s1 S1 len q.1) 3 = nI len := hl1
    have r22 : gR (s1 S1 len q.1) 2 = gR S 2 := r2
    refine ⟨s1 S1 len q.1, ⟨frX_tr f1 (frX_s1 _ _ _), n5, n6, p3, p4, p5, p6, p7, p8⟩, ?_⟩
    rw [s_X7_read_22]
    by_cases hc : len ≤ tA (gR S 2) len q.1
    · rw [if_pos hc]
      have hn : ¬ nI (tA (gR S 2) len q.1) < nI len := nI_nlt hc (by omega)
      simp only [s_X7_read_0, s_X7_read_1, s_X7_read_2, s_X7_read_5, s_X7_read_6, s_X7_read_7, s_X7_read_10, s_X7_read_11, s_X7_read_12, s_X7_read_15, s_X7_read_16, s_X7_read_17, s_X7_read_20, s_X7_read_21, s_X7_read_23, s_X7_read_25, s_X7_read_28, s_X7_read_29, s_X7_read_30, s_X7_read_33, s_X7_read_36, s_X7_read_37, s_X7_read_40, s_X7_read_41, s_X7_read_42, s_X7_read_45, s_X7_read_46, s_X7_read_49, s_X7_read_50, s_X7_read_53, s_X7_read_56, s_X7_read_57, s_X7_read_58, s_X7_read_59, s_X7_read_60, s_X7_read_63, s_X7_read_64, s_X7_read_65, s_X7_read_66, s_X7_read_69, s_X7_read_70, s_X7_read_73, s_X7_read_74, s_X7_read_76, s_X7_read_79, s_X7_read_80, s_X7_read_83, s_X7_read_84, s_X7_read_87, s_X7_read_90, s_X7_read_91, s_X7_read_94, Option.isSome_some, Option.getD_some, sm_clr_i, sm_clr_r, sm_clr_n, sm_clr_o, sm_clr_l, sm_rr_some, sm_rh_some, Option.toList_some, Option.toList_none, List.cons_append, List.nil_append, List.map_cons, List.map_nil, List.sum_cons, List.sum_nil, sm_cat_i, sm_cat_r, sm_cat_n, sm_cat_l, Nat.reduceAdd, Nat.reduceLeDiff, Nat.zero_add, Nat.add_zero, if_true, if_false, not_true_eq_false, not_false_eq_true, and_self, true_and, and_true, hf_0_0, hf_0_1, hf_0_2, hf_0_3, hf_0_4, hf_0_5, hf_0_6, hf_0_7, hf_0_8, hf_0_9, hf_0_10, hf_0_11, hf_0_12, hf_0_13, hf_0_14, hf_31_0, hf_31_1, hf_31_2, hf_33_0, hf_33_1, hf_33_2, hf_36_0, hf_36_1, hf_36_2, hf_36_3, hf_36_4, hf_36_5, hf_36_6, hf_36_7, hf_36_8, hc_0, hc_31, hc_33, hc_36, hc_40, hc_41, hc_42, hc_43, hc_45, ha_34, ha_35, ha_37, ha_38, ha_39, ha_44, hw_31_0, hw_31_1, hw_33_0, hw_36_0, hw_36_1, hw_36_5, hw_36_6, hw_36_7, hw_36_8, hw_0_4, hw_0_5, hs_34, hs_35, hs_38, hs_39, hs_44, hle, e1, show ¬ (1 : Int32) = 0 from by decide, h1, n5, n3, hn, nI_1]
    · rw [if_neg hc]
      have hn : nI (tA (gR S 2) len q.1) < nI len := nI_lt (by omega) (by omega)
      have hk : tA (gR S 2) len q.1 < 160 := by omega
      by_cases h59 : gR S 2 (tA (gR S 2) len q.1) = 59
      · rw [if_neg (fun z => z h59)]
        simp only [s_X7_read_0, s_X7_read_1, s_X7_read_2, s_X7_read_5, s_X7_read_6, s_X7_read_7, s_X7_read_10, s_X7_read_11, s_X7_read_12, s_X7_read_15, s_X7_read_16, s_X7_read_17, s_X7_read_20, s_X7_read_21, s_X7_read_23, s_X7_read_25, s_X7_read_28, s_X7_read_29, s_X7_read_30, s_X7_read_33, s_X7_read_36, s_X7_read_37, s_X7_read_40, s_X7_read_41, s_X7_read_42, s_X7_read_45, s_X7_read_46, s_X7_read_49, s_X7_read_50, s_X7_read_53, s_X7_read_56, s_X7_read_57, s_X7_read_58, s_X7_read_59, s_X7_read_60, s_X7_read_63, s_X7_read_64, s_X7_read_65, s_X7_read_66, s_X7_read_69, s_X7_read_70, s_X7_read_73, s_X7_read_74, s_X7_read_76, s_X7_read_79, s_X7_read_80, s_X7_read_83, s_X7_read_84, s_X7_read_87, s_X7_read_90, s_X7_read_91, s_X7_read_94, Option.isSome_some, Option.getD_some, sm_clr_i, sm_clr_r, sm_clr_n, sm_clr_o, sm_clr_l, sm_rr_some, sm_rh_some, Option.toList_some, Option.toList_none, List.cons_append, List.nil_append, List.map_cons, List.map_nil, List.sum_cons, List.sum_nil, sm_cat_i, sm_cat_r, sm_cat_n, sm_cat_l, Nat.reduceAdd, Nat.reduceLeDiff, Nat.zero_add, Nat.add_zero, if_true, if_false, not_true_eq_false, not_false_eq_true, and_self, true_and, and_true, hf_0_0, hf_0_1, hf_0_2, hf_0_3, hf_0_4, hf_0_5, hf_0_6, hf_0_7, hf_0_8, hf_0_9, hf_0_10, hf_0_11, hf_0_12, hf_0_13, hf_0_14, hf_31_0, hf_31_1, hf_31_2, hf_33_0, hf_33_1, hf_33_2, hf_36_0, hf_36_1, hf_36_2, hf_36_3, hf_36_4, hf_36_5, hf_36_6, hf_36_7, hf_36_8, hc_0, hc_31, hc_33, hc_36, hc_40, hc_41, hc_42, hc_43, hc_45, ha_34, ha_35, ha_37, ha_38, ha_39, ha_44, hw_31_0, hw_31_1, hw_33_0, hw_36_0, hw_36_1, hw_36_5, hw_36_6, hw_36_7, hw_36_8, hw_0_4, hw_0_5, hs_34, hs_35, hs_38, hs_39, hs_44, hle, e1, show ¬ (1 : Int32) = 0 from by decide, h1, n5, n3, hn, r22, ai_r, ai_e, hk, h59, nI_1]
      · rw [if_pos h59]
        simp only [s_X7_read_0, s_X7_read_1, s_X7_read_2, s_X7_read_5, s_X7_read_6, s_X7_read_7, s_X7_read_10, s_X7_read_11, s_X7_read_12, s_X7_read_15, s_X7_read_16, s_X7_read_17, s_X7_read_20, s_X7_read_21, s_X7_read_23, s_X7_read_25, s_X7_read_28, s_X7_read_29, s_X7_read_30, s_X7_read_33, s_X7_read_36, s_X7_read_37, s_X7_read_40, s_X7_read_41, s_X7_read_42, s_X7_read_45, s_X7_read_46, s_X7_read_49, s_X7_read_50, s_X7_read_53, s_X7_read_56, s_X7_read_57, s_X7_read_58, s_X7_read_59, s_X7_read_60, s_X7_read_63, s_X7_read_64, s_X7_read_65, s_X7_read_66, s_X7_read_69, s_X7_read_70, s_X7_read_73, s_X7_read_74, s_X7_read_76, s_X7_read_79, s_X7_read_80, s_X7_read_83, s_X7_read_84, s_X7_read_87, s_X7_read_90, s_X7_read_91, s_X7_read_94, Option.isSome_some, Option.getD_some, sm_clr_i, sm_clr_r, sm_clr_n, sm_clr_o, sm_clr_l, sm_rr_some, sm_rh_some, Option.toList_some, Option.toList_none, List.cons_append, List.nil_append, List.map_cons, List.map_nil, List.sum_cons, List.sum_nil, sm_cat_i, sm_cat_r, sm_cat_n, sm_cat_l, Nat.reduceAdd, Nat.reduceLeDiff, Nat.zero_add, Nat.add_zero, if_true, if_false, not_true_eq_false, not_false_eq_true, and_self, true_and, and_true, hf_0_0, hf_0_1, hf_0_2, hf_0_3, hf_0_4, hf_0_5, hf_0_6, hf_0_7, hf_0_8, hf_0_9, hf_0_10, hf_0_11, hf_0_12, hf_0_13, hf_0_14, hf_31_0, hf_31_1, hf_31_2, hf_33_0, hf_33_1, hf_33_2, hf_36_0, hf_36_1, hf_36_2, hf_36_3, hf_36_4, hf_36_5, hf_36_6, hf_36_7, hf_36_8, hc_0, hc_31, hc_33, hc_36, hc_40, hc_41, hc_42, hc_43, hc_45, ha_34, ha_35, ha_37, ha_38, ha_39, ha_44, hw_31_0, hw_31_1, hw_33_0, hw_36_0, hw_36_1, hw_36_5, hw_36_6, hw_36_7, hw_36_8, hw_0_4, hw_0_5, hs_34, hs_35, hs_38, hs_39, hs_44, hle, e1, show ¬ (1 : Int32) = 0 from by decide, h1, n5, n3, hn, r22, ai_r, ai_e, hk, h59]
theorem rr_end {j k e : Nat} {S S' : GS} {F : PF} {q : Nat × Int32 × Int32 × Int32 × Int32} (hj : j + 1 = 14 - k) (hk : k < 14) (hq : ps_F (gR S 2) len e (gN S 7) (gN S 8) = .inr q) (h : RB S S' len j q) : RR S (sN S' 4 (nI (j + 1))) j F (-1) (.inr (14 - k, te_T F q.2.1 q.2.2.1 q.2.2.2.1 q.2.2.2.2)) := by
  obtain ⟨f1, n5, n6, r3, r4, hte, h0, n7, n8⟩ := h
  have g3 : gR (sN S' 4 (nI (j + 1))) 3 = fu (gR S 3) j q.2.1 := r3
  have g4 : gR (sN S' 4 (nI (j + 1))) 4 = gR S' 4 := rfl
  refine ⟨rfl, ?_, ?_, ?_, ?_, ?_, ?_, ?_⟩
  · rw [gN_sN, fu_s]; dsimp only; rw [hj]
  · dsimp only; omega
  · dsimp only; omega
  · dsimp only
    rw [show 14 - k - j = 1 by omega, g3, g4]
    show te_T F (fu (gR S 3) j q.2.1 j) _ _ _ = _
    rw [fu_s, hte]
  · intro i hi; rw [g3, fu_n (by omega)]
  · intro i hi; rw [g4, r4 i hi]
  · intro i h1 h2 h3
    dsimp only at h2
    have hij : i = j := by omega
    subst hij
    rw [g3, fu_s] at h3
    obtain ⟨m, m1, m2, m3⟩ := ps_0 hq h3
    exact ⟨m, m1, m2, by rw [g4, h0 h3, m3]⟩
theorem rr_step {j e : Nat} {S S' S'' : GS} {F : PF} {r : Int32} {o : Nat ⊕ (Nat × PF)} {q : Nat × Int32 × Int32 × Int32 × Int32} (hq : ps_F (gR S 2) len e (gN S 7) (gN S 8) = .inr q) (h : RB S S' len j q) (hr : RR S' S'' (j + 1) (te_T F q.2.1 q.2.2.1 q.2.2.2.1 q.2.2.2.2) r o) : RR S S'' j F r o := by
  obtain ⟨f1, n5, n6, r3, r4, hte, h0, n7, n8⟩ := h
  cases o with
  | inl f => exact hr
  | inr u =>
    obtain ⟨p1, p2, p3, p4, p5, p6, p7, p8⟩ := hr
    have v3 : gR S'' 3 j = q.2.1 := by rw [p6 j (by omega), r3, fu_s]
    refine ⟨p1, p2, by omega, p4, ?_, ?_, ?_, ?_⟩
    · rw [← p5, show u.1 - j = (u.1 - (j + 1)) + 1 by omega]
      show fo_F _ _ (u.1 - (j + 1)) (j + 1) (te_T F (gR S'' 3 j) _ _ _) = _
      rw [v3, p7 (j * 3) (by omega), p7 (j * 3 + 1) (by omega), p7 (j * 3 + 2) (by omega), hte]
    · intro i hi; rw [p6 i (by omega), r3, fu_n (by omega)]
    · intro i hi; rw [p7 i (by omega), r4 i hi]
    · intro i h1 h2 h3
      by_cases hij : i = j
      · subst hij
        rw [v3] at h3
        obtain ⟨m, m1, m2, m3⟩ := ps_0 hq h3
        exact ⟨m, m1, m2, by rw [p7 _ (by omega), h0 h3, m3]⟩
      · exact p8 i (by omega) h2 h3
theorem rd_loop (h160 : len ≤ 160) (l1 : Option Value) : ∀ (k j e : Nat) (S : GS) (F : PF) (l2 : Option Value), j + (k + 1) = 14 → gN S 3 = nI len → gN S 6 = nI e → e ≤ len → ∃ S' r, sm_run xs n_X7_read 22 [some (.ref 36), l1, l2, some (.int (nI j))] [] (hp S) = some (some (.int r), hp S') ∧ frY S S' ∧ RR S S' j F r (rd_F (gR S 2) len (k + 1) e (gN S 7) (gN S 8) F) := by
  intro k
  induction k with
  | zero =>
    intro j e S F l2 hj hl he hel
    obtain ⟨b1, b2⟩ := rd_body (xs := xs) h160 l1 l2 (j := j) (by omega) hl he hel
    unfold rd_F
    cases hp1 : ps_F (gR S 2) len e (gN S 7) (gN S 8) with
    | inl f =>
      obtain ⟨S', e1, f1⟩ := b1 f hp1
      exact ⟨S', nI f, e1, frX_Y f1, rfl⟩
    | inr q =>
      obtain ⟨S', hB, e1⟩ := b2 q hp1
      dsimp only
      by_cases hc : len ≤ tA (gR S 2) len q.1
      · rw [if_pos hc] at e1 ⊢
        exact ⟨_, _, e1, frY_tr (frX_Y hB.1) (frY_N _ _ (by omega)), rr_end (by omega) (by omega) hp1 hB⟩
      · rw [if_neg hc] at e1 ⊢
        by_cases h59 : gR S 2 (tA (gR S 2) len q.1) = 59
        · rw [if_neg (fun z => z h59)] at e1 ⊢
          rw [if_pos rfl]
          refine ⟨S', nI (tA (gR S 2) len q.1), ?_, frX_Y hB.1, rfl⟩
          rw [e1, s_X7_read_22]
          simp only [s_X7_read_0, s_X7_read_1, s_X7_read_2, s_X7_read_5, s_X7_read_6, s_X7_read_7, s_X7_read_10, s_X7_read_11, s_X7_read_12, s_X7_read_15, s_X7_read_16, s_X7_read_17, s_X7_read_20, s_X7_read_21, s_X7_read_23, s_X7_read_25, s_X7_read_28, s_X7_read_29, s_X7_read_30, s_X7_read_33, s_X7_read_36, s_X7_read_37, s_X7_read_40, s_X7_read_41, s_X7_read_42, s_X7_read_45, s_X7_read_46, s_X7_read_49, s_X7_read_50, s_X7_read_53, s_X7_read_56, s_X7_read_57, s_X7_read_58, s_X7_read_59, s_X7_read_60, s_X7_read_63, s_X7_read_64, s_X7_read_65, s_X7_read_66, s_X7_read_69, s_X7_read_70, s_X7_read_73, s_X7_read_74, s_X7_read_76, s_X7_read_79, s_X7_read_80, s_X7_read_83, s_X7_read_84, s_X7_read_87, s_X7_read_90, s_X7_read_91, s_X7_read_94, Option.isSome_some, Option.getD_some, sm_clr_i, sm_clr_r, sm_clr_n, sm_clr_o, sm_clr_l, sm_rr_some, sm_rh_some, Option.toList_some, Option.toList_none, List.cons_append, List.nil_append, List.map_cons, List.map_nil, List.sum_cons, List.sum_nil, sm_cat_i, sm_cat_r, sm_cat_n, sm_cat_l, Nat.reduceAdd, Nat.reduceLeDiff, Nat.zero_add, Nat.add_zero, if_true, if_false, not_true_eq_false, not_false_eq_true, and_self, true_and, and_true, hf_0_0, hf_0_1, hf_0_2, hf_0_3, hf_0_4, hf_0_5, hf_0_6, hf_0_7, hf_0_8, hf_0_9, hf_0_10, hf_0_11, hf_0_12, hf_0_13, hf_0_14, hf_31_0, hf_31_1, hf_31_2, hf_33_0, hf_33_1, hf_33_2, hf_36_0, hf_36_1, hf_36_2, hf_36_3, hf_36_4, hf_36_5, hf_36_6, hf_36_7, hf_36_8, hc_0, hc_31, hc_33, hc_36, hc_40, hc_41, hc_42, hc_43, hc_45, ha_34, ha_35, ha_37, ha_38, ha_39, ha_44, hw_31_0, hw_31_1, hw_33_0, hw_36_0, hw_36_1, hw_36_5, hw_36_6, hw_36_7, hw_36_8, hw_0_4, hw_0_5, hs_34, hs_35, hs_38, hs_39, hs_44, nI_le (a := 14) (b := j + 1) (by omega) (by omega), show ((14 : Int32) ≤ nI (j + 1)) = True from eq_true (nI_le (a := 14) (by omega) (by omega)), hB.2.1]
        · rw [if_pos h59] at e1 ⊢
          exact ⟨S', _, e1, frX_Y hB.1, rfl⟩
  | succ k ih =>
    intro j e S F l2 hj hl he hel
    obtain ⟨b1, b2⟩ := rd_body (xs := xs) h160 l1 l2 (j := j) (by omega) hl he hel
    unfold rd_F
    cases hp1 : ps_F (gR S 2) len e (gN S 7) (gN S 8) with
    | inl f =>
      obtain ⟨S', e1, f1⟩ := b1 f hp1
      exact ⟨S', nI f, e1, frX_Y f1, rfl⟩
    | inr q =>
      obtain ⟨S', hB, e1⟩ := b2 q hp1
      dsimp only
      by_cases hc : len ≤ tA (gR S 2) len q.1
      · rw [if_pos hc] at e1 ⊢
        exact ⟨_, _, e1, frY_tr (frX_Y hB.1) (frY_N _ _ (by omega)), rr_end (by omega) (by omega) hp1 hB⟩
      · rw [if_neg hc] at e1 ⊢
        by_cases h59 : gR S 2 (tA (gR S 2) len q.1) = 59
        · rw [if_neg (fun z => z h59)] at e1 ⊢
          rw [if_neg (show ¬ k + 1 = 0 by omega)]
          have hqe := ps_end hel hp1
          obtain ⟨S'', r, e2, f2, P2⟩ := ih (j + 1) (tE (gR S 2) len q.1) S' (te_T F q.2.1 q.2.2.1 q.2.2.2.1 q.2.2.2.2) (sm_clr l2) (by omega) ((hB.1.2.2.2.2.1 3 (by omega)).trans hl) hB.2.2.1 (tE_le (gR S 2) hqe).2.1
          have r2 : gR S' 2 = gR S 2 := hB.1.2.2.2.2.2 2 (by omega) (by omega)
          rw [r2, hB.2.2.2.2.2.2.2.1, hB.2.2.2.2.2.2.2.2] at P2
          exact ⟨S'', r, e1.trans e2, frY_tr (frX_Y hB.1) f2, rr_step hp1 hB P2⟩
        · rw [if_pos h59] at e1 ⊢
          exact ⟨S', _, e1, frX_Y hB.1, rfl⟩
theorem rd_call {S : GS} (h160 : len ≤ 160) (hl : gN S 3 = nI len) (ce pl : Int32) (F : PF) : ∃ S' r, sm_call xs n_X7_read [.ref 36, .int ce, .int pl] (hp S) = some (some (.int r), hp S') ∧ frY S S' ∧ RR S S' 0 F r (rd_F (gR S 2) len 14 0 ce pl F) := by
  have hN : frY S (sN (sN (sN (sN S 7 ce) 8 pl) 4 0) 6 0) := frY_tr (frY_tr (frY_tr (frY_N S _ (by omega)) (frY_N _ _ (by omega))) (frY_N _ _ (by omega))) (frY_N _ _ (by omega))
  obtain ⟨S', r, e1, f1, P1⟩ := rd_loop (xs := xs) h160 (some (.int ce)) 13 0 0 (sN (sN (sN (sN S 7 ce) 8 pl) 4 0) 6 0) F (some (.int pl)) rfl hl rfl (by omega)
  refine ⟨S', r, ?_, frY_tr hN f1, ?_⟩
  · rw [c0_X7_read]
    simp only [s_X7_read_0, s_X7_read_1, s_X7_read_2, s_X7_read_5, s_X7_read_6, s_X7_read_7, s_X7_read_10, s_X7_read_11, s_X7_read_12, s_X7_read_15, s_X7_read_16, s_X7_read_17, s_X7_read_20, s_X7_read_21, s_X7_read_23, s_X7_read_25, s_X7_read_28, s_X7_read_29, s_X7_read_30, s_X7_read_33, s_X7_read_36, s_X7_read_37, s_X7_read_40, s_X7_read_41, s_X7_read_42, s_X7_read_45, s_X7_read_46, s_X7_read_49, s_X7_read_50, s_X7_read_53, s_X7_read_56, s_X7_read_57, s_X7_read_58, s_X7_read_59, s_X7_read_60, s_X7_read_63, s_X7_read_64, s_X7_read_65, s_X7_read_66, s_X7_read_69, s_X7_read_70, s_X7_read_73, s_X7_read_74, s_X7_read_76, s_X7_read_79, s_X7_read_80, s_X7_read_83, s_X7_read_84, s_X7_read_87, s_X7_read_90, s_X7_read_91, s_X7_read_94, Option.isSome_some, Option.getD_some, sm_clr_i, sm_clr_r, sm_clr_n, sm_clr_o, sm_clr_l, sm_rr_some, sm_rh_some, Option.toList_some, Option.toList_none, List.cons_append, List.nil_append, List.map_cons, List.map_nil, List.sum_cons, List.sum_nil, sm_cat_i, sm_cat_r, sm_cat_n, sm_cat_l, Nat.reduceAdd, Nat.reduceLeDiff, Nat.zero_add, Nat.add_zero, if_true, if_false, not_true_eq_false, not_false_eq_true, and_self, true_and, and_true, hf_0_0, hf_0_1, hf_0_2, hf_0_3, hf_0_4, hf_0_5, hf_0_6, hf_0_7, hf_0_8, hf_0_9, hf_0_10, hf_0_11, hf_0_12, hf_0_13, hf_0_14, hf_31_0, hf_31_1, hf_31_2, hf_33_0, hf_33_1, hf_33_2, hf_36_0, hf_36_1, hf_36_2, hf_36_3, hf_36_4, hf_36_5, hf_36_6, hf_36_7, hf_36_8, hc_0, hc_31, hc_33, hc_36, hc_40, hc_41, hc_42, hc_43, hc_45, ha_34, ha_35, ha_37, ha_38, ha_39, ha_44, hw_31_0, hw_31_1, hw_33_0, hw_36_0, hw_36_1, hw_36_5, hw_36_6, hw_36_7, hw_36_8, hw_0_4, hw_0_5, hs_34, hs_35, hs_38, hs_39, hs_44]
    exact e1
  · have P1 : RR (sN (sN (sN (sN S 7 ce) 8 pl) 4 0) 6 0) S' 0 F r (rd_F (gR S 2) len 14 0 ce pl F) := P1
    generalize rd_F (gR S 2) len 14 0 ce pl F = o at P1
    cases o with
    | inl f => exact P1
    | inr u => exact P1
end RE

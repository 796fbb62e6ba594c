theorem cpl_fr {S S1 S2 : GS} {n p len sz nw sn : Nat} (C : cplx n p len sz nw sn S) (h1 : frY S S1) (h2 : frR S1 S2) : cplx n p len sz nw sn S2 := by
  obtain ⟨G0, D5, t0, t1, k0, k1, ⟨z0, z1, z12, hsz, hnw, hnq, hq8, hpast⟩, ⟨s2, s17, hsn, r0, r1⟩, ⟨x3, x6, hlen, r2⟩, g5⟩ := C
  have eT : gT S2 = gT S := h2.1.trans h1.1
  have eQ : gQ S2 = gQ S := h2.2.1.trans h1.2.1
  have eN : ∀ k, k < 4 ∨ 8 < k → gN S2 k = gN S k := fun k hk => (congrFun h2.2.2.1 k).trans (h1.2.2.2.2.1 k hk)
  have eR : ∀ k, k ≠ 3 → k ≠ 4 → gR S2 k = gR S k := fun k a b => (congrFun h2.2.2.2.1 k).trans (h1.2.2.2.2.2 k a b)
  have eI : ∀ k, k < 7 ∨ 11 < k → gI S2 k = gI S k := fun k hk => (h2.2.2.2.2.1 k hk).trans (congrFun h1.2.2.1 k)
  have eA : ∀ k, k ≠ 3 → k ≠ 4 → gA S2 k = gA S k := fun k a b => (h2.2.2.2.2.2 k a b).trans (congrFun h1.2.2.2.1 k)
  unfold cplx
  rw [eT, eQ, eN 0 (by omega), eN 1 (by omega), eN 2 (by omega), eN 3 (by omega), eN 9 (by omega), eN 10 (by omega), eR 0 (by omega) (by omega), eR 1 (by omega) (by omega), eR 2 (by omega) (by omega), eR 5 (by omega) (by omega), eI 6 (by omega), eI 12 (by omega), eI 17 (by omega), eA 1 (by omega) (by omega), eA 2 (by omega) (by omega), eA 5 (by omega) (by omega), eA 6 (by omega) (by omega), eA 7 (by omega) (by omega), eA 8 (by omega) (by omega), eA 9 (by omega) (by omega), eA 11 (by omega) (by omega), eA 12 (by omega) (by omega)]
  exact ⟨G0, D5, t0, t1, k0, k1, ⟨z0, z1, z12, hsz, hnw, hnq, hq8, hpast⟩, ⟨s2, s17, hsn, r0, r1⟩, ⟨x3, x6, hlen, r2⟩, g5⟩
theorem gk0_cp {n p : Nat} {G D G' D' : Nat → Int32} (H : gk0 n p G D) : gk0 n p (cp_F G G' 0 0 16) (cp_F D D' 0 0 40) := by
  obtain ⟨h1, h2, h3, h4, h5, h6, ⟨d1, d2, d3, d4⟩, h8⟩ := H
  refine ⟨h1, h2, h3, ?_, ?_, ?_, ⟨?_, ?_, ?_, ?_⟩, ?_⟩
  · rw [cp_eq (by omega)]; exact h4
  · rw [cp_eq (by omega)]; exact h5
  · intro j hj; rw [cp_eq (by omega)]; exact h6 j hj
  · intro j hj; rw [cp_eq (by omega)]; exact d1 j hj
  · intro j hj; rw [cp_eq (by omega)]; exact d2 j hj
  · intro a b ha hb; rw [cp_eq (by omega)]; exact d3 a b ha hb
  · rw [cp_eq (by omega)]; exact d4
  · rw [cp_eq (by omega)]; exact h8
theorem pe_cp {n p : Nat} {G D G' D' : Nat → Int32} : pe (cF n p G D) (cF n p (cp_F G G' 0 0 16) (cp_F D D' 0 0 40)) :=
  ⟨rfl, rfl, (cp_eq (f := D) (g := D') (m := 40) (j := 39) (by omega)).symm, fun c hc => (cp_eq (f := G) (g := G') (m := 16) (j := 1 + c) (by omega)).symm, fun c hc => (cp_eq (f := D) (g := D') (m := 40) (j := c) (by omega)).symm, fun c hc => (cp_eq (f := G) (g := G') (m := 16) (j := 11 + c) (by omega)).symm, fun c hc => (cp_eq (f := D) (g := D') (m := 40) (j := 9 + c) (by omega)).symm, fun c hc => (cp_eq (f := D) (g := D') (m := 40) (j := 14 + c) (by omega)).symm⟩
theorem wf_te {F : PF} (h : pf_wf F) {v a b c : Int32} (h0 : v = 0 → ∃ m : Nat, 4 ≤ m ∧ m ≤ 9 ∧ a = nI m) : pf_wf (te_T F v a b c) := by
  unfold te_T
  by_cases v0 : v = 0
  · rw [if_pos v0]
    obtain ⟨m, m1, m2, rfl⟩ := h0 v0
    rw [nI_clamp (by omega)]
    exact ⟨m2, by show 0 ≤ 5; omega⟩
  · rw [if_neg v0]
    by_cases v1 : v = 1
    · rw [if_pos v1]; unfold ti_F; split <;> exact h
    · rw [if_neg v1]
      by_cases v2 : v = 2
      · rw [if_pos v2]; unfold la_F; split <;> exact h
      · rw [if_neg v2]
        by_cases v7 : v = 7
        · rw [if_pos v7]; unfold oe_F; split <;> exact h
        · rw [if_neg v7]
          by_cases v8 : v = 8
          · rw [if_pos v8]; exact h
          · rw [if_neg v8]
            unfold jo_F
            split
            · rename_i q; exact ⟨h.1, by show pf_p F + 1 ≤ 5; omega⟩
            · exact h
section FP
variable {xs : List Int32} {S : GS}
theorem j_fault (C : cpl S) : jt xs S n_X9_fault n_X10_fault [] := by
  obtain ⟨n, p, len, sz, nw, sn, G0, D5, t0, t1, k0, k1, ⟨z0, z1, z12, hsz, hnw, hnq, hq8, hpast⟩, ⟨s2, s17, hsn, r0, r1⟩, ⟨x3, x6, hlen, r2⟩, g5⟩ := id C
  obtain ⟨n4, n9, p5, g0, g10, hkk, D2, d39⟩ := id G0
  have hW := fun G D => cf_wf (p := p) n9 p5 G D
  have w1 : pf_wf (gT S 1) := by rw [t1]; exact hW _ _
  have hi : ∀ i, i < sz → pt_t nw sz i < gQ S ∧ pe (gT S (5 + pt_t nw sz i)) (cF n p (gA S 1) (fun k => gA S 7 (40 * i + k))) ∧ dok n p (fun k => gA S 7 (40 * i + k)) := fun i hi => ⟨(hpast i hi).1, pe_eq (hpast i hi).2.1, (hpast i hi).2.2⟩
  have kk0 : gA S 9 0 = gN S 9 ∧ (gN S 9 = 0 ∨ (gN S 9 = 1 ∧ pe (gT S 2) (cF n p (gA S 1) (fun k => gA S 8 (40 * 0 + k))) ∧ dok n p (fun k => gA S 8 (40 * 0 + k)))) := ⟨k0.1, k0.2.imp id (fun q => ⟨q.1, pe_eq q.2.1, q.2.2⟩)⟩
  have kk1 : gA S 9 1 = gN S 10 ∧ (gN S 10 = 0 ∨ (gN S 10 = 1 ∧ pe (gT S 3) (cF n p (gA S 1) (fun k => gA S 8 (40 * 1 + k))) ∧ dok n p (fun k => gA S 8 (40 * 1 + k)))) := ⟨k1.1, k1.2.imp id (fun q => ⟨q.1, pe_eq q.2.1, q.2.2⟩)⟩
  obtain ⟨S1, r, e1, f1, P1⟩ := rd_call (xs := xs) (S := S) hlen x3 (nI n) (nI p) (cF n p (gA S 1) (gA S 2))
  have eA : gA S1 = gA S := f1.2.2.2.1
  have eI : gI S1 = gI S := f1.2.2.1
  obtain ⟨S2, r', e2, f2, P2⟩ := ra_call (xs := xs) (S := S1) (n := n) (p := p) hlen (by rw [eI]; exact x6) (by rw [eA]; exact G0)
  rw [eA] at P2
  rw [r2] at P1
  have er : r = r' := by
    generalize rd_F (gA S 6) len 14 0 (nI n) (nI p) (cF n p (gA S 1) (gA S 2)) = o at P1 P2
    cases o with
    | inl f => exact P1.trans P2.symm
    | inr q => exact P1.1.trans P2.1.symm
  refine ⟨.int r, S1, S2, ?_, ?_, n, p, len, sz, nw, sn, cpl_fr ⟨G0, D5, t0, t1, k0, k1, ⟨z0, z1, z12, hsz, hnw, hnq, hq8, hpast⟩, ⟨s2, s17, hsn, r0, r1⟩, ⟨x3, x6, hlen, r2⟩, g5⟩ f1 f2⟩
  · rw [c0_X9_fault]
    simp only [s_X9_fault_0, s_X9_fault_1, s_X9_fault_4, s_X9_fault_5, s_X9_fault_8, s_X9_fault_11, s_X9_fault_12, s_X9_fault_15, s_X9_fault_18, s_X9_fault_21, Option.isSome_some, Option.getD_some, sm_clr_i, sm_clr_r, sm_clr_n, sm_clr_o, sm_clr_l, zr_some, zh_some, Option.toList_some, Option.toList_none, List.cons_append, List.nil_append, List.map_cons, List.map_nil, List.sum_cons, List.sum_nil, sm_cat_i, sm_cat_r, sm_cat_n, sm_cat_l, Nat.reduceAdd, Nat.reduceLeDiff, Nat.zero_add, Nat.add_zero, if_true, if_false, not_true_eq_false, not_false_eq_true, and_self, true_and, and_true, hf_0_0, hf_0_1, hf_0_2, hf_0_3, hf_0_4, hf_0_5, hf_0_6, hf_0_7, hf_0_8, hf_0_9, hf_0_10, hf_0_11, hf_0_12, hf_0_13, hf_0_14, hf_31_0, hf_31_1, hf_31_2, hf_33_0, hf_33_1, hf_33_2, hf_36_0, hf_36_1, hf_36_2, hf_36_3, hf_36_4, hf_36_5, hf_36_6, hf_36_7, hf_36_8, hc_0, hc_31, hc_33, hc_36, hc_40, hc_41, hc_42, hc_43, hc_45, ha_34, ha_35, ha_37, ha_38, ha_39, ha_44, hw_31_0, hw_31_1, hw_33_0, hw_36_0, hw_36_1, hw_36_5, hw_36_6, hw_36_7, hw_36_8, hw_0_4, hw_0_5, hs_34, hs_35, hs_38, hs_39, hs_44, p0_c, p0_0, p0_1, p0_2, p0_3, p0_4, p0_5, p0_6, p0_7, p0_a1, p0_a2, p0_a3, p0_a4, p0_a5, p0_w2, p0_s1, p1_c, p1_0, p1_1, p1_2, p1_3, p1_4, p1_5, p1_6, p1_7, p1_a1, p1_a2, p1_a3, p1_a4, p1_a5, p1_w2, p1_s1, p2_c, p2_0, p2_1, p2_2, p2_3, p2_4, p2_5, p2_6, p2_7, p2_a1, p2_a2, p2_a3, p2_a4, p2_a5, p2_w2, p2_s1, p3_c, p3_0, p3_1, p3_2, p3_3, p3_4, p3_5, p3_6, p3_7, p3_a1, p3_a2, p3_a3, p3_a4, p3_a5, p3_w2, p3_s1, p4_c, p4_0, p4_1, p4_2, p4_3, p4_4, p4_5, p4_6, p4_7, p4_a1, p4_a2, p4_a3, p4_a4, p4_a5, p4_w2, p4_s1, p1_roll, p1_hasCell, p1_hasPlayer, p1_hasPair, p1_worthAt, p1_owes, p1_owesInAll, p1_isOwedInAll, p1_balance, p1_marbles, p1_land, p1_gain, p1_owe, p4_roll, p4_hasCell, p4_hasPlayer, p4_hasPair, p4_worthAt, p4_owes, p4_owesInAll, p4_isOwedInAll, p4_balance, p4_marbles, p4_land, p4_gain, p4_owe, p4_clear, pb_10, pb_21, pb_31, pb_12, pb_13, pb_41, ci_0_255, ci_0_1, ci_0_9, ci_0_9999, ci_1_99, ci_0_4, ci_0_8, ci_1_8, ci_0_10, ci_0_6, cf_n, cf_p, cf_s, cf_sl, cf_w, cf_k, cf_pu, cf_d, t0, e1]
  · rw [c0_X10_fault, er]
    simp only [s_X10_fault_0, s_X10_fault_1, s_X10_fault_4, Option.isSome_some, Option.getD_some, sm_clr_i, sm_clr_r, sm_clr_n, sm_clr_o, sm_clr_l, zr_some, zh_some, Option.toList_some, Option.toList_none, List.cons_append, List.nil_append, List.map_cons, List.map_nil, List.sum_cons, List.sum_nil, sm_cat_i, sm_cat_r, sm_cat_n, sm_cat_l, Nat.reduceAdd, Nat.reduceLeDiff, Nat.zero_add, Nat.add_zero, if_true, if_false, not_true_eq_false, not_false_eq_true, and_self, true_and, and_true, hf_45_0, hf_45_1, hf_45_2, hf_45_3, hf_45_4, hf_45_5, hf_45_6, hf_45_7, hf_45_8, hf_45_9, hf_45_10, hf_45_11, hf_45_12, hf_45_13, hf_45_14, hf_45_15, hf_45_16, hf_45_17, hf_45_18, hf_45_19, hf_45_20, hf_45_21, hc_0, hc_31, hc_33, hc_36, hc_40, hc_41, hc_42, hc_43, hc_45, ha_46, ha_47, ha_48, ha_49, ha_50, ha_51, ha_52, ha_53, ha_54, ha_55, ha_56, ha_57, ha_58, ha_59, hw_45_6, hw_45_7, hw_45_8, hw_45_9, hw_45_10, hw_45_11, hw_45_12, hw_45_17, hs_46, hs_47, hs_48, hs_49, hs_50, hs_51, hs_52, hs_53, hs_55, hs_56, hs_57, hs_58, hs_59, e2]
theorem t_verbOf {i : Nat} (hi : i < 14) : sm_call xs n_X7_verbOf [.ref 36, .int (nI i)] (hp S) = some (some (.int (gR S 3 i)), hp S) := by
  have h0 : ¬ nI i < 0 := nI_pos (by omega)
  have h1 : ¬ (14 : Int32) ≤ nI i := nI_ge (b := 14) hi (by omega)
  rw [c0_X7_verbOf]
  simp only [s_X7_verbOf_0, s_X7_verbOf_1, s_X7_verbOf_4, s_X7_verbOf_5, s_X7_verbOf_7, s_X7_verbOf_10, s_X7_verbOf_11, s_X7_verbOf_14, s_X7_verbOf_15, s_X7_verbOf_16, s_X7_verbOf_19, s_X7_verbOf_21, Option.isSome_some, Option.getD_some, sm_clr_i, sm_clr_r, sm_clr_n, sm_clr_o, sm_clr_l, zr_some, zh_some, Option.toList_some, Option.toList_none, List.cons_append, List.nil_append, List.map_cons, List.map_nil, List.sum_cons, List.sum_nil, sm_cat_i, sm_cat_r, sm_cat_n, sm_cat_l, Nat.reduceAdd, Nat.reduceLeDiff, Nat.zero_add, Nat.add_zero, if_true, if_false, not_true_eq_false, not_false_eq_true, and_self, true_and, and_true, hf_0_0, hf_0_1, hf_0_2, hf_0_3, hf_0_4, hf_0_5, hf_0_6, hf_0_7, hf_0_8, hf_0_9, hf_0_10, hf_0_11, hf_0_12, hf_0_13, hf_0_14, hf_31_0, hf_31_1, hf_31_2, hf_33_0, hf_33_1, hf_33_2, hf_36_0, hf_36_1, hf_36_2, hf_36_3, hf_36_4, hf_36_5, hf_36_6, hf_36_7, hf_36_8, hc_0, hc_31, hc_33, hc_36, hc_40, hc_41, hc_42, hc_43, hc_45, ha_34, ha_35, ha_37, ha_38, ha_39, ha_44, hw_31_0, hw_31_1, hw_33_0, hw_36_0, hw_36_1, hw_36_5, hw_36_6, hw_36_7, hw_36_8, hw_0_4, hw_0_5, hs_34, hs_35, hs_38, hs_39, hs_44, h0, h1, ai_r, ai_e, hi]
theorem t_number {i j : Nat} {v : Int32} (hv : v = nI j) (hi : i < 14) (hj : j < 3) : sm_call xs n_X7_number [.ref 36, .int (nI i), .int v] (hp S) = some (some (.int (gR S 4 (i * 3 + j))), hp S) := by
  subst hv
  have h0 : ¬ nI i < 0 := nI_pos (by omega)
  have h1 : ¬ (14 : Int32) ≤ nI i := nI_ge (b := 14) hi (by omega)
  have h2 : ¬ nI j < 0 := nI_pos (by omega)
  have h3 : ¬ (3 : Int32) ≤ nI j := nI_ge (b := 3) hj (by omega)
  have h4 : i * 3 + j < 42 := by omega
  rw [c0_X7_number]
  simp only [s_X7_number_0, s_X7_number_1, s_X7_number_4, s_X7_number_5, s_X7_number_7, s_X7_number_10, s_X7_number_11, s_X7_number_14, s_X7_number_15, s_X7_number_16, s_X7_number_19, s_X7_number_20, s_X7_number_23, s_X7_number_24, s_X7_number_25, s_X7_number_26, s_X7_number_29, s_X7_number_30, s_X7_number_33, s_X7_number_34, s_X7_number_35, s_X7_number_36, s_X7_number_37, s_X7_number_38, s_X7_number_39, s_X7_number_42, s_X7_number_43, Option.isSome_some, Option.getD_some, sm_clr_i, sm_clr_r, sm_clr_n, sm_clr_o, sm_clr_l, zr_some, zh_some, Option.toList_some, Option.toList_none, List.cons_append, List.nil_append, List.map_cons, List.map_nil, List.sum_cons, List.sum_nil, sm_cat_i, sm_cat_r, sm_cat_n, sm_cat_l, Nat.reduceAdd, Nat.reduceLeDiff, Nat.zero_add, Nat.add_zero, if_true, if_false, not_true_eq_false, not_false_eq_true, and_self, true_and, and_true, hf_0_0, hf_0_1, hf_0_2, hf_0_3, hf_0_4, hf_0_5, hf_0_6, hf_0_7, hf_0_8, hf_0_9, hf_0_10, hf_0_11, hf_0_12, hf_0_13, hf_0_14, hf_31_0, hf_31_1, hf_31_2, hf_33_0, hf_33_1, hf_33_2, hf_36_0, hf_36_1, hf_36_2, hf_36_3, hf_36_4, hf_36_5, hf_36_6, hf_36_7, hf_36_8, hc_0, hc_31, hc_33, hc_36, hc_40, hc_41, hc_42, hc_43, hc_45, ha_34, ha_35, ha_37, ha_38, ha_39, ha_44, hw_31_0, hw_31_1, hw_33_0, hw_36_0, hw_36_1, hw_36_5, hw_36_6, hw_36_7, hw_36_8, hw_0_4, hw_0_5, hs_34, hs_35, hs_38, hs_39, hs_44, h0, h1, h2, h3, show ¬ (1 : Int32) = 0 from by decide, ia_m3, nI_add, ai_r, ai_e, h4]
theorem pt_loop {m : Nat} (hm : m ≤ 14) : ∀ (k i : Nat) (S : GS), i + k = m → gN S 4 = nI m → pf_wf (gT S 0) → (∀ j, j < m → gR S 3 j = 0 → ∃ u : Nat, 4 ≤ u ∧ u ≤ 9 ∧ gR S 4 (j * 3) = nI u) → sm_run xs n_X9_patch 30 [some (.ref 0), some (.int (nI i))] [] (hp S) = sm_run xs n_X9_patch 89 [some (.ref 0), some (.int (nI m))] [] (hp (sT S 0 (fo_F (gR S 3) (gR S 4) k i (gT S 0)))) := by
  intro k
  induction k with
  | zero =>
    intro i S hi h4 hw hz
    have hle : nI m ≤ nI i := nI_le (by omega) (by omega)
    rw [s_X9_patch_30]
    simp only [s_X9_patch_0, s_X9_patch_1, s_X9_patch_4, s_X9_patch_5, s_X9_patch_8, s_X9_patch_11, s_X9_patch_12, s_X9_patch_15, s_X9_patch_18, s_X9_patch_21, s_X9_patch_22, s_X9_patch_25, s_X9_patch_27, s_X9_patch_28, s_X9_patch_29, s_X9_patch_31, s_X9_patch_32, s_X9_patch_35, s_X9_patch_38, s_X9_patch_41, s_X9_patch_42, s_X9_patch_45, s_X9_patch_46, s_X9_patch_49, s_X9_patch_50, s_X9_patch_53, s_X9_patch_54, s_X9_patch_57, s_X9_patch_58, s_X9_patch_59, s_X9_patch_62, s_X9_patch_63, s_X9_patch_66, s_X9_patch_67, s_X9_patch_68, s_X9_patch_71, s_X9_patch_72, s_X9_patch_75, s_X9_patch_76, s_X9_patch_77, s_X9_patch_80, s_X9_patch_83, s_X9_patch_86, s_X9_patch_90, s_X9_patch_93, s_X9_patch_94, s_X9_patch_97, s_X9_patch_100, s_X9_patch_101, s_X9_patch_104, s_X9_patch_105, s_X9_patch_108, s_X9_patch_109, s_X9_patch_112, s_X9_patch_113, s_X9_patch_116, s_X9_patch_117, s_X9_patch_118z0, s_X9_patch_118z1, s_X9_patch_121, s_X9_patch_122, s_X9_patch_123z0, s_X9_patch_123z1, s_X9_patch_126, s_X9_patch_127, s_X9_patch_130, s_X9_patch_131, s_X9_patch_134, s_X9_patch_135, s_X9_patch_138, s_X9_patch_141, Option.isSome_some, Option.getD_some, sm_clr_i, sm_clr_r, sm_clr_n, sm_clr_o, sm_clr_l, zr_some, zh_some, Option.toList_some, Option.toList_none, List.cons_append, List.nil_append, List.map_cons, List.map_nil, List.sum_cons, List.sum_nil, sm_cat_i, sm_cat_r, sm_cat_n, sm_cat_l, Nat.reduceAdd, Nat.reduceLeDiff, Nat.zero_add, Nat.add_zero, if_true, if_false, not_true_eq_false, not_false_eq_true, and_self, true_and, and_true, hf_0_0, hf_0_1, hf_0_2, hf_0_3, hf_0_4, hf_0_5, hf_0_6, hf_0_7, hf_0_8, hf_0_9, hf_0_10, hf_0_11, hf_0_12, hf_0_13, hf_0_14, hf_31_0, hf_31_1, hf_31_2, hf_33_0, hf_33_1, hf_33_2, hf_36_0, hf_36_1, hf_36_2, hf_36_3, hf_36_4, hf_36_5, hf_36_6, hf_36_7, hf_36_8, hc_0, hc_31, hc_33, hc_36, hc_40, hc_41, hc_42, hc_43, hc_45, ha_34, ha_35, ha_37, ha_38, ha_39, ha_44, hw_31_0, hw_31_1, hw_33_0, hw_36_0, hw_36_1, hw_36_5, hw_36_6, hw_36_7, hw_36_8, hw_0_4, hw_0_5, hs_34, hs_35, hs_38, hs_39, hs_44, h4, hle]
    rw [show fo_F (gR S 3) (gR S 4) 0 i (gT S 0) = gT S 0 from rfl, show i = m by omega]
    have : sT S 0 (gT S 0) = S := by unfold sT; rw [fu_id]; rfl
    rw [this]
  | succ k ih =>
    intro i S hi h4 hw hz
    have hle : ¬ nI m ≤ nI i := nI_ge (by omega) (by omega)
    have hv := t_verbOf (xs := xs) (S := S) (i := i) (by omega)
    have hn0 := t_number (xs := xs) (S := S) (i := i) (j := 0) (v := 0) rfl (by omega) (by omega)
    have hn1 := t_number (xs := xs) (S := S) (i := i) (j := 1) (v := 1) rfl (by omega) (by omega)
    have hn2 := t_number (xs := xs) (S := S) (i := i) (j := 2) (v := 2) rfl (by omega) (by omega)
    have h00 : gR S 3 i = 0 → ¬ gR S 4 (i * 3) < 0 := fun q => by
      obtain ⟨u, -, u2, u3⟩ := hz i (by omega) q
      rw [u3]; exact nI_pos (by omega)
    have ht := q_tell (xs := xs) (S := S) (k := 0) (by omega) hw (gR S 3 i) (gR S 4 (i * 3)) (gR S 4 (i * 3 + 1)) (gR S 4 (i * 3 + 2)) h00
    have hw' : pf_wf (te_T (gT S 0) (gR S 3 i) (gR S 4 (i * 3)) (gR S 4 (i * 3 + 1)) (gR S 4 (i * 3 + 2))) := wf_te hw (fun q => hz i (by omega) q)
    rw [s_X9_patch_30]
    simp only [s_X9_patch_0, s_X9_patch_1, s_X9_patch_4, s_X9_patch_5, s_X9_patch_8, s_X9_patch_11, s_X9_patch_12, s_X9_patch_15, s_X9_patch_18, s_X9_patch_21, s_X9_patch_22, s_X9_patch_25, s_X9_patch_27, s_X9_patch_28, s_X9_patch_29, s_X9_patch_31, s_X9_patch_32, s_X9_patch_35, s_X9_patch_38, s_X9_patch_41, s_X9_patch_42, s_X9_patch_45, s_X9_patch_46, s_X9_patch_49, s_X9_patch_50, s_X9_patch_53, s_X9_patch_54, s_X9_patch_57, s_X9_patch_58, s_X9_patch_59, s_X9_patch_62, s_X9_patch_63, s_X9_patch_66, s_X9_patch_67, s_X9_patch_68, s_X9_patch_71, s_X9_patch_72, s_X9_patch_75, s_X9_patch_76, s_X9_patch_77, s_X9_patch_80, s_X9_patch_83, s_X9_patch_86, s_X9_patch_90, s_X9_patch_93, s_X9_patch_94, s_X9_patch_97, s_X9_patch_100, s_X9_patch_101, s_X9_patch_104, s_X9_patch_105, s_X9_patch_108, s_X9_patch_109, s_X9_patch_112, s_X9_patch_113, s_X9_patch_116, s_X9_patch_117, s_X9_patch_118z0, s_X9_patch_118z1, s_X9_patch_121, s_X9_patch_122, s_X9_patch_123z0, s_X9_patch_123z1, s_X9_patch_126, s_X9_patch_127, s_X9_patch_130, s_X9_patch_131, s_X9_patch_134, s_X9_patch_135, s_X9_patch_138, s_X9_patch_141, Option.isSome_some, Option.getD_some, sm_clr_i, sm_clr_r, sm_clr_n, sm_clr_o, sm_clr_l, zr_some, zh_some, Option.toList_some, Option.toList_none, List.cons_append, List.nil_append, List.map_cons, List.map_nil, List.sum_cons, List.sum_nil, sm_cat_i, sm_cat_r, sm_cat_n, sm_cat_l, Nat.reduceAdd, Nat.reduceLeDiff, Nat.zero_add, Nat.add_zero, if_true, if_false, not_true_eq_false, not_false_eq_true, and_self, true_and, and_true, hf_0_0, hf_0_1, hf_0_2, hf_0_3, hf_0_4, hf_0_5, hf_0_6, hf_0_7, hf_0_8, hf_0_9, hf_0_10, hf_0_11, hf_0_12, hf_0_13, hf_0_14, hf_31_0, hf_31_1, hf_31_2, hf_33_0, hf_33_1, hf_33_2, hf_36_0, hf_36_1, hf_36_2, hf_36_3, hf_36_4, hf_36_5, hf_36_6, hf_36_7, hf_36_8, hc_0, hc_31, hc_33, hc_36, hc_40, hc_41, hc_42, hc_43, hc_45, ha_34, ha_35, ha_37, ha_38, ha_39, ha_44, hw_31_0, hw_31_1, hw_33_0, hw_36_0, hw_36_1, hw_36_5, hw_36_6, hw_36_7, hw_36_8, hw_0_4, hw_0_5, hs_34, hs_35, hs_38, hs_39, hs_44, h4, hle, p0_c, p0_0, p0_1, p0_2, p0_3, p0_4, p0_5, p0_6, p0_7, p0_a1, p0_a2, p0_a3, p0_a4, p0_a5, p0_w2, p0_s1, p1_c, p1_0, p1_1, p1_2, p1_3, p1_4, p1_5, p1_6, p1_7, p1_a1, p1_a2, p1_a3, p1_a4, p1_a5, p1_w2, p1_s1, p2_c, p2_0, p2_1, p2_2, p2_3, p2_4, p2_5, p2_6, p2_7, p2_a1, p2_a2, p2_a3, p2_a4, p2_a5, p2_w2, p2_s1, p3_c, p3_0, p3_1, p3_2, p3_3, p3_4, p3_5, p3_6, p3_7, p3_a1, p3_a2, p3_a3, p3_a4, p3_a5, p3_w2, p3_s1, p4_c, p4_0, p4_1, p4_2, p4_3, p4_4, p4_5, p4_6, p4_7, p4_a1, p4_a2, p4_a3, p4_a4, p4_a5, p4_w2, p4_s1, p1_roll, p1_hasCell, p1_hasPlayer, p1_hasPair, p1_worthAt, p1_owes, p1_owesInAll, p1_isOwedInAll, p1_balance, p1_marbles, p1_land, p1_gain, p1_owe, p4_roll, p4_hasCell, p4_hasPlayer, p4_hasPair, p4_worthAt, p4_owes, p4_owesInAll, p4_isOwedInAll, p4_balance, p4_marbles, p4_land, p4_gain, p4_owe, p4_clear, pb_10, pb_21, pb_31, pb_12, pb_13, pb_41, ci_0_255, ci_0_1, ci_0_9, ci_0_9999, ci_1_99, ci_0_4, ci_0_8, ci_1_8, ci_0_10, ci_0_6, cf_n, cf_p, cf_s, cf_sl, cf_w, cf_k, cf_pu, cf_d, hv, hn0, hn1, hn2, Nat.add_zero, ht, nI_1]
    have e := ih (i + 1) (sT S 0 (te_T (gT S 0) (gR S 3 i) (gR S 4 (i * 3)) (gR S 4 (i * 3 + 1)) (gR S 4 (i * 3 + 2)))) (by omega) (by simp only [gT_sT, gQ_sT, gN_sT, gR_sT, gI_sT, gA_sT, gT_sQ, gQ_sQ, gN_sQ, gR_sQ, gI_sQ, gA_sQ, gT_sN, gQ_sN, gN_sN, gR_sN, gI_sN, gA_sN, gT_sR, gQ_sR, gN_sR, gR_sR, gI_sR, gA_sR, gT_sI, gQ_sI, gN_sI, gR_sI, gI_sI, gA_sI, gT_sA, gQ_sA, gN_sA, gR_sA, gI_sA, gA_sA, fu_s, fu_n, fu_fu, ne_eq, Nat.reduceEqDiff, not_false_eq_true, pf_n_sets, pf_p_sets, pf_s_sets, pf_sl_sets, pf_w_sets, pf_k_sets, pf_pu_sets, pf_d_sets, pf_n_setsl, pf_p_setsl, pf_s_setsl, pf_sl_setsl, pf_w_setsl, pf_k_setsl, pf_pu_setsl, pf_d_setsl, pf_n_setw, pf_p_setw, pf_s_setw, pf_sl_setw, pf_w_setw, pf_k_setw, pf_pu_setw, pf_d_setw, pf_n_setpu, pf_p_setpu, pf_s_setpu, pf_sl_setpu, pf_w_setpu, pf_k_setpu, pf_pu_setpu, pf_d_setpu, pf_n_setd, pf_p_setd, pf_s_setd, pf_sl_setd, pf_w_setd, pf_k_setd, pf_pu_setd, pf_d_setd, h4]) (by simp only [gT_sT, gQ_sT, gN_sT, gR_sT, gI_sT, gA_sT, gT_sQ, gQ_sQ, gN_sQ, gR_sQ, gI_sQ, gA_sQ, gT_sN, gQ_sN, gN_sN, gR_sN, gI_sN, gA_sN, gT_sR, gQ_sR, gN_sR, gR_sR, gI_sR, gA_sR, gT_sI, gQ_sI, gN_sI, gR_sI, gI_sI, gA_sI, gT_sA, gQ_sA, gN_sA, gR_sA, gI_sA, gA_sA, fu_s, fu_n, fu_fu, ne_eq, Nat.reduceEqDiff, not_false_eq_true, pf_n_sets, pf_p_sets, pf_s_sets, pf_sl_sets, pf_w_sets, pf_k_sets, pf_pu_sets, pf_d_sets, pf_n_setsl, pf_p_setsl, pf_s_setsl, pf_sl_setsl, pf_w_setsl, pf_k_setsl, pf_pu_setsl, pf_d_setsl, pf_n_setw, pf_p_setw, pf_s_setw, pf_sl_setw, pf_w_setw, pf_k_setw, pf_pu_setw, pf_d_setw, pf_n_setpu, pf_p_setpu, pf_s_setpu, pf_sl_setpu, pf_w_setpu, pf_k_setpu, pf_pu_setpu, pf_d_setpu, pf_n_setd, pf_p_setd, pf_s_setd, pf_sl_setd, pf_w_setd, pf_k_setd, pf_pu_setd, pf_d_setd]; exact hw') (by simp only [gT_sT, gQ_sT, gN_sT, gR_sT, gI_sT, gA_sT, gT_sQ, gQ_sQ, gN_sQ, gR_sQ, gI_sQ, gA_sQ, gT_sN, gQ_sN, gN_sN, gR_sN, gI_sN, gA_sN, gT_sR, gQ_sR, gN_sR, gR_sR, gI_sR, gA_sR, gT_sI, gQ_sI, gN_sI, gR_sI, gI_sI, gA_sI, gT_sA, gQ_sA, gN_sA, gR_sA, gI_sA, gA_sA, fu_s, fu_n, fu_fu, ne_eq, Nat.reduceEqDiff, not_false_eq_true, pf_n_sets, pf_p_sets, pf_s_sets, pf_sl_sets, pf_w_sets, pf_k_sets, pf_pu_sets, pf_d_sets, pf_n_setsl, pf_p_setsl, pf_s_setsl, pf_sl_setsl, pf_w_setsl, pf_k_setsl, pf_pu_setsl, pf_d_setsl, pf_n_setw, pf_p_setw, pf_s_setw, pf_sl_setw, pf_w_setw, pf_k_setw, pf_pu_setw, pf_d_setw, pf_n_setpu, pf_p_setpu, pf_s_setpu, pf_sl_setpu, pf_w_setpu, pf_k_setpu, pf_pu_setpu, pf_d_setpu, pf_n_setd, pf_p_setd, pf_s_setd, pf_sl_setd, pf_w_setd, pf_k_setd, pf_pu_setd, pf_d_setd]; exact hz)
    refine e.trans ?_
    simp only [gT_sT, gQ_sT, gN_sT, gR_sT, gI_sT, gA_sT, gT_sQ, gQ_sQ, gN_sQ, gR_sQ, gI_sQ, gA_sQ, gT_sN, gQ_sN, gN_sN, gR_sN, gI_sN, gA_sN, gT_sR, gQ_sR, gN_sR, gR_sR, gI_sR, gA_sR, gT_sI, gQ_sI, gN_sI, gR_sI, gI_sI, gA_sI, gT_sA, gQ_sA, gN_sA, gR_sA, gI_sA, gA_sA, fu_s, fu_n, fu_fu, ne_eq, Nat.reduceEqDiff, not_false_eq_true, pf_n_sets, pf_p_sets, pf_s_sets, pf_sl_sets, pf_w_sets, pf_k_sets, pf_pu_sets, pf_d_sets, pf_n_setsl, pf_p_setsl, pf_s_setsl, pf_sl_setsl, pf_w_setsl, pf_k_setsl, pf_pu_setsl, pf_d_setsl, pf_n_setw, pf_p_setw, pf_s_setw, pf_sl_setw, pf_w_setw, pf_k_setw, pf_pu_setw, pf_d_setw, pf_n_setpu, pf_p_setpu, pf_s_setpu, pf_sl_setpu, pf_w_setpu, pf_k_setpu, pf_pu_setpu, pf_d_setpu, pf_n_setd, pf_p_setd, pf_s_setd, pf_sl_setd, pf_w_setd, pf_k_setd, pf_pu_setd, pf_d_setd]
    have e2 : ∀ (S : GS) (F F' : PF), sT (sT S 0 F) 0 F' = sT S 0 F' := fun S F F' => by unfold sT; rw [show gT (fu (gT S) 0 F, S.2) = fu (gT S) 0 F from rfl, fu_fu]
    rw [e2]
    rfl
end FP

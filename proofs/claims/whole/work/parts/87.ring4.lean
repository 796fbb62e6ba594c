def relN (x : (Nat → Int32) × Int32) (y : (Nat → Nat) × Nat) : Prop := (∀ b, b < 5 → x.1 b = nI (y.1 b) ∧ y.1 b ≤ 99) ∧ x.2 = nI y.2 ∧ y.2 ≤ 99
theorem mi_if {a b : Nat} (ha : a ≤ 99) (hb : b ≤ 99) : (if decide (nI a + 1 < nI b) = true then nI a + 1 else nI b) = nI (min b (a + 1)) := by
  rw [nI_1]
  by_cases z : a + 1 < b
  · rw [decide_eq_true (nI_lt z (by omega)), if_pos rfl, Nat.min_eq_right (by omega)]
  · have : ¬ nI (a + 1) < nI b := Int32.not_lt.mpr (nI_le (by omega) (by omega))
    rw [decide_eq_false this, if_neg (by decide), Nat.min_eq_left (by omega)]
theorem rel_s {E : Nat → Nat → Bool} {p pl k : Nat} (hE : eOk E p) (hk : k < 25) {x : (Nat → Int32) × Int32} {y : (Nat → Nat) × Nat} (h : relN x y) : relN (mf_F E pl k x) (nf_F E pl k y) := by
  obtain ⟨h1, h2, h3⟩ := h
  have ha : k / 5 < 5 := by omega
  have hb : k % 5 < 5 := by omega
  obtain ⟨a1, a2⟩ := h1 _ ha
  obtain ⟨b1, b2⟩ := h1 _ hb
  have hne := hE _ _ ha hb
  unfold mf_F nf_F
  generalize k / 5 = a at *
  generalize k % 5 = b at *
  cases he : E a b with
  | false =>
    simp only [Bool.false_and, Bool.false_eq_true, if_false, and_false, false_and]
    refine ⟨fun c hc => ?_, h2, h3⟩
    show fu x.1 b (x.1 b) c = nI (y.1 c) ∧ y.1 c ≤ 99
    by_cases z : c = b
    · subst z; rw [fu_s]; exact h1 c hc
    · rw [fu_n z]; exact h1 c hc
  | true =>
    have nab := (hne he).2.2
    have hv := mi_if a2 b2
    rw [← a1, ← b1] at hv
    simp only [Bool.true_and, and_true, true_and]
    rw [hv, fu_n nab]
    refine ⟨fun c hc => ?_, ?_⟩
    · show fu x.1 b (nI (min (y.1 b) (y.1 a + 1))) c = nI (if c = b then min (y.1 b) (y.1 a + 1) else y.1 c) ∧ (if c = b then min (y.1 b) (y.1 a + 1) else y.1 c) ≤ 99
      by_cases z : c = b
      · subst z; rw [fu_s, if_pos rfl]; exact ⟨rfl, Nat.le_trans (Nat.min_le_left _ _) b2⟩
      · rw [fu_n z, if_neg z]; exact h1 c hc
    · show (if (decide (b = pl) && decide (x.1 a + 1 < x.2)) = true then x.1 a + 1 else x.2) = nI (if b = pl then min y.2 (y.1 a + 1) else y.2) ∧ (if b = pl then min y.2 (y.1 a + 1) else y.2) ≤ 99
      by_cases z : b = pl
      · rw [decide_eq_true z, Bool.true_and, if_pos z, a1, h2, mi_if a2 h3]
        exact ⟨rfl, Nat.le_trans (Nat.min_le_left _ _) h3⟩
      · rw [decide_eq_false z, Bool.false_and, if_neg z, if_neg (by decide)]
        exact ⟨h2, h3⟩
theorem rels_s {E : Nat → Nat → Bool} {p pl : Nat} (hE : eOk E p) : ∀ (j k : Nat) (x : (Nat → Int32) × Int32) (y : (Nat → Nat) × Nat), k + j ≤ 25 → relN x y → relN (itr (mf_F E pl) j k x) (itr (nf_F E pl) j k y) := by
  intro j
  induction j with
  | zero => intro k x y _ h; exact h
  | succ j ih => intro k x y hk h; exact ih (k + 1) _ _ (by omega) (rel_s hE (by omega) h)
theorem rounds {E : Nat → Nat → Bool} {p pl : Nat} (hE : eOk E p) : ∀ (j i : Nat) (x : (Nat → Int32) × Int32) (y : (Nat → Nat) × Nat), relN x y → sndN E pl y → cmN E pl i y → ∃ y', relN (itr (fun _ x => rr_F E pl x) j i x) y' ∧ sndN E pl y' ∧ cmN E pl (i + j) y' := by
  intro j
  induction j with
  | zero => intro i x y h1 h2 h3; exact ⟨y, h1, h2, h3⟩
  | succ j ih =>
    intro i x y h1 h2 h3
    obtain ⟨y', a, b, c⟩ := ih (i + 1) (rr_F E pl x) (itr (nf_F E pl) 25 0 y) (rels_s hE 25 0 x y (by omega) h1) (nfs_snd 25 0 y (by omega) h2) (cm_s h3)
    exact ⟨y', a, b, by rw [show i + (j + 1) = i + 1 + j by omega]; exact c⟩
theorem m0_at {pl : Nat} {g : Nat → Int32} : ∀ b, b < 5 → m0_F pl g b = if b = pl then 0 else 99 := by
  intro b hb
  match b, hb with
  | 0, _ => rfl
  | 1, _ => rfl
  | 2, _ => rfl
  | 3, _ => rfl
  | 4, _ => rfl
theorem ring_eq {E : Nat → Nat → Bool} {p pl : Nat} (p5 : p ≤ 5) (hE : eOk E p) (hpl : pl < p) (g : Nat → Int32) : rg_C E p pl p 1 (fo 0 pl) = if 99 ≤ (rg_M E pl g).2 then -1 else (rg_M E pl g).2 := by
  have r0 : relN (m0_F pl g, 99) (fun b => if b = pl then 0 else 99, 99) := by
    refine ⟨fun b hb => ?_, rfl, Nat.le_refl _⟩
    show m0_F pl g b = nI (if b = pl then 0 else 99) ∧ (if b = pl then 0 else 99) ≤ 99
    rw [m0_at b hb]
    by_cases z : b = pl
    · rw [if_pos z, if_pos z]; exact ⟨rfl, by decide⟩
    · rw [if_neg z, if_neg z]; exact ⟨rfl, by decide⟩
  have s0 : sndN E pl (fun b => if b = pl then 0 else 99, 99) := by
    refine ⟨fun b hb => ?_, fun h => absurd h (Nat.lt_irrefl 99)⟩
    show (if b = pl then 0 else 99) < 99 → wB E pl (if b = pl then 0 else 99) b = true
    by_cases z : b = pl
    · rw [if_pos z]; exact fun _ => decide_eq_true z
    · rw [if_neg z]; exact fun h => absurd h (by decide)
  have c0 : cmN E pl 0 (fun b => if b = pl then 0 else 99, 99) := by
    intro k b hk hb hw
    have e : k = 0 := by omega
    subst e
    have z : b = pl := of_decide_eq_true hw
    refine ⟨?_, fun h => absurd h (by decide)⟩
    show (if b = pl then 0 else 99) ≤ 0
    rw [if_pos z]
    exact Nat.le_refl 0
  obtain ⟨y, ⟨-, y2, y3⟩, ⟨-, ys⟩, yc⟩ := rounds hE 5 0 _ _ r0 s0 c0
  have e2 : (rg_M E pl g).2 = nI y.2 := y2
  rw [e2]
  rcases rgC_sp p5 hE hpl p 0 (fo 0 pl) (fun b hb => of_decide_eq_true (fo_a3 pl (by omega) b (by omega))) with ⟨e, g1, g2, g3, g4, g5⟩ | ⟨g1, g2⟩
  · have k1 := (yc e pl (by omega) (by omega) g3).2 (by omega) rfl
    obtain ⟨k2, k3⟩ := ys (by omega)
    have k4 : ¬ y.2 < e := fun h => by rw [g4 y.2 (by omega) h] at k3; exact absurd k3 (by decide)
    have k5 : y.2 = e := by omega
    have k6 : ¬ (99 : Int32) ≤ nI e := nI_ge (a := e) (b := 99) (by omega) (by omega)
    rw [k5, if_neg k6]
    exact g5
  · have k5 : y.2 = 99 := by
      apply Classical.byContradiction
      intro hn
      obtain ⟨k2, k3⟩ := ys (by omega)
      obtain ⟨i, i1, i2, i3⟩ := wB_short p5 hE hpl k2 k3
      rw [g1 i (by omega) (by omega)] at i3
      exact absurd i3 (by decide)
    rw [k5, if_pos (show (99 : Int32) ≤ nI 99 from by decide)]
    exact g2
theorem ed_ok {S : GS} {n p : Nat} (D5 : dok n p (gA S 5)) : eOk (ed_B S) p := by
  intro a b ha hb he
  obtain ⟨m, m1, m2, m3⟩ := D5.2.2.1 a b ha hb
  have he' := of_decide_eq_true he
  rw [m2] at he'
  apply Classical.byContradiction
  intro hn
  have : m = 0 := m3 (by omega)
  rw [this] at he'
  exact absurd he' (by decide)
section RK
variable {xs : List Int32} {S : GS}
theorem j_ring (C : cpl S) (c : Int32) : jw xs S n_X9_ring n_X10_ring [.int c] := by
  obtain ⟨n, p, len, sz, nw, sn, G0, D5, t0, t1, k0, k1, ⟨z0, z1, z12, hsz, hnw, hnq, hq8, hpast⟩, ⟨s2, s17, hsn, r0, r1⟩, ⟨x3, x6, hlen, r2⟩, g5⟩ := id C
  obtain ⟨n4, n9, p5, g0, g10, hkk, D2, d39⟩ := id G0
  have hW := fun G D => cf_wf (p := p) n9 p5 G D
  have w1 : pf_wf (gT S 1) := by rw [t1]; exact hW _ _
  have hi : ∀ i, i < sz → pt_t nw sz i < gQ S ∧ pe (gT S (5 + pt_t nw sz i)) (cF n p (gA S 1) (fun k => gA S 7 (40 * i + k))) ∧ dok n p (fun k => gA S 7 (40 * i + k)) := fun i hi => ⟨(hpast i hi).1, pe_eq (hpast i hi).2.1, (hpast i hi).2.2⟩
  have kk0 : gA S 9 0 = gN S 9 ∧ (gN S 9 = 0 ∨ (gN S 9 = 1 ∧ pe (gT S 2) (cF n p (gA S 1) (fun k => gA S 8 (40 * 0 + k))) ∧ dok n p (fun k => gA S 8 (40 * 0 + k)))) := ⟨k0.1, k0.2.imp id (fun q => ⟨q.1, pe_eq q.2.1, q.2.2⟩)⟩
  have kk1 : gA S 9 1 = gN S 10 ∧ (gN S 10 = 0 ∨ (gN S 10 = 1 ∧ pe (gT S 3) (cF n p (gA S 1) (fun k => gA S 8 (40 * 1 + k))) ∧ dok n p (fun k => gA S 8 (40 * 1 + k)))) := ⟨k1.1, k1.2.imp id (fun q => ⟨q.1, pe_eq q.2.1, q.2.2⟩)⟩
  have pp : pf_p (gT S 1) = p := by rw [t1]; rfl
  have hC := m_isPlayer (xs := xs) g10 p5 c
  cases hb : hs_C p c with
  | false =>
    rw [hb, b2i_f] at hC
    refine jt_w (jt_same (.int (-2)) C ?_ ?_)
    · rw [c0_X9_ring]; simp only [s_X9_ring_0, s_X9_ring_1, s_X9_ring_4, s_X9_ring_5, s_X9_ring_8, s_X9_ring_11, s_X9_ring_13, s_X9_ring_14, s_X9_ring_15, s_X9_ring_16, s_X9_ring_17, s_X9_ring_18, s_X9_ring_19, s_X9_ring_21, s_X9_ring_22, s_X9_ring_25, s_X9_ring_28, s_X9_ring_31, s_X9_ring_32, s_X9_ring_35, s_X9_ring_36, s_X9_ring_39, s_X9_ring_40, s_X9_ring_41, s_X9_ring_42, s_X9_ring_45, s_X9_ring_48, s_X9_ring_49, s_X9_ring_50, s_X9_ring_53, s_X9_ring_56, s_X9_ring_57, Option.isSome_some, Option.getD_some, sm_clr_i, sm_clr_r, sm_clr_n, sm_clr_o, sm_clr_l, zr_some, zh_some, Option.toList_some, Option.toList_none, List.cons_append, List.nil_append, List.map_cons, List.map_nil, List.sum_cons, List.sum_nil, sm_cat_i, sm_cat_r, sm_cat_n, sm_cat_l, Nat.reduceAdd, Nat.reduceLeDiff, Nat.zero_add, Nat.add_zero, if_true, if_false, not_true_eq_false, not_false_eq_true, and_self, true_and, and_true, b2i_f, hf_0_0, hf_0_1, hf_0_2, hf_0_3, hf_0_4, hf_0_5, hf_0_6, hf_0_7, hf_0_8, hf_0_9, hf_0_10, hf_0_11, hf_0_12, hf_0_13, hf_0_14, hf_31_0, hf_31_1, hf_31_2, hf_33_0, hf_33_1, hf_33_2, hf_36_0, hf_36_1, hf_36_2, hf_36_3, hf_36_4, hf_36_5, hf_36_6, hf_36_7, hf_36_8, hc_0, hc_31, hc_33, hc_36, hc_40, hc_41, hc_42, hc_43, hc_45, ha_34, ha_35, ha_37, ha_38, ha_39, ha_44, hw_31_0, hw_31_1, hw_33_0, hw_36_0, hw_36_1, hw_36_5, hw_36_6, hw_36_7, hw_36_8, hw_0_4, hw_0_5, hs_34, hs_35, hs_38, hs_39, hs_44, p0_c, p0_0, p0_1, p0_2, p0_3, p0_4, p0_5, p0_6, p0_7, p0_a1, p0_a2, p0_a3, p0_a4, p0_a5, p0_w2, p0_s1, p1_c, p1_0, p1_1, p1_2, p1_3, p1_4, p1_5, p1_6, p1_7, p1_a1, p1_a2, p1_a3, p1_a4, p1_a5, p1_w2, p1_s1, p2_c, p2_0, p2_1, p2_2, p2_3, p2_4, p2_5, p2_6, p2_7, p2_a1, p2_a2, p2_a3, p2_a4, p2_a5, p2_w2, p2_s1, p3_c, p3_0, p3_1, p3_2, p3_3, p3_4, p3_5, p3_6, p3_7, p3_a1, p3_a2, p3_a3, p3_a4, p3_a5, p3_w2, p3_s1, p4_c, p4_0, p4_1, p4_2, p4_3, p4_4, p4_5, p4_6, p4_7, p4_a1, p4_a2, p4_a3, p4_a4, p4_a5, p4_w2, p4_s1, p1_roll, p1_hasCell, p1_hasPlayer, p1_hasPair, p1_worthAt, p1_owes, p1_owesInAll, p1_isOwedInAll, p1_balance, p1_marbles, p1_land, p1_gain, p1_owe, p4_roll, p4_hasCell, p4_hasPlayer, p4_hasPair, p4_worthAt, p4_owes, p4_owesInAll, p4_isOwedInAll, p4_balance, p4_marbles, p4_land, p4_gain, p4_owe, p4_clear, pb_10, pb_21, pb_31, pb_12, pb_13, pb_41, ci_0_255, ci_0_1, ci_0_9, ci_0_9999, ci_1_99, ci_0_4, ci_0_8, ci_1_8, ci_0_10, ci_0_6, cf_n, cf_p, cf_s, cf_sl, cf_w, cf_k, cf_pu, cf_d, t1, hW, hb]
    · rw [c0_X10_ring]; simp only [s_X10_ring_0, s_X10_ring_1, s_X10_ring_2, s_X10_ring_5, s_X10_ring_8, s_X10_ring_10, s_X10_ring_11, s_X10_ring_12, s_X10_ring_14, s_X10_ring_15, s_X10_ring_18, s_X10_ring_19, s_X10_ring_22, s_X10_ring_23, s_X10_ring_24, s_X10_ring_25, s_X10_ring_28, s_X10_ring_29, s_X10_ring_32, s_X10_ring_34, s_X10_ring_35, s_X10_ring_38, s_X10_ring_41, s_X10_ring_43, s_X10_ring_44, s_X10_ring_45, s_X10_ring_46, s_X10_ring_47, s_X10_ring_48, s_X10_ring_51, s_X10_ring_52, s_X10_ring_54, s_X10_ring_56, s_X10_ring_58, s_X10_ring_61, s_X10_ring_63, s_X10_ring_64, s_X10_ring_65, s_X10_ring_67, s_X10_ring_69, s_X10_ring_70, s_X10_ring_71, s_X10_ring_73, s_X10_ring_74, s_X10_ring_77, s_X10_ring_79, s_X10_ring_81, s_X10_ring_82, s_X10_ring_83, s_X10_ring_86, s_X10_ring_87, s_X10_ring_90, s_X10_ring_91, s_X10_ring_93, s_X10_ring_94, s_X10_ring_97, s_X10_ring_99, s_X10_ring_101, s_X10_ring_104, s_X10_ring_105, s_X10_ring_108, s_X10_ring_110, s_X10_ring_111, s_X10_ring_112, s_X10_ring_113, s_X10_ring_114, s_X10_ring_117, s_X10_ring_119, s_X10_ring_120, s_X10_ring_123, s_X10_ring_124, s_X10_ring_127, s_X10_ring_129, s_X10_ring_130, s_X10_ring_131, s_X10_ring_132, s_X10_ring_135, s_X10_ring_136, s_X10_ring_139, s_X10_ring_141, s_X10_ring_142, s_X10_ring_143, s_X10_ring_145, s_X10_ring_148, s_X10_ring_150, s_X10_ring_151, s_X10_ring_154, s_X10_ring_155, s_X10_ring_158, s_X10_ring_160, s_X10_ring_161, s_X10_ring_162, s_X10_ring_163, s_X10_ring_164, s_X10_ring_167, s_X10_ring_168, s_X10_ring_171, s_X10_ring_173, s_X10_ring_174, s_X10_ring_175, s_X10_ring_176, s_X10_ring_179, s_X10_ring_180, s_X10_ring_181, s_X10_ring_184, s_X10_ring_187, s_X10_ring_190, s_X10_ring_193, s_X10_ring_194, s_X10_ring_196, s_X10_ring_199, s_X10_ring_200, s_X10_ring_203, s_X10_ring_204, Option.isSome_some, Option.getD_some, sm_clr_i, sm_clr_r, sm_clr_n, sm_clr_o, sm_clr_l, zr_some, zh_some, Option.toList_some, Option.toList_none, List.cons_append, List.nil_append, List.map_cons, List.map_nil, List.sum_cons, List.sum_nil, sm_cat_i, sm_cat_r, sm_cat_n, sm_cat_l, Nat.reduceAdd, Nat.reduceLeDiff, Nat.zero_add, Nat.add_zero, if_true, if_false, not_true_eq_false, not_false_eq_true, and_self, true_and, and_true, hf_45_0, hf_45_1, hf_45_2, hf_45_3, hf_45_4, hf_45_5, hf_45_6, hf_45_7, hf_45_8, hf_45_9, hf_45_10, hf_45_11, hf_45_12, hf_45_13, hf_45_14, hf_45_15, hf_45_16, hf_45_17, hf_45_18, hf_45_19, hf_45_20, hf_45_21, hc_0, hc_31, hc_33, hc_36, hc_40, hc_41, hc_42, hc_43, hc_45, ha_46, ha_47, ha_48, ha_49, ha_50, ha_51, ha_52, ha_53, ha_54, ha_55, ha_56, ha_57, ha_58, ha_59, hw_45_6, hw_45_7, hw_45_8, hw_45_9, hw_45_10, hw_45_11, hw_45_12, hw_45_17, hs_46, hs_47, hs_48, hs_49, hs_50, hs_51, hs_52, hs_53, hs_55, hs_56, hs_57, hs_58, hs_59, hC]
  | true =>
    obtain ⟨k, hk, rfl⟩ := hs_C_of hb (by omega)
    have e1 := c_ring (xs := xs) p5 hk D5 t1 w1
    have e2 := m_ring (xs := xs) p5 hk g10
    rw [← ring_eq p5 (ed_ok D5) hk (gA S 14)] at e2
    refine ⟨.int (rg_C (ed_B S) p k p 1 (fo 0 k)), S, sA S 14 (rg_M (ed_B S) k (gA S 14)).1, e1, e2, n, p, len, sz, nw, sn, ?_⟩
    unfold cpwx
    simp only [gT_sT, gQ_sT, gN_sT, gR_sT, gI_sT, gA_sT, gT_sQ, gQ_sQ, gN_sQ, gR_sQ, gI_sQ, gA_sQ, gT_sN, gQ_sN, gN_sN, gR_sN, gI_sN, gA_sN, gT_sR, gQ_sR, gN_sR, gR_sR, gI_sR, gA_sR, gT_sI, gQ_sI, gN_sI, gR_sI, gI_sI, gA_sI, gT_sA, gQ_sA, gN_sA, gR_sA, gI_sA, gA_sA, fu_s, fu_n, fu_fu, ne_eq, Nat.reduceEqDiff, not_false_eq_true, pf_n_sets, pf_p_sets, pf_s_sets, pf_sl_sets, pf_w_sets, pf_k_sets, pf_pu_sets, pf_d_sets, pf_n_setsl, pf_p_setsl, pf_s_setsl, pf_sl_setsl, pf_w_setsl, pf_k_setsl, pf_pu_setsl, pf_d_setsl, pf_n_setw, pf_p_setw, pf_s_setw, pf_sl_setw, pf_w_setw, pf_k_setw, pf_pu_setw, pf_d_setw, pf_n_setpu, pf_p_setpu, pf_s_setpu, pf_sl_setpu, pf_w_setpu, pf_k_setpu, pf_pu_setpu, pf_d_setpu, pf_n_setd, pf_p_setd, pf_s_setd, pf_sl_setd, pf_w_setd, pf_k_setd, pf_pu_setd, pf_d_setd, x3, x6, s2, s17, z0, z1, z12, t0]
    exact ⟨G0, D5, pe_rf _, pe_eq t1, kk0, kk1, ⟨trivial, trivial, trivial, hsz, hnw, hnq, hq8, hi⟩, ⟨trivial, trivial, hsn, r0, r1⟩, ⟨trivial, trivial, hlen, r2⟩, g5⟩
end RK

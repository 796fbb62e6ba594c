-- how it was
def ps_at (h : HH) (i sz nw : Nat) (bl : List (Option Nat)) : Prop := h[i]? = some (.inr (.inr (2, [.int (nI sz), .int (nI nw), .ref (i + 1)]))) ∧ h[i + 1]? = some (.inr (.inl bl)) ∧ bl.length = 8 ∧ sz ≤ 8 ∧ nw < 8
section PAST
variable {xs : List Int32} {h : HH} {i j a : Nat} {P Q : PT} {sz nw : Nat} {bl : List (Option Nat)}
theorem ps_fld (S : ps_at h i sz nw bl) : sm_cls h i = some 2 ∧ sm_fld h i 2 0 = some (.int (nI sz)) ∧ sm_fld h i 2 1 = some (.int (nI nw)) ∧ sm_fld h i 2 2 = some (.ref (i + 1)) ∧ sm_qrr h (i + 1) = some bl := by
  obtain ⟨h0, h1, -⟩ := S
  refine ⟨by unfold sm_cls; rw [h0], fld_O h0 rfl, fld_O h0 rfl, fld_O h0 rfl, ?_⟩
  unfold sm_qrr; rw [h1]
theorem ps_stay {h' : HH} (S : ps_at h i sz nw bl) (e0 : h'[i]? = h[i]?) (e1 : h'[i + 1]? = h[i + 1]?) : ps_at h' i sz nw bl := by
  obtain ⟨h0, h1, h2⟩ := S
  exact ⟨e0.trans h0, e1.trans h1, h2⟩
theorem inq_nI {k : Nat} (hk : k < bl.length) (hl : bl.length < 2 ^ 31) : sm_inq (some bl) (nI k) = true := by
  unfold sm_inq
  exact decide_eq_true (nI_in hk hl)
theorem elq_nI {k : Nat} (hk : k < 2 ^ 31) : sm_elq (some bl) (nI k) = sm_rv (bl.getD k none) := by
  unfold sm_elq
  dsimp only
  rw [nI_clamp hk]
theorem rem_8 (k : Nat) (hk : k < 2 ^ 31) : nI k - nI k / 8 * 8 = nI (k % 8) := pk_rem (d := 8) hk (by omega) (by omega)
theorem pt_far {h' : HH} (G : pt_at h j P) (hq : ∀ z, j ≤ z ∧ z ≤ j + 5 → h'[z]? = h[z]?) : pt_at h' j P := by
  obtain ⟨h0, h1, h2, h3, h4, h5⟩ := G
  exact ⟨(hq _ (by omega)).trans h0, (hq _ (by omega)).trans h1, (hq _ (by omega)).trans h2, (hq _ (by omega)).trans h3, (hq _ (by omega)).trans h4, (hq _ (by omega)).trans h5⟩
theorem min_8 (k : Nat) (hk : k < 2 ^ 31) : (if nI k < (8 : Int32) then nI k else 8) = nI (if k < 8 then k else 8) := by
  rw [show (8 : Int32) = nI 8 from rfl]
  by_cases h : k < 8
  · rw [if_pos h, if_pos (nI_lt h (by omega))]
  · rw [if_neg h, if_neg (nI_nlt (by omega) hk)]
theorem w_pnew_old (S : ps_at h i sz nw bl) (ha : bl.getD ((nw + 1) % 8) none = some a) (A : pt_at h a Q) (LQ : pt_len Q) (G : pt_at h j P) (LP : pt_len P) (hd : j + 5 < a ∨ a + 5 < j) (hia : i + 1 < a) (hij : i + 1 < j ∨ j + 5 < i) :
    ∃ h', sm_call xs n_X2_add [.ref i, .ref j] h = some (none, h') ∧ ps_at h' i (if sz + 1 < 8 then sz + 1 else 8) ((nw + 1) % 8) bl ∧ pt_at h' a P ∧ h'.length = h.length ∧ ∀ z, z ≠ i → (z < a ∨ a + 5 < z) → h'[z]? = h[z]? := by
  obtain ⟨kc, f0, f1, f2, g⟩ := ps_fld S
  obtain ⟨s0, s1, lb, hsz, hnw⟩ := id S
  have hm : (nw + 1) % 8 < 8 := Nat.mod_lt _ (by omega)
  obtain ⟨h1, w1, o1, n1, q1⟩ := fset_O (k := 1) (v := .int (nI ((nw + 1) % 8))) s0
  have S1 : ps_at h1 i sz ((nw + 1) % 8) bl := ⟨o1, (q1 _ (by omega)).trans s1, lb, hsz, hm⟩
  obtain ⟨-, b0, b1, b2, b3⟩ := ps_fld S1
  have i1 : sm_inq (some bl) (nI ((nw + 1) % 8)) = true := inq_nI (by omega) (by omega)
  have e1 : sm_elq (some bl) (nI ((nw + 1) % 8)) = .ref a := by rw [elq_nI (by omega), ha]; rfl
  have A1 := pt_far A (h' := h1) (fun z hz => q1 z (by omega))
  have G1 := pt_far G (h' := h1) (fun z hz => q1 z (by omega))
  obtain ⟨ka, -⟩ := pt_fld A1
  obtain ⟨h2, w2, A2, r2⟩ := w_become (xs := xs) A1 G1 hd LQ LP
  have S2 := ps_stay S1 (r2.2 i (by omega)) (r2.2 (i + 1) (by omega))
  obtain ⟨-, d0, d1, d2, d3⟩ := ps_fld S2
  obtain ⟨t0, t1, -⟩ := id S2
  obtain ⟨h3, w3, o3, n3, q3⟩ := fset_O (k := 0) (v := .int (nI (if sz + 1 < 8 then sz + 1 else 8))) t0
  refine ⟨h3, ?_, ⟨o3, (q3 _ (by omega)).trans t1, lb, by split <;> omega, hm⟩, pt_far A2 (fun z hz => q3 z (by omega)), by rw [n3, r2.1, n1], fun z h1z h2z => by rw [q3 z h1z, r2.2 z h2z, q1 z h1z]⟩
  rw [c0_X2_add]
  simp only [s_X2_add_0, s_X2_add_1, s_X2_add_2, s_X2_add_5, s_X2_add_6, s_X2_add_7, s_X2_add_9, s_X2_add_10, s_X2_add_13, s_X2_add_14, s_X2_add_17, s_X2_add_18, s_X2_add_21, s_X2_add_22, s_X2_add_22n, s_X2_add_23, s_X2_add_23n, s_X2_add_24n, s_X2_add_24, s_X2_add_27, s_X2_add_30, s_X2_add_30i, s_X2_add_31, s_X2_add_34, s_X2_add_34n, s_X2_add_35, s_X2_add_36, s_X2_add_39, s_X2_add_40, s_X2_add_43, s_X2_add_43n, s_X2_add_44, s_X2_add_45, s_X2_add_45n, s_X2_add_46, s_X2_add_46n, s_X2_add_47, s_X2_add_50, s_X2_add_51, s_X2_add_53, s_X2_add_54, s_X2_add_57, s_X2_add_58, s_X2_add_59, s_X2_add_62, s_X2_add_65, Option.isSome_some, Option.getD_some, sm_clr_i, sm_clr_r, sm_clr_n, sm_clr_o, sm_clr_l, sm_rr_some, sm_rh_some, Option.toList_some, Option.toList_none, List.cons_append, List.nil_append, List.map_cons, List.map_nil, List.sum_cons, List.sum_nil, sm_cat_i, sm_cat_r, sm_cat_n, sm_cat_l, Nat.reduceAdd, Nat.reduceLeDiff, Nat.zero_add, Nat.add_zero, if_true, if_false, not_true_eq_false, not_false_eq_true, and_self, true_and, and_true, f1, nI_1, show ¬ (8 : Int32) = 0 from by decide, rem_8 (nw + 1) (by omega), w1, b2, b1, b3, i1, e1, ka, w2, d0, min_8 (sz + 1) (by omega), w3]
theorem w_pnew_new (S : ps_at h i sz nw bl) (ha : bl.getD ((nw + 1) % 8) none = none) (G : pt_at h j P) (LP : pt_len P) (hij : i + 1 < j ∨ j + 5 < i) (hl : h.length + 6 ≤ sm_B) :
    ∃ h', sm_call xs n_X2_add [.ref i, .ref j] h = some (none, h') ∧ ps_at h' i (if sz + 1 < 8 then sz + 1 else 8) ((nw + 1) % 8) (bl.set ((nw + 1) % 8) (some h.length)) ∧ pt_at h' h.length P ∧ h'.length = h.length + 6 ∧ ∀ z, z ≠ i → z ≠ i + 1 → z < h.length → h'[z]? = h[z]? := by
  obtain ⟨kc, f0, f1, f2, g⟩ := ps_fld S
  obtain ⟨s0, s1, lb, hsz, hnw⟩ := id S
  have hm : (nw + 1) % 8 < 8 := Nat.mod_lt _ (by omega)
  have hil : i + 1 < h.length := (List.getElem?_eq_some_iff.mp s1).1
  have hjl : j + 5 < h.length := (List.getElem?_eq_some_iff.mp G.2.2.2.2.2).1
  obtain ⟨h1, w1, o1, n1, q1⟩ := fset_O (k := 1) (v := .int (nI ((nw + 1) % 8))) s0
  have S1 : ps_at h1 i sz ((nw + 1) % 8) bl := ⟨o1, (q1 _ (by omega)).trans s1, lb, hsz, hm⟩
  obtain ⟨-, b0, b1, b2, b3⟩ := ps_fld S1
  have i1 : sm_inq (some bl) (nI ((nw + 1) % 8)) = true := inq_nI (by omega) (by omega)
  have e1 : sm_elq (some bl) (nI ((nw + 1) % 8)) = .null := by rw [elq_nI (by omega), ha]; rfl
  have z1 : h1.length < sm_B := by omega
  obtain ⟨h2, w2, a2, n2, q2⟩ := al_O h1 (.inr (.inr (3, sm_dfl 3)))
  obtain ⟨h3, w3, A3, n3, q3⟩ := w_init (xs := xs) a2 n2 (by omega)
  have e3 : ∀ z, z < h1.length → h3[z]? = h1[z]? := fun z hz => (q3 z hz).trans (q2 z hz)
  have S3 := ps_stay S1 (e3 i (by omega)) (e3 (i + 1) (by omega))
  obtain ⟨-, d0, d1, d2, d3⟩ := ps_fld S3
  obtain ⟨t0, t1, -⟩ := id S3
  obtain ⟨k3, -⟩ := pt_fld A3
  obtain ⟨h4, w4⟩ : ∃ h4, sm_qset h3 (i + 1) (some bl) (nI ((nw + 1) % 8)) h1.length = h4 := ⟨_, rfl⟩
  have w4' : h4 = h3.set (i + 1) (.inr (.inl (bl.set ((nw + 1) % 8) (some h1.length)))) := by
    rw [← w4]
    unfold sm_qset
    dsimp only
    rw [nI_clamp (by omega)]
  have q4 : ∀ z, z ≠ i + 1 → h4[z]? = h3[z]? := fun z hz => by rw [w4']; exact hp_ne (fun e => hz e.symm)
  have n4 : h4.length = h3.length := by rw [w4']; simp
  have S4 : ps_at h4 i sz ((nw + 1) % 8) (bl.set ((nw + 1) % 8) (some h1.length)) := ⟨(q4 _ (by omega)).trans t0, by rw [w4']; exact hp_eq t1, by simpa using lb, hsz, hm⟩
  have A4 := pt_far A3 (h' := h4) (fun z hz => q4 z (by omega))
  have G4 := pt_far G (h' := h4) (fun z hz => by rw [q4 z (by omega), e3 z (by omega), q1 z (by omega)])
  obtain ⟨k4, -⟩ := pt_fld A4
  have LN : pt_len pt_new := ⟨rfl, rfl, rfl, rfl, rfl⟩
  obtain ⟨h5, w5, A5, r5⟩ := w_become (xs := xs) A4 G4 (by omega) LN LP
  have S5 := ps_stay S4 (r5.2 i (by omega)) (r5.2 (i + 1) (by omega))
  obtain ⟨-, m0, m1, m2, m3⟩ := ps_fld S5
  obtain ⟨u0, u1, lb5, -⟩ := id S5
  obtain ⟨h6, w6, o6, n6, q6⟩ := fset_O (k := 0) (v := .int (nI (if sz + 1 < 8 then sz + 1 else 8))) u0
  rw [n1] at A5 S5 u1
  refine ⟨h6, ?_, ⟨o6, (q6 _ (by omega)).trans u1, by simpa using lb, by split <;> omega, hm⟩, pt_far A5 (fun z hz => q6 z (by omega)), by rw [n6, r5.1, n4, n3]; omega, fun z h1z h2z h3z => by rw [q6 z h1z, r5.2 z (by omega), q4 z h2z, e3 z (by omega), q1 z h1z]⟩
  rw [c0_X2_add]
  simp only [s_X2_add_0, s_X2_add_1, s_X2_add_2, s_X2_add_5, s_X2_add_6, s_X2_add_7, s_X2_add_9, s_X2_add_10, s_X2_add_13, s_X2_add_14, s_X2_add_17, s_X2_add_18, s_X2_add_21, s_X2_add_22, s_X2_add_22n, s_X2_add_23, s_X2_add_23n, s_X2_add_24n, s_X2_add_24, s_X2_add_27, s_X2_add_30, s_X2_add_30i, s_X2_add_31, s_X2_add_34, s_X2_add_34n, s_X2_add_35, s_X2_add_36, s_X2_add_39, s_X2_add_40, s_X2_add_43, s_X2_add_43n, s_X2_add_44, s_X2_add_45, s_X2_add_45n, s_X2_add_46, s_X2_add_46n, s_X2_add_47, s_X2_add_50, s_X2_add_51, s_X2_add_53, s_X2_add_54, s_X2_add_57, s_X2_add_58, s_X2_add_59, s_X2_add_62, s_X2_add_65, Option.isSome_some, Option.getD_some, sm_clr_i, sm_clr_r, sm_clr_n, sm_clr_o, sm_clr_l, sm_rr_some, sm_rh_some, Option.toList_some, Option.toList_none, List.cons_append, List.nil_append, List.map_cons, List.map_nil, List.sum_cons, List.sum_nil, sm_cat_i, sm_cat_r, sm_cat_n, sm_cat_l, Nat.reduceAdd, Nat.reduceLeDiff, Nat.zero_add, Nat.add_zero, if_true, if_false, not_true_eq_false, not_false_eq_true, and_self, true_and, and_true, f1, nI_1, show ¬ (8 : Int32) = 0 from by decide, rem_8 (nw + 1) (by omega), w1, b2, b1, b3, i1, e1, z1, w2, w3, d2, d1, d3, k3, w4, k4, w5, m0, min_8 (sz + 1) (by omega), w6]
theorem rem_8b (k : Nat) (hk : k < 2 ^ 30) : nI k + 8 - 1 - (nI k + 8 - 1) / 8 * 8 = nI ((k + 7) % 8) := by
  have h1 : nI k + 8 - 1 = nI (k + 7) := by
    rw [show (8 : Int32) = nI 8 from rfl, nI_add, show k + 8 = (k + 7) + 1 by omega, nI_pred]
  rw [h1]
  exact rem_8 (k + 7) (by omega)
theorem w_take (S : ps_at h i sz nw bl) (hs : 0 < sz) (ha : bl.getD nw none = some a) (A : pt_at h a Q) (LQ : pt_len Q) (G : pt_at h j P) (LP : pt_len P) (hd : a + 5 < j ∨ j + 5 < a) (hij : i + 1 < j ∨ j + 5 < i) :
    ∃ h', sm_call xs n_X2_takeLatest [.ref i, .ref j] h = some (none, h') ∧ ps_at h' i (sz - 1) ((nw + 7) % 8) bl ∧ pt_at h' j Q ∧ h'.length = h.length ∧ ∀ z, z ≠ i → (z < j ∨ j + 5 < z) → h'[z]? = h[z]? := by
  obtain ⟨kc, f0, f1, f2, g⟩ := ps_fld S
  obtain ⟨s0, s1, lb, hsz, hnw⟩ := id S
  have i1 : sm_inq (some bl) (nI nw) = true := inq_nI (by omega) (by omega)
  have e1 : sm_elq (some bl) (nI nw) = .ref a := by rw [elq_nI (by omega), ha]; rfl
  have hpos : ¬ nI sz ≤ 0 := nI_nle hs (by omega)
  obtain ⟨kj, -⟩ := pt_fld G
  obtain ⟨h1, w1, G1, r1⟩ := w_become (xs := xs) G A (by omega) LP LQ
  have S1 := ps_stay S (r1.2 i (by omega)) (r1.2 (i + 1) (by omega))
  obtain ⟨-, b0, b1, b2, b3⟩ := ps_fld S1
  obtain ⟨t0, t1, -⟩ := id S1
  have hm : (nw + 7) % 8 < 8 := Nat.mod_lt _ (by omega)
  obtain ⟨h2, w2, o2, n2, q2⟩ := fset_O (k := 1) (v := .int (nI ((nw + 7) % 8))) t0
  have d0 := fld_O (k := 0) o2 rfl
  have hp : nI sz - 1 = nI (sz - 1) := by
    rw [show sz = (sz - 1) + 1 by omega, nI_pred]; rfl
  obtain ⟨h3, w3, o3, n3, q3⟩ := fset_O (k := 0) (v := .int (nI (sz - 1))) o2
  refine ⟨h3, ?_, ⟨o3, by rw [q3 _ (by omega), q2 _ (by omega)]; exact t1, lb, by omega, hm⟩, pt_far G1 (fun z hz => by rw [q3 z (by omega), q2 z (by omega)]), by rw [n3, n2, r1.1], fun z h1z h2z => by rw [q3 z h1z, q2 z h1z, r1.2 z h2z]⟩
  rw [c0_X2_takeLatest]
  simp only [s_X2_takeLatest_0, s_X2_takeLatest_1, s_X2_takeLatest_4, s_X2_takeLatest_5, s_X2_takeLatest_8, s_X2_takeLatest_9, s_X2_takeLatest_9n, s_X2_takeLatest_10, s_X2_takeLatest_11, s_X2_takeLatest_14, s_X2_takeLatest_17, s_X2_takeLatest_17n, s_X2_takeLatest_18n, s_X2_takeLatest_18, s_X2_takeLatest_21, s_X2_takeLatest_21n, s_X2_takeLatest_22, s_X2_takeLatest_22n, s_X2_takeLatest_23, s_X2_takeLatest_26, s_X2_takeLatest_27, s_X2_takeLatest_28, s_X2_takeLatest_31, s_X2_takeLatest_33, s_X2_takeLatest_34, s_X2_takeLatest_35, s_X2_takeLatest_36, s_X2_takeLatest_38, s_X2_takeLatest_39, s_X2_takeLatest_42, s_X2_takeLatest_43, s_X2_takeLatest_43i, s_X2_takeLatest_44, s_X2_takeLatest_47, s_X2_takeLatest_48, s_X2_takeLatest_49, s_X2_takeLatest_52, Option.isSome_some, Option.getD_some, sm_clr_i, sm_clr_r, sm_clr_n, sm_clr_o, sm_clr_l, sm_rr_some, sm_rh_some, Option.toList_some, Option.toList_none, List.cons_append, List.nil_append, List.map_cons, List.map_nil, List.sum_cons, List.sum_nil, sm_cat_i, sm_cat_r, sm_cat_n, sm_cat_l, Nat.reduceAdd, Nat.reduceLeDiff, Nat.zero_add, Nat.add_zero, if_true, if_false, not_true_eq_false, not_false_eq_true, and_self, true_and, and_true, f2, f1, g, i1, e1, f0, hpos, kj, w1, b1, show ¬ (8 : Int32) = 0 from by decide, rem_8b nw (by omega), w2, d0, hp, w3]
end PAST

theorem ga_t {F : PF} {a : Nat} (h : a < pf_p F) (hp : pf_p F ≤ 5) (v : Int32) : ga_F F (nI a) v = pf_setpu F (fu (pf_pu F) a (if pf_pu F a + v < 999 then pf_pu F a + v else 999)) := by
  unfold ga_F
  rw [hs_C_nI h (by omega), if_pos rfl, nI_clamp (by omega)]
theorem oe_t {F : PF} {a b : Nat} (ha : a < pf_p F) (hb : b < pf_p F) (hp : pf_p F ≤ 5) (hab : a ≠ b) (v : Int32) : oe_F F (nI a) (nI b) v = pf_setd F (fu (pf_d F) (a * 5 + b) v) := by
  unfold oe_F
  rw [hs_P_nI hp ha hb, decide_eq_true hab, if_pos rfl, ix_5, nI_clamp (by omega)]
theorem of_t {F : PF} {a b : Nat} (ha : a < pf_p F) (hb : b < pf_p F) (hp : pf_p F ≤ 5) (hab : a ≠ b) : of_F F (nI a) (nI b) = pf_d F (a * 5 + b) := by
  unfold of_F
  rw [hs_P_nI hp ha hb, decide_eq_true hab, if_pos rfl, ix_5, nI_clamp (by omega)]
theorem la_t {F : PF} {c : Nat} (h : c < pf_n F) (hn : pf_n F ≤ 9) (v : Int32) : la_F F (nI c) v = pf_setw F (fu (pf_w F) c v) := by
  unfold la_F
  rw [hs_C_nI h (by omega), if_pos rfl, nI_clamp (by omega)]
theorem add_neg_nI {a b : Nat} (h : b ≤ a) : nI a + -nI b = nI (a - b) := by
  rw [← Int32.sub_eq_add_neg, pk_sub h]
section PA
variable {xs : List Int32} {S : GS}
/-- what an add to the past leaves -/
def adP (S SA : GS) (sz nw : Nat) : Prop := (∀ k, k < 5 → gT SA k = gT S k) ∧ gT SA (5 + nw) = gT S 1 ∧ (∀ t, t ≠ nw → gT SA (5 + t) = gT S (5 + t)) ∧ gN SA 0 = nI (if sz + 1 < 8 then sz + 1 else 8) ∧ gN SA 1 = nI ((nw + 1) % 8) ∧ (∀ k, 1 < k → gN SA k = gN S k) ∧ gR SA = gR S ∧ gI SA = gI S ∧ gA SA = gA S ∧ gQ S ≤ gQ SA ∧ gQ SA ≤ 8 ∧ nw < gQ SA
theorem q_padd {sz nw : Nat} (z0 : gN S 0 = nI sz) (z1 : gN S 1 = nI nw) (hsz : sz ≤ 8) (hnw : nw < 8) (hnq : nw ≤ gQ S) (hq8 : gQ S ≤ 8) : ∃ SA, sm_call xs n_X2_add [.ref 31, .ref (pl 1)] (hp S) = some (none, hp SA) ∧ adP S SA sz nw := by
  by_cases h : nw < gQ S
  · refine ⟨_, q_padd_old z0 z1 hsz hnw h, ?_⟩
    unfold adP pa_S
    simp only [gT_sT, gQ_sT, gN_sT, gR_sT, gI_sT, gA_sT, gT_sQ, gQ_sQ, gN_sQ, gR_sQ, gI_sQ, gA_sQ, gT_sN, gQ_sN, gN_sN, gR_sN, gI_sN, gA_sN, gT_sR, gQ_sR, gN_sR, gR_sR, gI_sR, gA_sR, gT_sI, gQ_sI, gN_sI, gR_sI, gI_sI, gA_sI, gT_sA, gQ_sA, gN_sA, gR_sA, gI_sA, gA_sA, fu_s, fu_n, fu_fu, ne_eq, Nat.reduceEqDiff, not_false_eq_true, pf_n_sets, pf_p_sets, pf_s_sets, pf_sl_sets, pf_w_sets, pf_k_sets, pf_pu_sets, pf_d_sets, pf_n_setsl, pf_p_setsl, pf_s_setsl, pf_sl_setsl, pf_w_setsl, pf_k_setsl, pf_pu_setsl, pf_d_setsl, pf_n_setw, pf_p_setw, pf_s_setw, pf_sl_setw, pf_w_setw, pf_k_setw, pf_pu_setw, pf_d_setw, pf_n_setpu, pf_p_setpu, pf_s_setpu, pf_sl_setpu, pf_w_setpu, pf_k_setpu, pf_pu_setpu, pf_d_setpu, pf_n_setd, pf_p_setd, pf_s_setd, pf_sl_setd, pf_w_setd, pf_k_setd, pf_pu_setd, pf_d_setd]
    exact ⟨fun k hk => fu_n (by omega), trivial, fun t ht => fu_n (by omega), trivial, trivial, fun k hk => by rw [fu_n (by omega), fu_n (by omega)], trivial, trivial, trivial, Nat.le_refl _, hq8, h⟩
  · refine ⟨_, q_padd_new z0 z1 hsz hnw (by omega), ?_⟩
    unfold adP pa_S
    simp only [gT_sT, gQ_sT, gN_sT, gR_sT, gI_sT, gA_sT, gT_sQ, gQ_sQ, gN_sQ, gR_sQ, gI_sQ, gA_sQ, gT_sN, gQ_sN, gN_sN, gR_sN, gI_sN, gA_sN, gT_sR, gQ_sR, gN_sR, gR_sR, gI_sR, gA_sR, gT_sI, gQ_sI, gN_sI, gR_sI, gI_sI, gA_sI, gT_sA, gQ_sA, gN_sA, gR_sA, gI_sA, gA_sA, fu_s, fu_n, fu_fu, ne_eq, Nat.reduceEqDiff, not_false_eq_true, pf_n_sets, pf_p_sets, pf_s_sets, pf_sl_sets, pf_w_sets, pf_k_sets, pf_pu_sets, pf_d_sets, pf_n_setsl, pf_p_setsl, pf_s_setsl, pf_sl_setsl, pf_w_setsl, pf_k_setsl, pf_pu_setsl, pf_d_setsl, pf_n_setw, pf_p_setw, pf_s_setw, pf_sl_setw, pf_w_setw, pf_k_setw, pf_pu_setw, pf_d_setw, pf_n_setpu, pf_p_setpu, pf_s_setpu, pf_sl_setpu, pf_w_setpu, pf_k_setpu, pf_pu_setpu, pf_d_setpu, pf_n_setd, pf_p_setd, pf_s_setd, pf_sl_setd, pf_w_setd, pf_k_setd, pf_pu_setd, pf_d_setd]
    exact ⟨fun k hk => fu_n (by omega), trivial, fun t ht => fu_n (by omega), trivial, trivial, fun k hk => by rw [fu_n (by omega), fu_n (by omega)], trivial, trivial, trivial, by omega, by omega, by omega⟩
theorem pst_add {SA : GS} {n p sz nw : Nat} {T : Nat → PF} (hsz : sz ≤ 8) (hnw : nw < 8) (D5 : dok n p (gA S 5)) (t1 : gT S 1 = cF n p (gA S 1) (gA S 5)) (hi : ∀ i, i < sz → pt_t nw sz i < gQ S ∧ pe (gT S (5 + pt_t nw sz i)) (cF n p (gA S 1) (fun k => gA S 7 (40 * i + k))) ∧ dok n p (fun k => gA S 7 (40 * i + k))) (A : adP S SA sz nw) (hT : ∀ t, T (5 + t) = gT SA (5 + t)) : ∀ i, i < (if sz + 1 < 8 then sz + 1 else 8) → pt_t ((nw + 1) % 8) (if sz + 1 < 8 then sz + 1 else 8) i < gQ SA ∧ pe (T (5 + pt_t ((nw + 1) % 8) (if sz + 1 < 8 then sz + 1 else 8) i)) (cF n p (gA S 1) (fun k => re_F (gA S 7) (gA S 5) sz (40 * i + k))) ∧ dok n p (fun k => re_F (gA S 7) (gA S 5) sz (40 * i + k)) := by
  obtain ⟨a1, a2, a3, -, -, -, -, -, -, a4, a5, a6⟩ := A
  intro i hlt
  unfold re_F
  by_cases h8 : sz = 8
  · subst h8
    rw [if_pos rfl]
    rw [if_neg (by omega)] at hlt ⊢
    by_cases h7 : i = 7
    · subst h7
      have e : pt_t ((nw + 1) % 8) 8 7 = nw := by unfold pt_t; omega
      have ef : ∀ k, k < 40 → gA S 5 k = cp_F (gA S 5) (sq_F (gA S 7) 280) 280 0 40 (40 * 7 + k) := fun k hk => (cp_in (b := 280) hk).symm
      rw [e, hT, a2, t1]
      exact ⟨a6, pe_D ef, dok_ext ef D5⟩
    · have e : pt_t ((nw + 1) % 8) 8 i = pt_t nw 8 (i + 1) := by unfold pt_t; omega
      have en : pt_t nw 8 (i + 1) ≠ nw := by unfold pt_t; omega
      obtain ⟨q1, q2, q3⟩ := hi (i + 1) (by omega)
      have ef : ∀ k, k < 40 → gA S 7 (40 * (i + 1) + k) = cp_F (gA S 5) (sq_F (gA S 7) 280) 280 0 40 (40 * i + k) := fun k hk => by
        rw [cp_out (by omega)]
        unfold sq_F
        rw [if_pos (by omega), show 40 + (40 * i + k) = 40 * (i + 1) + k by omega]
      rw [e, hT, a3 _ en]
      exact ⟨by omega, pe_tr q2 (pe_D ef), dok_ext ef q3⟩
  · rw [if_neg h8]
    rw [show (if sz + 1 < 8 then sz + 1 else 8) = sz + 1 by split <;> omega] at hlt ⊢
    by_cases hs : i = sz
    · subst hs
      have e : pt_t ((nw + 1) % 8) (i + 1) i = nw := by unfold pt_t; omega
      have ef : ∀ k, k < 40 → gA S 5 k = cp_F (gA S 5) (gA S 7) (40 * i) 0 40 (40 * i + k) := fun k hk => (cp_in hk).symm
      rw [e, hT, a2, t1]
      exact ⟨a6, pe_D ef, dok_ext ef D5⟩
    · have e : pt_t ((nw + 1) % 8) (sz + 1) i = pt_t nw sz i := by unfold pt_t; omega
      have en : pt_t nw sz i ≠ nw := by unfold pt_t; omega
      obtain ⟨q1, q2, q3⟩ := hi i (by omega)
      have ef : ∀ k, k < 40 → gA S 7 (40 * i + k) = cp_F (gA S 5) (gA S 7) (40 * sz) 0 40 (40 * i + k) := fun k hk => (cp_out (by omega)).symm
      rw [e, hT, a3 _ en]
      exact ⟨by omega, pe_tr q2 (pe_D ef), dok_ext ef q3⟩
end PA

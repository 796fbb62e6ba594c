theorem pb_len (q : Nat) : (pb_L q).length = 8 := by simp [pb_L]
theorem pb_get {q k : Nat} (hk : k < 8) : (pb_L q).getD k none = if (k + 7) % 8 < q then some (60 + 6 * ((k + 7) % 8)) else none := by
  simp [pb_L, List.getD_eq_getElem?_getD, hk]
theorem pb_set {q : Nat} (hq : q < 8) : (pb_L q).set ((q + 1) % 8) (some (60 + 6 * q)) = pb_L (q + 1) := by
  rcases (show q = 0 ∨ q = 1 ∨ q = 2 ∨ q = 3 ∨ q = 4 ∨ q = 5 ∨ q = 6 ∨ q = 7 by omega) with rfl | rfl | rfl | rfl | rfl | rfl | rfl | rfl <;> decide
theorem g_cell_N {S : GS} {k z : Nat} {x : Int32} (hk : k = 0 ∨ k = 1) (hz : z ≠ 31) : g_cell (sN S k x) z = g_cell S z := by
  unfold g_cell
  by_cases a : z = 0
  · rw [if_pos a, if_pos a, gO_sN (by omega) (by omega)]
  · rw [if_neg a, if_neg a]
    by_cases b : z < 31
    · rw [if_pos b, if_pos b]; rfl
    · rw [if_neg b, if_neg b]
      by_cases c : z < 60
      · rw [if_pos c, if_pos c]
        obtain ⟨o, rfl⟩ : ∃ o, z = o + 31 := ⟨z - 31, by omega⟩
        rw [show o + 31 - 31 = o by omega]
        rcases hk with rfl | rfl
        all_goals
          match o, hz with
          | 0, hz => exact absurd rfl hz
          | 1, _ => rfl
          | 2, _ => rfl
          | 3, _ => rfl
          | 4, _ => rfl
          | 5, _ => rfl
          | o + 6, _ => match o with | 0 => rfl | 1 => rfl | 2 => rfl | 3 => rfl | 4 => rfl | 5 => rfl | 6 => rfl | 7 => rfl | 8 => rfl | 9 => rfl | 10 => rfl | 11 => rfl | 12 => rfl | 13 => rfl | 14 => rfl | 15 => rfl | 16 => rfl | 17 => rfl | 18 => rfl | 19 => rfl | 20 => rfl | 21 => rfl | o + 22 => rfl
      · rw [if_neg c, if_neg c]; rfl
theorem g_cell_Q {S : GS} {q z : Nat} (hz : z ≠ 32) : g_cell (sQ S q) z = g_cell S z := by
  unfold g_cell
  by_cases a : z = 0
  · rw [if_pos a, if_pos a]; rfl
  · rw [if_neg a, if_neg a]
    by_cases b : z < 31
    · rw [if_pos b, if_pos b]; rfl
    · rw [if_neg b, if_neg b]
      by_cases c : z < 60
      · rw [if_pos c, if_pos c]
        obtain ⟨o, rfl⟩ : ∃ o, z = o + 31 := ⟨z - 31, by omega⟩
        rw [show o + 31 - 31 = o by omega]
        match o, hz with
        | 0, _ => rfl
        | 1, hz => exact absurd rfl hz
        | 2, _ => rfl
        | 3, _ => rfl
        | 4, _ => rfl
        | 5, _ => rfl
        | o + 6, _ => match o with | 0 => rfl | 1 => rfl | 2 => rfl | 3 => rfl | 4 => rfl | 5 => rfl | 6 => rfl | 7 => rfl | 8 => rfl | 9 => rfl | 10 => rfl | 11 => rfl | 12 => rfl | 13 => rfl | 14 => rfl | 15 => rfl | 16 => rfl | 17 => rfl | 18 => rfl | 19 => rfl | 20 => rfl | 21 => rfl | o + 22 => rfl
      · rw [if_neg c, if_neg c]; rfl
section HP
variable {xs : List Int32} {S : GS} {sz nw : Nat}
theorem hp_ps (z0 : gN S 0 = nI sz) (z1 : gN S 1 = nI nw) (hsz : sz ≤ 8) (hnw : nw < 8) : ps_at (hp S) 31 sz nw (pb_L (gQ S)) := by
  refine ⟨?_, hp_mid 32 (by omega) (by omega), pb_len _, hsz, hnw⟩
  rw [hp_mid 31 (by omega) (by omega), ← z0, ← z1]
  rfl
/-- the state when a patch of the past was written -/
def pa_S (S : GS) (k sz nw : Nat) (F : PF) : GS := sN (sN (sT S k F) 1 (nI nw)) 0 (nI sz)
theorem hp_pa {k sz' nw' : Nat} {F : PF} {h' : HH} (hk : k < 5 + gQ S) (hl : h'.length = (hp S).length) (hps : ps_at h' 31 sz' nw' (pb_L (gQ S))) (hpt : pt_at h' (pl k) (pf_of F)) (hf : ∀ z, z ≠ 31 → (z < pl k ∨ pl k + 5 < z) → h'[z]? = (hp S)[z]?) : h' = hp (pa_S S k sz' nw' F) := by
  obtain ⟨a0, a1, a2, a3, a4, a5⟩ := hpt
  have hT : gT (pa_S S k sz' nw' F) k = F := by unfold pa_S; simp only [gT_sT, gQ_sT, gN_sT, gR_sT, gI_sT, gA_sT, gT_sQ, gQ_sQ, gN_sQ, gR_sQ, gI_sQ, gA_sQ, gT_sN, gQ_sN, gN_sN, gR_sN, gI_sN, gA_sN, gT_sR, gQ_sR, gN_sR, gR_sR, gI_sR, gA_sR, gT_sI, gQ_sI, gN_sI, gR_sI, gI_sI, gA_sI, gT_sA, gQ_sA, gN_sA, gR_sA, gI_sA, gA_sA, fu_s, fu_n, fu_fu, ne_eq, Nat.reduceEqDiff, not_false_eq_true, pf_n_sets, pf_p_sets, pf_s_sets, pf_sl_sets, pf_w_sets, pf_k_sets, pf_pu_sets, pf_d_sets, pf_n_setsl, pf_p_setsl, pf_s_setsl, pf_sl_setsl, pf_w_setsl, pf_k_setsl, pf_pu_setsl, pf_d_setsl, pf_n_setw, pf_p_setw, pf_s_setw, pf_sl_setw, pf_w_setw, pf_k_setw, pf_pu_setw, pf_d_setw, pf_n_setpu, pf_p_setpu, pf_s_setpu, pf_sl_setpu, pf_w_setpu, pf_k_setpu, pf_pu_setpu, pf_d_setpu, pf_n_setd, pf_p_setd, pf_s_setd, pf_sl_setd, pf_w_setd, pf_k_setd, pf_pu_setd, pf_d_setd]
  apply hp_of
  · rw [hl, hp_len]; rfl
  · intro j hj
    have hj : j < 60 + 6 * gQ S := hj
    by_cases h31 : j = 31
    · subst h31
      rw [hps.1]
      unfold pa_S
      rfl
    · by_cases hz : j < pl k ∨ pl k + 5 < j
      · rw [hf j h31 hz, hp_get hj]
        unfold pa_S
        rw [g_cell_N (Or.inl rfl) h31, g_cell_N (Or.inr rfl) h31, g_cell_T hz]
      · obtain ⟨o, ho, rfl⟩ : ∃ o, o ≤ 5 ∧ j = pl k + o := ⟨j - pl k, by omega, by omega⟩
        rw [g_cell_pl ho, hT]
        rcases (show o = 0 ∨ o = 1 ∨ o = 2 ∨ o = 3 ∨ o = 4 ∨ o = 5 by omega) with rfl | rfl | rfl | rfl | rfl | rfl
        · exact a0
        · exact a1
        · exact a2
        · exact a3
        · exact a4
        · exact a5
theorem pl_5 (t : Nat) : pl (5 + t) = 60 + 6 * t := by unfold pl; rw [if_neg (by omega)]; omega
theorem pl_1 : pl 1 = 7 := rfl
theorem q_padd_old (z0 : gN S 0 = nI sz) (z1 : gN S 1 = nI nw) (hsz : sz ≤ 8) (hnw : nw < 8) (hq : nw < gQ S) : sm_call xs n_X2_add [.ref 31, .ref (pl 1)] (hp S) = some (none, hp (pa_S S (5 + nw) (if sz + 1 < 8 then sz + 1 else 8) ((nw + 1) % 8) (gT S 1))) := by
  have hm : ((nw + 1) % 8 + 7) % 8 = nw := by omega
  obtain ⟨h', e, P1, A1, l1, f1⟩ := w_pnew_old (xs := xs) (hp_ps z0 z1 hsz hnw) (a := pl (5 + nw)) (by rw [pb_get (by omega), hm, if_pos hq, pl_5]) (hp_pt (show 5 + nw < 5 + gQ S by omega)) (pf_len _) (hp_pt (show 1 < 5 + gQ S by omega)) (pf_len _) (by rw [pl_5, pl_1]; omega) (by rw [pl_5]; omega) (by rw [pl_1]; omega)
  rw [e, hp_pa (k := 5 + nw) (by omega) l1 P1 A1 f1]
theorem q_padd_new (z0 : gN S 0 = nI sz) (z1 : gN S 1 = nI nw) (hsz : sz ≤ 8) (hnw : nw < 8) (hq : nw = gQ S) : sm_call xs n_X2_add [.ref 31, .ref (pl 1)] (hp S) = some (none, hp (sQ (pa_S S (5 + nw) (if sz + 1 < 8 then sz + 1 else 8) ((nw + 1) % 8) (gT S 1)) (nw + 1))) := by
  have hm : ((nw + 1) % 8 + 7) % 8 = nw := by omega
  have hlen : (hp S).length = pl (5 + nw) := by rw [hp_len, pl_5, hq]
  obtain ⟨h', e, P1, A1, l1, f1⟩ := w_pnew_new (xs := xs) (hp_ps z0 z1 hsz hnw) (by rw [pb_get (by omega), hm, if_neg (by omega)]) (hp_pt (show 1 < 5 + gQ S by omega)) (pf_len _) (by rw [pl_1]; omega) (by rw [hlen, pl_5]; unfold sm_B; omega)
  rw [hlen] at P1 A1
  have hT : gT (sQ (pa_S S (5 + nw) (if sz + 1 < 8 then sz + 1 else 8) ((nw + 1) % 8) (gT S 1)) (nw + 1)) (5 + nw) = gT S 1 := by unfold pa_S; simp only [gT_sT, gQ_sT, gN_sT, gR_sT, gI_sT, gA_sT, gT_sQ, gQ_sQ, gN_sQ, gR_sQ, gI_sQ, gA_sQ, gT_sN, gQ_sN, gN_sN, gR_sN, gI_sN, gA_sN, gT_sR, gQ_sR, gN_sR, gR_sR, gI_sR, gA_sR, gT_sI, gQ_sI, gN_sI, gR_sI, gI_sI, gA_sI, gT_sA, gQ_sA, gN_sA, gR_sA, gI_sA, gA_sA, fu_s, fu_n, fu_fu, ne_eq, Nat.reduceEqDiff, not_false_eq_true, pf_n_sets, pf_p_sets, pf_s_sets, pf_sl_sets, pf_w_sets, pf_k_sets, pf_pu_sets, pf_d_sets, pf_n_setsl, pf_p_setsl, pf_s_setsl, pf_sl_setsl, pf_w_setsl, pf_k_setsl, pf_pu_setsl, pf_d_setsl, pf_n_setw, pf_p_setw, pf_s_setw, pf_sl_setw, pf_w_setw, pf_k_setw, pf_pu_setw, pf_d_setw, pf_n_setpu, pf_p_setpu, pf_s_setpu, pf_sl_setpu, pf_w_setpu, pf_k_setpu, pf_pu_setpu, pf_d_setpu, pf_n_setd, pf_p_setd, pf_s_setd, pf_sl_setd, pf_w_setd, pf_k_setd, pf_pu_setd, pf_d_setd]
  obtain ⟨a0, a1, a2, a3, a4, a5⟩ := A1
  have he : h' = hp (sQ (pa_S S (5 + nw) (if sz + 1 < 8 then sz + 1 else 8) ((nw + 1) % 8) (gT S 1)) (nw + 1)) := by
    apply hp_of
    · rw [l1, hp_len, ← hq]; show _ = 60 + 6 * (nw + 1); omega
    · intro j hj
      have hj : j < 60 + 6 * (nw + 1) := hj
      by_cases h31 : j = 31
      · subst h31; rw [P1.1]; rfl
      · by_cases h32 : j = 32
        · subst h32
          rw [P1.2.1, pl_5, hq, pb_set (by omega)]
          rfl
        · by_cases hz : j < pl (5 + nw)
          · rw [f1 j h31 h32 (by rw [hlen]; exact hz), hp_get (by rw [← hq]; rw [pl_5] at hz; exact hz), g_cell_Q h32]
            unfold pa_S
            rw [g_cell_N (Or.inl rfl) h31, g_cell_N (Or.inr rfl) h31, g_cell_T (Or.inl hz)]
          · obtain ⟨o, ho, rfl⟩ : ∃ o, o ≤ 5 ∧ j = pl (5 + nw) + o := ⟨j - pl (5 + nw), by rw [pl_5] at hz ⊢; omega, by omega⟩
            rw [g_cell_pl ho, hT]
            rcases (show o = 0 ∨ o = 1 ∨ o = 2 ∨ o = 3 ∨ o = 4 ∨ o = 5 by omega) with rfl | rfl | rfl | rfl | rfl | rfl
            · exact a0
            · exact a1
            · exact a2
            · exact a3
            · exact a4
            · exact a5
  rw [e, he]
theorem q_take (z0 : gN S 0 = nI sz) (z1 : gN S 1 = nI nw) (hsz : sz ≤ 8) (hnw : nw < 8) (h0 : 0 < sz) (hq : (nw + 7) % 8 < gQ S) : sm_call xs n_X2_takeLatest [.ref 31, .ref (pl 1)] (hp S) = some (none, hp (pa_S S 1 (sz - 1) ((nw + 7) % 8) (gT S (5 + (nw + 7) % 8)))) := by
  obtain ⟨h', e, P1, A1, l1, f1⟩ := w_take (xs := xs) (hp_ps z0 z1 hsz hnw) h0 (a := pl (5 + (nw + 7) % 8)) (by rw [pb_get (by omega), if_pos hq, pl_5]) (hp_pt (show 5 + (nw + 7) % 8 < 5 + gQ S by omega)) (pf_len _) (hp_pt (show 1 < 5 + gQ S by omega)) (pf_len _) (by rw [pl_5, pl_1]; omega) (by rw [pl_1]; omega)
  rw [e, hp_pa (k := 1) (by omega) l1 P1 A1 f1]
end HP

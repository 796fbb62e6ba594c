theorem lw_a1 (i : Nat) : nI i + 1 = nI (i + 1) := nI_1 i
theorem lw_a2 (i : Nat) : nI i + 2 = nI (i + 2) := by rw [show (2 : Int32) = 1 + 1 from rfl, ← Int32.add_assoc, lw_a1, lw_a1]
theorem lw_a3 (i : Nat) : nI i + 3 = nI (i + 3) := by rw [show (3 : Int32) = 2 + 1 from rfl, ← Int32.add_assoc, lw_a2, lw_a1]
theorem lw_a4 (i : Nat) : nI i + 4 = nI (i + 4) := by rw [show (4 : Int32) = 3 + 1 from rfl, ← Int32.add_assoc, lw_a3, lw_a1]
theorem lw_a5 (i : Nat) : nI i + 5 = nI (i + 5) := by rw [show (5 : Int32) = 4 + 1 from rfl, ← Int32.add_assoc, lw_a4, lw_a1]
theorem rt_int {xs : List Int32} {y : Nat} {mi : MI} (hm : sm_MT[y]? = some mi) (hr : mi_rt mi = some .int) : ∀ (n pc : Nat) (L : LL) (st : List Value) (h : HH) (r : Option Value × HH), sm_run0 xs n y pc L st h = some r → ∃ x h', r = (some (.int x), h') := by
  intro n
  induction n with
  | zero => intro pc L st h r e; cases e
  | succ n ih =>
    intro pc L st h r e
    obtain ⟨mi0, i, hm0, -, hc⟩ := sm_run0_inv e
    have hmm : mi = mi0 := Option.some.inj (hm.symm.trans hm0)
    subst hmm
    rcases hc with ⟨v, hv, rfl⟩ | ⟨q, -, hq⟩
    · unfold sm_ret at hv
      rw [hr] at hv
      split at hv
      · split at hv <;> simp_all
      · split at hv <;> simp_all
        exact ⟨_, hv.symm⟩
      · split at hv <;> simp_all
      · split at hv <;> simp_all
      · cases hv
    · exact ih _ _ _ _ _ hq
theorem rt_long {xs : List Int32} {y : Nat} {mi : MI} (hm : sm_MT[y]? = some mi) (hr : mi_rt mi = some .long) : ∀ (n pc : Nat) (L : LL) (st : List Value) (h : HH) (r : Option Value × HH), sm_run0 xs n y pc L st h = some r → ∃ x h', r = (some (.long x), h') := by
  intro n
  induction n with
  | zero => intro pc L st h r e; cases e
  | succ n ih =>
    intro pc L st h r e
    obtain ⟨mi0, i, hm0, -, hc⟩ := sm_run0_inv e
    have hmm : mi = mi0 := Option.some.inj (hm.symm.trans hm0)
    subst hmm
    rcases hc with ⟨v, hv, rfl⟩ | ⟨q, -, hq⟩
    · unfold sm_ret at hv
      rw [hr] at hv
      split at hv
      · split at hv <;> simp_all
      · split at hv <;> simp_all
      · split at hv <;> simp_all
        exact ⟨_, hv.symm⟩
      · split at hv <;> simp_all
      · cases hv
    · exact ih _ _ _ _ _ hq
theorem rc_int {xs : List Int32} {y : Nat} {mi : MI} {as : List Value} {h h' : HH} {v : Value} (hm : sm_MT[y]? = some mi) (hr : mi_rt mi = some .int) (e : sm_call xs y as h = some (some v, h')) : ∃ x, v = .int x := by
  unfold sm_call at e
  rw [hm] at e
  dsimp only at e
  split at e
  · obtain ⟨n, e⟩ := sm_run_iff.mp e
    obtain ⟨x, h'', e⟩ := rt_int hm hr n _ _ _ _ _ e
    exact ⟨x, by cases e; rfl⟩
  · cases e
theorem rc_long {xs : List Int32} {y : Nat} {mi : MI} {as : List Value} {h h' : HH} {v : Value} (hm : sm_MT[y]? = some mi) (hr : mi_rt mi = some .long) (e : sm_call xs y as h = some (some v, h')) : ∃ x, v = .long x := by
  unfold sm_call at e
  rw [hm] at e
  dsimp only at e
  split at e
  · obtain ⟨n, e⟩ := sm_run_iff.mp e
    obtain ⟨x, h'', e⟩ := rt_long hm hr n _ _ _ _ _ e
    exact ⟨x, by cases e; rfl⟩
  · cases e
/-- a heap never loses a cell -/
def hGrow (xs : List Int32) : Prop := ∀ (y : Nat) (as : List Value) (h h' : HH) (r : Option Value), sm_call xs y as h = some (r, h') → h.length ≤ h'.length
theorem hp_no {S : GS} (h : gQ S ≤ 8) : (hp S)[sm_B + 9]? = none := List.getElem?_eq_none (by rw [hp_len]; unfold sm_B; omega)
theorem hp_no1 {S S2 : GS} (h : gQ S2 ≤ 8) (hl : (hp S).length ≤ (hp S2).length) : (hp S)[sm_B + 9]? = none := List.getElem?_eq_none (by rw [hp_len S2] at hl; unfold sm_B; omega)
theorem cpl_q {S : GS} (C : cpl S) : gQ S ≤ 8 := by
  obtain ⟨n, p, len, sz, nw, sn, G0, D5, t0, t1, k0, k1, ⟨z0, z1, z12, hsz, hnw, hnq, hq8, hpast⟩, s, x, g5⟩ := C
  exact hq8
theorem cpw_q {S : GS} (C : cpw S) : gQ S ≤ 8 := by
  obtain ⟨n, p, len, sz, nw, sn, G0, D5, t0, t1, k0, k1, ⟨z0, z1, z12, hsz, hnw, hnq, hq8, hpast⟩, s, x, g5⟩ := C
  exact hq8
theorem lg_cmp_s (x : Int64) : lg_cmp x x = 0 := by
  unfold lg_cmp
  simp
section LW
variable {xs : List Int32} {S : GS}
theorem lw_write (hG : hGrow xs) (C : cpl S) {i : Nat} (hi : i + 5 ≤ xs.length) (hx : xs.length < 2 ^ 31) : ∃ S', cpl S' ∧ sm_run xs n_L_law 156 [some (.ref (sm_B + 9)), some (.ref 0), some (.ref 45), some (.int (nI i))] [] (hp S) = sm_run xs n_L_law 908 [some (.ref (sm_B + 9)), some (.ref 0), some (.ref 45), some (.int (nI i))] [] (hp S') := by
  obtain ⟨v, S1, S2, e1, e2, W⟩ := jt_w (j_write (xs := xs) C (sm_el (some xs) (nI (i + 1))))
  obtain ⟨x, rfl⟩ := rc_int hm_X9_write rfl e1
  obtain ⟨S', eh, C'⟩ := cpw_norm W
  refine ⟨S', C', ?_⟩
  rw [← eh]
  have q0 := hp_no (cpl_q C)
  have q1 := hp_no1 (cpw_q W) (hG _ _ _ _ _ e2)
  have i1 : sm_inr (some xs) (nI (i + 1)) = true := sm_inr_nI (by omega) hx
  have i2 : sm_inr (some xs) (nI (i + 2)) = true := sm_inr_nI (by omega) hx
  have i3 : sm_inr (some xs) (nI (i + 3)) = true := sm_inr_nI (by omega) hx
  have i4 : sm_inr (some xs) (nI (i + 4)) = true := sm_inr_nI (by omega) hx
  simp only [s_L_law_156, s_L_law_157, s_L_law_158, s_L_law_159, s_L_law_160, s_L_law_161, s_L_law_162, s_L_law_165, s_L_law_166, s_L_law_167, s_L_law_168, s_L_law_169, s_L_law_170, s_L_law_171, s_L_law_174, s_L_law_177, s_L_law_178z0, s_L_law_178z1, Option.isSome_some, Option.getD_some, sm_clr_i, sm_clr_r, sm_clr_n, sm_clr_o, sm_clr_l, zr_some, zh_some, Option.toList_some, Option.toList_none, List.cons_append, List.nil_append, List.map_cons, List.map_nil, List.sum_cons, List.sum_nil, sm_cat_i, sm_cat_r, sm_cat_n, sm_cat_l, Nat.reduceAdd, Nat.reduceLeDiff, Nat.zero_add, Nat.add_zero, if_true, if_false, not_true_eq_false, not_false_eq_true, and_self, true_and, and_true, hc_0, hc_45, q0, q1, lw_a1, lw_a2, lw_a3, lw_a4, i1, i2, i3, i4, e1, e2]
theorem lw_erase (hG : hGrow xs) (C : cpl S) {i : Nat} (hi : i + 5 ≤ xs.length) (hx : xs.length < 2 ^ 31) : ∃ S', cpl S' ∧ sm_run xs n_L_law 179 [some (.ref (sm_B + 9)), some (.ref 0), some (.ref 45), some (.int (nI i))] [] (hp S) = sm_run xs n_L_law 908 [some (.ref (sm_B + 9)), some (.ref 0), some (.ref 45), some (.int (nI i))] [] (hp S') := by
  obtain ⟨v, S1, S2, e1, e2, W⟩ := jt_w (j_erase (xs := xs) C )
  obtain ⟨x, rfl⟩ := rc_int hm_X9_erase rfl e1
  obtain ⟨S', eh, C'⟩ := cpw_norm W
  refine ⟨S', C', ?_⟩
  rw [← eh]
  have q0 := hp_no (cpl_q C)
  have q1 := hp_no1 (cpw_q W) (hG _ _ _ _ _ e2)
  have i1 : sm_inr (some xs) (nI (i + 1)) = true := sm_inr_nI (by omega) hx
  have i2 : sm_inr (some xs) (nI (i + 2)) = true := sm_inr_nI (by omega) hx
  have i3 : sm_inr (some xs) (nI (i + 3)) = true := sm_inr_nI (by omega) hx
  have i4 : sm_inr (some xs) (nI (i + 4)) = true := sm_inr_nI (by omega) hx
  simp only [s_L_law_179, s_L_law_180, s_L_law_183, s_L_law_184, s_L_law_187, s_L_law_190, s_L_law_191z0, s_L_law_191z1, Option.isSome_some, Option.getD_some, sm_clr_i, sm_clr_r, sm_clr_n, sm_clr_o, sm_clr_l, zr_some, zh_some, Option.toList_some, Option.toList_none, List.cons_append, List.nil_append, List.map_cons, List.map_nil, List.sum_cons, List.sum_nil, sm_cat_i, sm_cat_r, sm_cat_n, sm_cat_l, Nat.reduceAdd, Nat.reduceLeDiff, Nat.zero_add, Nat.add_zero, if_true, if_false, not_true_eq_false, not_false_eq_true, and_self, true_and, and_true, hc_0, hc_45, q0, q1, lw_a1, lw_a2, lw_a3, lw_a4, i1, i2, i3, i4, e1, e2]
theorem lw_fault (hG : hGrow xs) (C : cpl S) {i : Nat} (hi : i + 5 ≤ xs.length) (hx : xs.length < 2 ^ 31) : ∃ S', cpl S' ∧ sm_run xs n_L_law 192 [some (.ref (sm_B + 9)), some (.ref 0), some (.ref 45), some (.int (nI i))] [] (hp S) = sm_run xs n_L_law 908 [some (.ref (sm_B + 9)), some (.ref 0), some (.ref 45), some (.int (nI i))] [] (hp S') := by
  obtain ⟨v, S1, S2, e1, e2, W⟩ := jt_w (j_fault (xs := xs) C )
  obtain ⟨x, rfl⟩ := rc_int hm_X9_fault rfl e1
  obtain ⟨S', eh, C'⟩ := cpw_norm W
  refine ⟨S', C', ?_⟩
  rw [← eh]
  have q0 := hp_no (cpl_q C)
  have q1 := hp_no1 (cpw_q W) (hG _ _ _ _ _ e2)
  have i1 : sm_inr (some xs) (nI (i + 1)) = true := sm_inr_nI (by omega) hx
  have i2 : sm_inr (some xs) (nI (i + 2)) = true := sm_inr_nI (by omega) hx
  have i3 : sm_inr (some xs) (nI (i + 3)) = true := sm_inr_nI (by omega) hx
  have i4 : sm_inr (some xs) (nI (i + 4)) = true := sm_inr_nI (by omega) hx
  simp only [s_L_law_192, s_L_law_193, s_L_law_196, s_L_law_197, s_L_law_200, s_L_law_203, s_L_law_204z0, s_L_law_204z1, Option.isSome_some, Option.getD_some, sm_clr_i, sm_clr_r, sm_clr_n, sm_clr_o, sm_clr_l, zr_some, zh_some, Option.toList_some, Option.toList_none, List.cons_append, List.nil_append, List.map_cons, List.map_nil, List.sum_cons, List.sum_nil, sm_cat_i, sm_cat_r, sm_cat_n, sm_cat_l, Nat.reduceAdd, Nat.reduceLeDiff, Nat.zero_add, Nat.add_zero, if_true, if_false, not_true_eq_false, not_false_eq_true, and_self, true_and, and_true, hc_0, hc_45, q0, q1, lw_a1, lw_a2, lw_a3, lw_a4, i1, i2, i3, i4, e1, e2]
theorem lw_patch (hG : hGrow xs) (C : cpl S) {i : Nat} (hi : i + 5 ≤ xs.length) (hx : xs.length < 2 ^ 31) : ∃ S', cpl S' ∧ sm_run xs n_L_law 205 [some (.ref (sm_B + 9)), some (.ref 0), some (.ref 45), some (.int (nI i))] [] (hp S) = sm_run xs n_L_law 908 [some (.ref (sm_B + 9)), some (.ref 0), some (.ref 45), some (.int (nI i))] [] (hp S') := by
  obtain ⟨v, S1, S2, e1, e2, W⟩ := j_patch (xs := xs) C 
  obtain ⟨x, rfl⟩ := rc_int hm_X9_patch rfl e1
  obtain ⟨S', eh, C'⟩ := cpw_norm W
  refine ⟨S', C', ?_⟩
  rw [← eh]
  have q0 := hp_no (cpl_q C)
  have q1 := hp_no1 (cpw_q W) (hG _ _ _ _ _ e2)
  have i1 : sm_inr (some xs) (nI (i + 1)) = true := sm_inr_nI (by omega) hx
  have i2 : sm_inr (some xs) (nI (i + 2)) = true := sm_inr_nI (by omega) hx
  have i3 : sm_inr (some xs) (nI (i + 3)) = true := sm_inr_nI (by omega) hx
  have i4 : sm_inr (some xs) (nI (i + 4)) = true := sm_inr_nI (by omega) hx
  simp only [s_L_law_205, s_L_law_206, s_L_law_209, s_L_law_210, s_L_law_213, s_L_law_216, s_L_law_217z0, s_L_law_217z1, Option.isSome_some, Option.getD_some, sm_clr_i, sm_clr_r, sm_clr_n, sm_clr_o, sm_clr_l, zr_some, zh_some, Option.toList_some, Option.toList_none, List.cons_append, List.nil_append, List.map_cons, List.map_nil, List.sum_cons, List.sum_nil, sm_cat_i, sm_cat_r, sm_cat_n, sm_cat_l, Nat.reduceAdd, Nat.reduceLeDiff, Nat.zero_add, Nat.add_zero, if_true, if_false, not_true_eq_false, not_false_eq_true, and_self, true_and, and_true, hc_0, hc_45, q0, q1, lw_a1, lw_a2, lw_a3, lw_a4, i1, i2, i3, i4, e1, e2]
theorem lw_cell (hG : hGrow xs) (C : cpl S) {i : Nat} (hi : i + 5 ≤ xs.length) (hx : xs.length < 2 ^ 31) : ∃ S', cpl S' ∧ sm_run xs n_L_law 218 [some (.ref (sm_B + 9)), some (.ref 0), some (.ref 45), some (.int (nI i))] [] (hp S) = sm_run xs n_L_law 908 [some (.ref (sm_B + 9)), some (.ref 0), some (.ref 45), some (.int (nI i))] [] (hp S') := by
  obtain ⟨v, S1, S2, e1, e2, W⟩ := jt_w (j_cell (xs := xs) C (sm_el (some xs) (nI (i + 1))) (sm_el (some xs) (nI (i + 2))))
  obtain ⟨x, rfl⟩ := rc_int hm_X9_cell rfl e1
  obtain ⟨S', eh, C'⟩ := cpw_norm W
  refine ⟨S', C', ?_⟩
  rw [← eh]
  have q0 := hp_no (cpl_q C)
  have q1 := hp_no1 (cpw_q W) (hG _ _ _ _ _ e2)
  have i1 : sm_inr (some xs) (nI (i + 1)) = true := sm_inr_nI (by omega) hx
  have i2 : sm_inr (some xs) (nI (i + 2)) = true := sm_inr_nI (by omega) hx
  have i3 : sm_inr (some xs) (nI (i + 3)) = true := sm_inr_nI (by omega) hx
  have i4 : sm_inr (some xs) (nI (i + 4)) = true := sm_inr_nI (by omega) hx
  simp only [s_L_law_218, s_L_law_219, s_L_law_220, s_L_law_221, s_L_law_222, s_L_law_223, s_L_law_224, s_L_law_225, s_L_law_226, s_L_law_227, s_L_law_228, s_L_law_229, s_L_law_232, s_L_law_233, s_L_law_234, s_L_law_235, s_L_law_236, s_L_law_237, s_L_law_238, s_L_law_239, s_L_law_240, s_L_law_241, s_L_law_242, s_L_law_243, s_L_law_246, s_L_law_249, s_L_law_250z0, s_L_law_250z1, Option.isSome_some, Option.getD_some, sm_clr_i, sm_clr_r, sm_clr_n, sm_clr_o, sm_clr_l, zr_some, zh_some, Option.toList_some, Option.toList_none, List.cons_append, List.nil_append, List.map_cons, List.map_nil, List.sum_cons, List.sum_nil, sm_cat_i, sm_cat_r, sm_cat_n, sm_cat_l, Nat.reduceAdd, Nat.reduceLeDiff, Nat.zero_add, Nat.add_zero, if_true, if_false, not_true_eq_false, not_false_eq_true, and_self, true_and, and_true, hc_0, hc_45, q0, q1, lw_a1, lw_a2, lw_a3, lw_a4, i1, i2, i3, i4, e1, e2]
theorem lw_player (hG : hGrow xs) (C : cpl S) {i : Nat} (hi : i + 5 ≤ xs.length) (hx : xs.length < 2 ^ 31) : ∃ S', cpl S' ∧ sm_run xs n_L_law 251 [some (.ref (sm_B + 9)), some (.ref 0), some (.ref 45), some (.int (nI i))] [] (hp S) = sm_run xs n_L_law 908 [some (.ref (sm_B + 9)), some (.ref 0), some (.ref 45), some (.int (nI i))] [] (hp S') := by
  obtain ⟨v, S1, S2, e1, e2, W⟩ := jt_w (j_player (xs := xs) C (sm_el (some xs) (nI (i + 1))) (sm_el (some xs) (nI (i + 2))))
  obtain ⟨x, rfl⟩ := rc_int hm_X9_player rfl e1
  obtain ⟨S', eh, C'⟩ := cpw_norm W
  refine ⟨S', C', ?_⟩
  rw [← eh]
  have q0 := hp_no (cpl_q C)
  have q1 := hp_no1 (cpw_q W) (hG _ _ _ _ _ e2)
  have i1 : sm_inr (some xs) (nI (i + 1)) = true := sm_inr_nI (by omega) hx
  have i2 : sm_inr (some xs) (nI (i + 2)) = true := sm_inr_nI (by omega) hx
  have i3 : sm_inr (some xs) (nI (i + 3)) = true := sm_inr_nI (by omega) hx
  have i4 : sm_inr (some xs) (nI (i + 4)) = true := sm_inr_nI (by omega) hx
  simp only [s_L_law_251, s_L_law_252, s_L_law_253, s_L_law_254, s_L_law_255, s_L_law_256, s_L_law_257, s_L_law_258, s_L_law_259, s_L_law_260, s_L_law_261, s_L_law_262, s_L_law_265, s_L_law_266, s_L_law_267, s_L_law_268, s_L_law_269, s_L_law_270, s_L_law_271, s_L_law_272, s_L_law_273, s_L_law_274, s_L_law_275, s_L_law_276, s_L_law_279, s_L_law_282, s_L_law_283z0, s_L_law_283z1, Option.isSome_some, Option.getD_some, sm_clr_i, sm_clr_r, sm_clr_n, sm_clr_o, sm_clr_l, zr_some, zh_some, Option.toList_some, Option.toList_none, List.cons_append, List.nil_append, List.map_cons, List.map_nil, List.sum_cons, List.sum_nil, sm_cat_i, sm_cat_r, sm_cat_n, sm_cat_l, Nat.reduceAdd, Nat.reduceLeDiff, Nat.zero_add, Nat.add_zero, if_true, if_false, not_true_eq_false, not_false_eq_true, and_self, true_and, and_true, hc_0, hc_45, q0, q1, lw_a1, lw_a2, lw_a3, lw_a4, i1, i2, i3, i4, e1, e2]
theorem lw_debt (hG : hGrow xs) (C : cpl S) {i : Nat} (hi : i + 5 ≤ xs.length) (hx : xs.length < 2 ^ 31) : ∃ S', cpl S' ∧ sm_run xs n_L_law 284 [some (.ref (sm_B + 9)), some (.ref 0), some (.ref 45), some (.int (nI i))] [] (hp S) = sm_run xs n_L_law 908 [some (.ref (sm_B + 9)), some (.ref 0), some (.ref 45), some (.int (nI i))] [] (hp S') := by
  obtain ⟨v, S1, S2, e1, e2, W⟩ := jt_w (j_debt (xs := xs) C (sm_el (some xs) (nI (i + 1))) (sm_el (some xs) (nI (i + 2))))
  obtain ⟨x, rfl⟩ := rc_int hm_X9_debt rfl e1
  obtain ⟨S', eh, C'⟩ := cpw_norm W
  refine ⟨S', C', ?_⟩
  rw [← eh]
  have q0 := hp_no (cpl_q C)
  have q1 := hp_no1 (cpw_q W) (hG _ _ _ _ _ e2)
  have i1 : sm_inr (some xs) (nI (i + 1)) = true := sm_inr_nI (by omega) hx
  have i2 : sm_inr (some xs) (nI (i + 2)) = true := sm_inr_nI (by omega) hx
  have i3 : sm_inr (some xs) (nI (i + 3)) = true := sm_inr_nI (by omega) hx
  have i4 : sm_inr (some xs) (nI (i + 4)) = true := sm_inr_nI (by omega) hx
  simp only [s_L_law_284, s_L_law_285, s_L_law_286, s_L_law_287, s_L_law_288, s_L_law_289, s_L_law_290, s_L_law_291, s_L_law_292, s_L_law_293, s_L_law_294, s_L_law_295, s_L_law_298, s_L_law_299, s_L_law_300, s_L_law_301, s_L_law_302, s_L_law_303, s_L_law_304, s_L_law_305, s_L_law_306, s_L_law_307, s_L_law_308, s_L_law_309, s_L_law_312, s_L_law_315, s_L_law_316z0, s_L_law_316z1, Option.isSome_some, Option.getD_some, sm_clr_i, sm_clr_r, sm_clr_n, sm_clr_o, sm_clr_l, zr_some, zh_some, Option.toList_some, Option.toList_none, List.cons_append, List.nil_append, List.map_cons, List.map_nil, List.sum_cons, List.sum_nil, sm_cat_i, sm_cat_r, sm_cat_n, sm_cat_l, Nat.reduceAdd, Nat.reduceLeDiff, Nat.zero_add, Nat.add_zero, if_true, if_false, not_true_eq_false, not_false_eq_true, and_self, true_and, and_true, hc_0, hc_45, q0, q1, lw_a1, lw_a2, lw_a3, lw_a4, i1, i2, i3, i4, e1, e2]
theorem lw_as (hG : hGrow xs) (C : cpl S) {i : Nat} (hi : i + 5 ≤ xs.length) (hx : xs.length < 2 ^ 31) : ∃ S', cpl S' ∧ sm_run xs n_L_law 317 [some (.ref (sm_B + 9)), some (.ref 0), some (.ref 45), some (.int (nI i))] [] (hp S) = sm_run xs n_L_law 908 [some (.ref (sm_B + 9)), some (.ref 0), some (.ref 45), some (.int (nI i))] [] (hp S') := by
  obtain ⟨v, S1, S2, e1, e2, W⟩ := jt_w (j_as (xs := xs) C (sm_el (some xs) (nI (i + 1))) (sm_el (some xs) (nI (i + 2))))
  obtain ⟨x, rfl⟩ := rc_int hm_X9_as rfl e1
  obtain ⟨S', eh, C'⟩ := cpw_norm W
  refine ⟨S', C', ?_⟩
  rw [← eh]
  have q0 := hp_no (cpl_q C)
  have q1 := hp_no1 (cpw_q W) (hG _ _ _ _ _ e2)
  have i1 : sm_inr (some xs) (nI (i + 1)) = true := sm_inr_nI (by omega) hx
  have i2 : sm_inr (some xs) (nI (i + 2)) = true := sm_inr_nI (by omega) hx
  have i3 : sm_inr (some xs) (nI (i + 3)) = true := sm_inr_nI (by omega) hx
  have i4 : sm_inr (some xs) (nI (i + 4)) = true := sm_inr_nI (by omega) hx
  simp only [s_L_law_317, s_L_law_318, s_L_law_319, s_L_law_320, s_L_law_321, s_L_law_322, s_L_law_323, s_L_law_324, s_L_law_325, s_L_law_326, s_L_law_327, s_L_law_328, s_L_law_331, s_L_law_332, s_L_law_333, s_L_law_334, s_L_law_335, s_L_law_336, s_L_law_337, s_L_law_338, s_L_law_339, s_L_law_340, s_L_law_341, s_L_law_342, s_L_law_345, s_L_law_348, s_L_law_349z0, s_L_law_349z1, Option.isSome_some, Option.getD_some, sm_clr_i, sm_clr_r, sm_clr_n, sm_clr_o, sm_clr_l, zr_some, zh_some, Option.toList_some, Option.toList_none, List.cons_append, List.nil_append, List.map_cons, List.map_nil, List.sum_cons, List.sum_nil, sm_cat_i, sm_cat_r, sm_cat_n, sm_cat_l, Nat.reduceAdd, Nat.reduceLeDiff, Nat.zero_add, Nat.add_zero, if_true, if_false, not_true_eq_false, not_false_eq_true, and_self, true_and, and_true, hc_0, hc_45, q0, q1, lw_a1, lw_a2, lw_a3, lw_a4, i1, i2, i3, i4, e1, e2]
theorem lw_shoot (hG : hGrow xs) (C : cpl S) {i : Nat} (hi : i + 5 ≤ xs.length) (hx : xs.length < 2 ^ 31) : ∃ S', cpl S' ∧ sm_run xs n_L_law 350 [some (.ref (sm_B + 9)), some (.ref 0), some (.ref 45), some (.int (nI i))] [] (hp S) = sm_run xs n_L_law 908 [some (.ref (sm_B + 9)), some (.ref 0), some (.ref 45), some (.int (nI i))] [] (hp S') := by
  obtain ⟨v, S1, S2, e1, e2, W⟩ := j_shoot (xs := xs) C (sm_el (some xs) (nI (i + 1))) (sm_el (some xs) (nI (i + 2))) (sm_el (some xs) (nI (i + 3)))
  obtain ⟨x, rfl⟩ := rc_int hm_X9_shoot rfl e1
  obtain ⟨S', eh, C'⟩ := cpw_norm W
  refine ⟨S', C', ?_⟩
  rw [← eh]
  have q0 := hp_no (cpl_q C)
  have q1 := hp_no1 (cpw_q W) (hG _ _ _ _ _ e2)
  have i1 : sm_inr (some xs) (nI (i + 1)) = true := sm_inr_nI (by omega) hx
  have i2 : sm_inr (some xs) (nI (i + 2)) = true := sm_inr_nI (by omega) hx
  have i3 : sm_inr (some xs) (nI (i + 3)) = true := sm_inr_nI (by omega) hx
  have i4 : sm_inr (some xs) (nI (i + 4)) = true := sm_inr_nI (by omega) hx
  simp only [s_L_law_350, s_L_law_351, s_L_law_352, s_L_law_353, s_L_law_354, s_L_law_355, s_L_law_356, s_L_law_357, s_L_law_358, s_L_law_359, s_L_law_360, s_L_law_361, s_L_law_362, s_L_law_363, s_L_law_364, s_L_law_365, s_L_law_366, s_L_law_369, s_L_law_370, s_L_law_371, s_L_law_372, s_L_law_373, s_L_law_374, s_L_law_375, s_L_law_376, s_L_law_377, s_L_law_378, s_L_law_379, s_L_law_380, s_L_law_381, s_L_law_382, s_L_law_383, s_L_law_384, s_L_law_385, s_L_law_388, s_L_law_391, s_L_law_392z0, s_L_law_392z1, Option.isSome_some, Option.getD_some, sm_clr_i, sm_clr_r, sm_clr_n, sm_clr_o, sm_clr_l, zr_some, zh_some, Option.toList_some, Option.toList_none, List.cons_append, List.nil_append, List.map_cons, List.map_nil, List.sum_cons, List.sum_nil, sm_cat_i, sm_cat_r, sm_cat_n, sm_cat_l, Nat.reduceAdd, Nat.reduceLeDiff, Nat.zero_add, Nat.add_zero, if_true, if_false, not_true_eq_false, not_false_eq_true, and_self, true_and, and_true, hc_0, hc_45, q0, q1, lw_a1, lw_a2, lw_a3, lw_a4, i1, i2, i3, i4, e1, e2]
theorem lw_pay (hG : hGrow xs) (C : cpl S) {i : Nat} (hi : i + 5 ≤ xs.length) (hx : xs.length < 2 ^ 31) : ∃ S', cpl S' ∧ sm_run xs n_L_law 393 [some (.ref (sm_B + 9)), some (.ref 0), some (.ref 45), some (.int (nI i))] [] (hp S) = sm_run xs n_L_law 908 [some (.ref (sm_B + 9)), some (.ref 0), some (.ref 45), some (.int (nI i))] [] (hp S') := by
  obtain ⟨v, S1, S2, e1, e2, W⟩ := j_pay (xs := xs) C (sm_el (some xs) (nI (i + 1))) (sm_el (some xs) (nI (i + 2))) (sm_el (some xs) (nI (i + 3)))
  obtain ⟨x, rfl⟩ := rc_int hm_X9_pay rfl e1
  obtain ⟨S', eh, C'⟩ := cpw_norm W
  refine ⟨S', C', ?_⟩
  rw [← eh]
  have q0 := hp_no (cpl_q C)
  have q1 := hp_no1 (cpw_q W) (hG _ _ _ _ _ e2)
  have i1 : sm_inr (some xs) (nI (i + 1)) = true := sm_inr_nI (by omega) hx
  have i2 : sm_inr (some xs) (nI (i + 2)) = true := sm_inr_nI (by omega) hx
  have i3 : sm_inr (some xs) (nI (i + 3)) = true := sm_inr_nI (by omega) hx
  have i4 : sm_inr (some xs) (nI (i + 4)) = true := sm_inr_nI (by omega) hx
  simp only [s_L_law_393, s_L_law_394, s_L_law_395, s_L_law_396, s_L_law_397, s_L_law_398, s_L_law_399, s_L_law_400, s_L_law_401, s_L_law_402, s_L_law_403, s_L_law_404, s_L_law_405, s_L_law_406, s_L_law_407, s_L_law_408, s_L_law_409, s_L_law_412, s_L_law_413, s_L_law_414, s_L_law_415, s_L_law_416, s_L_law_417, s_L_law_418, s_L_law_419, s_L_law_420, s_L_law_421, s_L_law_422, s_L_law_423, s_L_law_424, s_L_law_425, s_L_law_426, s_L_law_427, s_L_law_428, s_L_law_431, s_L_law_434, s_L_law_435z0, s_L_law_435z1, Option.isSome_some, Option.getD_some, sm_clr_i, sm_clr_r, sm_clr_n, sm_clr_o, sm_clr_l, zr_some, zh_some, Option.toList_some, Option.toList_none, List.cons_append, List.nil_append, List.map_cons, List.map_nil, List.sum_cons, List.sum_nil, sm_cat_i, sm_cat_r, sm_cat_n, sm_cat_l, Nat.reduceAdd, Nat.reduceLeDiff, Nat.zero_add, Nat.add_zero, if_true, if_false, not_true_eq_false, not_false_eq_true, and_self, true_and, and_true, hc_0, hc_45, q0, q1, lw_a1, lw_a2, lw_a3, lw_a4, i1, i2, i3, i4, e1, e2]
theorem lw_undo (hG : hGrow xs) (C : cpl S) {i : Nat} (hi : i + 5 ≤ xs.length) (hx : xs.length < 2 ^ 31) : ∃ S', cpl S' ∧ sm_run xs n_L_law 436 [some (.ref (sm_B + 9)), some (.ref 0), some (.ref 45), some (.int (nI i))] [] (hp S) = sm_run xs n_L_law 908 [some (.ref (sm_B + 9)), some (.ref 0), some (.ref 45), some (.int (nI i))] [] (hp S') := by
  obtain ⟨v, S1, S2, e1, e2, W⟩ := j_undo (xs := xs) C 
  obtain ⟨x, rfl⟩ := rc_int hm_X9_undo rfl e1
  obtain ⟨S', eh, C'⟩ := cpw_norm W
  refine ⟨S', C', ?_⟩
  rw [← eh]
  have q0 := hp_no (cpl_q C)
  have q1 := hp_no1 (cpw_q W) (hG _ _ _ _ _ e2)
  have i1 : sm_inr (some xs) (nI (i + 1)) = true := sm_inr_nI (by omega) hx
  have i2 : sm_inr (some xs) (nI (i + 2)) = true := sm_inr_nI (by omega) hx
  have i3 : sm_inr (some xs) (nI (i + 3)) = true := sm_inr_nI (by omega) hx
  have i4 : sm_inr (some xs) (nI (i + 4)) = true := sm_inr_nI (by omega) hx
  simp only [s_L_law_436, s_L_law_437, s_L_law_440, s_L_law_441, s_L_law_444, s_L_law_447, s_L_law_448z0, s_L_law_448z1, Option.isSome_some, Option.getD_some, sm_clr_i, sm_clr_r, sm_clr_n, sm_clr_o, sm_clr_l, zr_some, zh_some, Option.toList_some, Option.toList_none, List.cons_append, List.nil_append, List.map_cons, List.map_nil, List.sum_cons, List.sum_nil, sm_cat_i, sm_cat_r, sm_cat_n, sm_cat_l, Nat.reduceAdd, Nat.reduceLeDiff, Nat.zero_add, Nat.add_zero, if_true, if_false, not_true_eq_false, not_false_eq_true, and_self, true_and, and_true, hc_0, hc_45, q0, q1, lw_a1, lw_a2, lw_a3, lw_a4, i1, i2, i3, i4, e1, e2]
theorem lw_keep (hG : hGrow xs) (C : cpl S) {i : Nat} (hi : i + 5 ≤ xs.length) (hx : xs.length < 2 ^ 31) : ∃ S', cpl S' ∧ sm_run xs n_L_law 449 [some (.ref (sm_B + 9)), some (.ref 0), some (.ref 45), some (.int (nI i))] [] (hp S) = sm_run xs n_L_law 908 [some (.ref (sm_B + 9)), some (.ref 0), some (.ref 45), some (.int (nI i))] [] (hp S') := by
  obtain ⟨v, S1, S2, e1, e2, W⟩ := j_keep (xs := xs) C (sm_el (some xs) (nI (i + 1)))
  obtain ⟨x, rfl⟩ := rc_int hm_X9_keep rfl e1
  obtain ⟨S', eh, C'⟩ := cpw_norm W
  refine ⟨S', C', ?_⟩
  rw [← eh]
  have q0 := hp_no (cpl_q C)
  have q1 := hp_no1 (cpw_q W) (hG _ _ _ _ _ e2)
  have i1 : sm_inr (some xs) (nI (i + 1)) = true := sm_inr_nI (by omega) hx
  have i2 : sm_inr (some xs) (nI (i + 2)) = true := sm_inr_nI (by omega) hx
  have i3 : sm_inr (some xs) (nI (i + 3)) = true := sm_inr_nI (by omega) hx
  have i4 : sm_inr (some xs) (nI (i + 4)) = true := sm_inr_nI (by omega) hx
  simp only [s_L_law_449, s_L_law_450, s_L_law_451, s_L_law_452, s_L_law_453, s_L_law_454, s_L_law_455, s_L_law_458, s_L_law_459, s_L_law_460, s_L_law_461, s_L_law_462, s_L_law_463, s_L_law_464, s_L_law_467, s_L_law_470, s_L_law_471z0, s_L_law_471z1, Option.isSome_some, Option.getD_some, sm_clr_i, sm_clr_r, sm_clr_n, sm_clr_o, sm_clr_l, zr_some, zh_some, Option.toList_some, Option.toList_none, List.cons_append, List.nil_append, List.map_cons, List.map_nil, List.sum_cons, List.sum_nil, sm_cat_i, sm_cat_r, sm_cat_n, sm_cat_l, Nat.reduceAdd, Nat.reduceLeDiff, Nat.zero_add, Nat.add_zero, if_true, if_false, not_true_eq_false, not_false_eq_true, and_self, true_and, and_true, hc_0, hc_45, q0, q1, lw_a1, lw_a2, lw_a3, lw_a4, i1, i2, i3, i4, e1, e2]
theorem lw_back (hG : hGrow xs) (C : cpl S) {i : Nat} (hi : i + 5 ≤ xs.length) (hx : xs.length < 2 ^ 31) : ∃ S', cpl S' ∧ sm_run xs n_L_law 472 [some (.ref (sm_B + 9)), some (.ref 0), some (.ref 45), some (.int (nI i))] [] (hp S) = sm_run xs n_L_law 908 [some (.ref (sm_B + 9)), some (.ref 0), some (.ref 45), some (.int (nI i))] [] (hp S') := by
  obtain ⟨v, S1, S2, e1, e2, W⟩ := j_back (xs := xs) C (sm_el (some xs) (nI (i + 1)))
  obtain ⟨x, rfl⟩ := rc_int hm_X9_back rfl e1
  obtain ⟨S', eh, C'⟩ := cpw_norm W
  refine ⟨S', C', ?_⟩
  rw [← eh]
  have q0 := hp_no (cpl_q C)
  have q1 := hp_no1 (cpw_q W) (hG _ _ _ _ _ e2)
  have i1 : sm_inr (some xs) (nI (i + 1)) = true := sm_inr_nI (by omega) hx
  have i2 : sm_inr (some xs) (nI (i + 2)) = true := sm_inr_nI (by omega) hx
  have i3 : sm_inr (some xs) (nI (i + 3)) = true := sm_inr_nI (by omega) hx
  have i4 : sm_inr (some xs) (nI (i + 4)) = true := sm_inr_nI (by omega) hx
  simp only [s_L_law_472, s_L_law_473, s_L_law_474, s_L_law_475, s_L_law_476, s_L_law_477, s_L_law_478, s_L_law_481, s_L_law_482, s_L_law_483, s_L_law_484, s_L_law_485, s_L_law_486, s_L_law_487, s_L_law_490, s_L_law_493, s_L_law_494z0, s_L_law_494z1, Option.isSome_some, Option.getD_some, sm_clr_i, sm_clr_r, sm_clr_n, sm_clr_o, sm_clr_l, zr_some, zh_some, Option.toList_some, Option.toList_none, List.cons_append, List.nil_append, List.map_cons, List.map_nil, List.sum_cons, List.sum_nil, sm_cat_i, sm_cat_r, sm_cat_n, sm_cat_l, Nat.reduceAdd, Nat.reduceLeDiff, Nat.zero_add, Nat.add_zero, if_true, if_false, not_true_eq_false, not_false_eq_true, and_self, true_and, and_true, hc_0, hc_45, q0, q1, lw_a1, lw_a2, lw_a3, lw_a4, i1, i2, i3, i4, e1, e2]
theorem lw_stop (hG : hGrow xs) (C : cpl S) {i : Nat} (hi : i + 5 ≤ xs.length) (hx : xs.length < 2 ^ 31) : ∃ S', cpl S' ∧ sm_run xs n_L_law 495 [some (.ref (sm_B + 9)), some (.ref 0), some (.ref 45), some (.int (nI i))] [] (hp S) = sm_run xs n_L_law 908 [some (.ref (sm_B + 9)), some (.ref 0), some (.ref 45), some (.int (nI i))] [] (hp S') := by
  obtain ⟨v, S1, S2, e1, e2, W⟩ := jt_w (j_stop (xs := xs) C (sm_el (some xs) (nI (i + 1))) (sm_el (some xs) (nI (i + 2))))
  obtain ⟨x, rfl⟩ := rc_int hm_X9_stop rfl e1
  obtain ⟨S', eh, C'⟩ := cpw_norm W
  refine ⟨S', C', ?_⟩
  rw [← eh]
  have q0 := hp_no (cpl_q C)
  have q1 := hp_no1 (cpw_q W) (hG _ _ _ _ _ e2)
  have i1 : sm_inr (some xs) (nI (i + 1)) = true := sm_inr_nI (by omega) hx
  have i2 : sm_inr (some xs) (nI (i + 2)) = true := sm_inr_nI (by omega) hx
  have i3 : sm_inr (some xs) (nI (i + 3)) = true := sm_inr_nI (by omega) hx
  have i4 : sm_inr (some xs) (nI (i + 4)) = true := sm_inr_nI (by omega) hx
  simp only [s_L_law_495, s_L_law_496, s_L_law_497, s_L_law_498, s_L_law_499, s_L_law_500, s_L_law_501, s_L_law_502, s_L_law_503, s_L_law_504, s_L_law_505, s_L_law_506, s_L_law_509, s_L_law_510, s_L_law_511, s_L_law_512, s_L_law_513, s_L_law_514, s_L_law_515, s_L_law_516, s_L_law_517, s_L_law_518, s_L_law_519, s_L_law_520, s_L_law_523, s_L_law_526, s_L_law_527z0, s_L_law_527z1, Option.isSome_some, Option.getD_some, sm_clr_i, sm_clr_r, sm_clr_n, sm_clr_o, sm_clr_l, zr_some, zh_some, Option.toList_some, Option.toList_none, List.cons_append, List.nil_append, List.map_cons, List.map_nil, List.sum_cons, List.sum_nil, sm_cat_i, sm_cat_r, sm_cat_n, sm_cat_l, Nat.reduceAdd, Nat.reduceLeDiff, Nat.zero_add, Nat.add_zero, if_true, if_false, not_true_eq_false, not_false_eq_true, and_self, true_and, and_true, hc_0, hc_45, q0, q1, lw_a1, lw_a2, lw_a3, lw_a4, i1, i2, i3, i4, e1, e2]
theorem lw_odds (hG : hGrow xs) (C : cpl S) {i : Nat} (hi : i + 5 ≤ xs.length) (hx : xs.length < 2 ^ 31) : ∃ S', cpl S' ∧ sm_run xs n_L_law 528 [some (.ref (sm_B + 9)), some (.ref 0), some (.ref 45), some (.int (nI i))] [] (hp S) = sm_run xs n_L_law 908 [some (.ref (sm_B + 9)), some (.ref 0), some (.ref 45), some (.int (nI i))] [] (hp S') := by
  obtain ⟨v, S1, S2, e1, e2, W⟩ := jt_w (j_odds (xs := xs) C (sm_el (some xs) (nI (i + 1))) (sm_el (some xs) (nI (i + 2))) (sm_el (some xs) (nI (i + 3))))
  obtain ⟨x, rfl⟩ := rc_int hm_X9_odds rfl e1
  obtain ⟨S', eh, C'⟩ := cpw_norm W
  refine ⟨S', C', ?_⟩
  rw [← eh]
  have q0 := hp_no (cpl_q C)
  have q1 := hp_no1 (cpw_q W) (hG _ _ _ _ _ e2)
  have i1 : sm_inr (some xs) (nI (i + 1)) = true := sm_inr_nI (by omega) hx
  have i2 : sm_inr (some xs) (nI (i + 2)) = true := sm_inr_nI (by omega) hx
  have i3 : sm_inr (some xs) (nI (i + 3)) = true := sm_inr_nI (by omega) hx
  have i4 : sm_inr (some xs) (nI (i + 4)) = true := sm_inr_nI (by omega) hx
  simp only [s_L_law_528, s_L_law_529, s_L_law_530, s_L_law_531, s_L_law_532, s_L_law_533, s_L_law_534, s_L_law_535, s_L_law_536, s_L_law_537, s_L_law_538, s_L_law_539, s_L_law_540, s_L_law_541, s_L_law_542, s_L_law_543, s_L_law_544, s_L_law_547, s_L_law_548, s_L_law_549, s_L_law_550, s_L_law_551, s_L_law_552, s_L_law_553, s_L_law_554, s_L_law_555, s_L_law_556, s_L_law_557, s_L_law_558, s_L_law_559, s_L_law_560, s_L_law_561, s_L_law_562, s_L_law_563, s_L_law_566, s_L_law_569, s_L_law_570z0, s_L_law_570z1, Option.isSome_some, Option.getD_some, sm_clr_i, sm_clr_r, sm_clr_n, sm_clr_o, sm_clr_l, zr_some, zh_some, Option.toList_some, Option.toList_none, List.cons_append, List.nil_append, List.map_cons, List.map_nil, List.sum_cons, List.sum_nil, sm_cat_i, sm_cat_r, sm_cat_n, sm_cat_l, Nat.reduceAdd, Nat.reduceLeDiff, Nat.zero_add, Nat.add_zero, if_true, if_false, not_true_eq_false, not_false_eq_true, and_self, true_and, and_true, hc_0, hc_45, q0, q1, lw_a1, lw_a2, lw_a3, lw_a4, i1, i2, i3, i4, e1, e2]
theorem lw_mean (hG : hGrow xs) (C : cpl S) {i : Nat} (hi : i + 5 ≤ xs.length) (hx : xs.length < 2 ^ 31) : ∃ S', cpl S' ∧ sm_run xs n_L_law 571 [some (.ref (sm_B + 9)), some (.ref 0), some (.ref 45), some (.int (nI i))] [] (hp S) = sm_run xs n_L_law 908 [some (.ref (sm_B + 9)), some (.ref 0), some (.ref 45), some (.int (nI i))] [] (hp S') := by
  obtain ⟨v, S1, S2, e1, e2, W⟩ := jt_w (j_mean (xs := xs) C (sm_el (some xs) (nI (i + 1))) (sm_el (some xs) (nI (i + 2))))
  obtain ⟨x, rfl⟩ := rc_int hm_X9_mean rfl e1
  obtain ⟨S', eh, C'⟩ := cpw_norm W
  refine ⟨S', C', ?_⟩
  rw [← eh]
  have q0 := hp_no (cpl_q C)
  have q1 := hp_no1 (cpw_q W) (hG _ _ _ _ _ e2)
  have i1 : sm_inr (some xs) (nI (i + 1)) = true := sm_inr_nI (by omega) hx
  have i2 : sm_inr (some xs) (nI (i + 2)) = true := sm_inr_nI (by omega) hx
  have i3 : sm_inr (some xs) (nI (i + 3)) = true := sm_inr_nI (by omega) hx
  have i4 : sm_inr (some xs) (nI (i + 4)) = true := sm_inr_nI (by omega) hx
  simp only [s_L_law_571, s_L_law_572, s_L_law_573, s_L_law_574, s_L_law_575, s_L_law_576, s_L_law_577, s_L_law_578, s_L_law_579, s_L_law_580, s_L_law_581, s_L_law_582, s_L_law_585, s_L_law_586, s_L_law_587, s_L_law_588, s_L_law_589, s_L_law_590, s_L_law_591, s_L_law_592, s_L_law_593, s_L_law_594, s_L_law_595, s_L_law_596, s_L_law_599, s_L_law_602, s_L_law_603z0, s_L_law_603z1, Option.isSome_some, Option.getD_some, sm_clr_i, sm_clr_r, sm_clr_n, sm_clr_o, sm_clr_l, zr_some, zh_some, Option.toList_some, Option.toList_none, List.cons_append, List.nil_append, List.map_cons, List.map_nil, List.sum_cons, List.sum_nil, sm_cat_i, sm_cat_r, sm_cat_n, sm_cat_l, Nat.reduceAdd, Nat.reduceLeDiff, Nat.zero_add, Nat.add_zero, if_true, if_false, not_true_eq_false, not_false_eq_true, and_self, true_and, and_true, hc_0, hc_45, q0, q1, lw_a1, lw_a2, lw_a3, lw_a4, i1, i2, i3, i4, e1, e2]
theorem lw_best (hG : hGrow xs) (C : cpl S) {i : Nat} (hi : i + 5 ≤ xs.length) (hx : xs.length < 2 ^ 31) : ∃ S', cpl S' ∧ sm_run xs n_L_law 604 [some (.ref (sm_B + 9)), some (.ref 0), some (.ref 45), some (.int (nI i))] [] (hp S) = sm_run xs n_L_law 908 [some (.ref (sm_B + 9)), some (.ref 0), some (.ref 45), some (.int (nI i))] [] (hp S') := by
  obtain ⟨v, S1, S2, e1, e2, W⟩ := jt_w (j_best (xs := xs) C (sm_el (some xs) (nI (i + 1))) (sm_el (some xs) (nI (i + 2))))
  obtain ⟨x, rfl⟩ := rc_int hm_X9_best rfl e1
  obtain ⟨S', eh, C'⟩ := cpw_norm W
  refine ⟨S', C', ?_⟩
  rw [← eh]
  have q0 := hp_no (cpl_q C)
  have q1 := hp_no1 (cpw_q W) (hG _ _ _ _ _ e2)
  have i1 : sm_inr (some xs) (nI (i + 1)) = true := sm_inr_nI (by omega) hx
  have i2 : sm_inr (some xs) (nI (i + 2)) = true := sm_inr_nI (by omega) hx
  have i3 : sm_inr (some xs) (nI (i + 3)) = true := sm_inr_nI (by omega) hx
  have i4 : sm_inr (some xs) (nI (i + 4)) = true := sm_inr_nI (by omega) hx
  simp only [s_L_law_604, s_L_law_605, s_L_law_606, s_L_law_607, s_L_law_608, s_L_law_609, s_L_law_610, s_L_law_611, s_L_law_612, s_L_law_613, s_L_law_614, s_L_law_615, s_L_law_618, s_L_law_619, s_L_law_620, s_L_law_621, s_L_law_622, s_L_law_623, s_L_law_624, s_L_law_625, s_L_law_626, s_L_law_627, s_L_law_628, s_L_law_629, s_L_law_632, s_L_law_635, s_L_law_636z0, s_L_law_636z1, Option.isSome_some, Option.getD_some, sm_clr_i, sm_clr_r, sm_clr_n, sm_clr_o, sm_clr_l, zr_some, zh_some, Option.toList_some, Option.toList_none, List.cons_append, List.nil_append, List.map_cons, List.map_nil, List.sum_cons, List.sum_nil, sm_cat_i, sm_cat_r, sm_cat_n, sm_cat_l, Nat.reduceAdd, Nat.reduceLeDiff, Nat.zero_add, Nat.add_zero, if_true, if_false, not_true_eq_false, not_false_eq_true, and_self, true_and, and_true, hc_0, hc_45, q0, q1, lw_a1, lw_a2, lw_a3, lw_a4, i1, i2, i3, i4, e1, e2]
theorem lw_two (hG : hGrow xs) (C : cpl S) {i : Nat} (hi : i + 5 ≤ xs.length) (hx : xs.length < 2 ^ 31) : ∃ S', cpl S' ∧ sm_run xs n_L_law 637 [some (.ref (sm_B + 9)), some (.ref 0), some (.ref 45), some (.int (nI i))] [] (hp S) = sm_run xs n_L_law 908 [some (.ref (sm_B + 9)), some (.ref 0), some (.ref 45), some (.int (nI i))] [] (hp S') := by
  obtain ⟨v, S1, S2, e1, e2, W⟩ := j_two (xs := xs) C (sm_el (some xs) (nI (i + 1)))
  obtain ⟨x, rfl⟩ := rc_int hm_X9_two rfl e1
  obtain ⟨S', eh, C'⟩ := cpw_norm W
  refine ⟨S', C', ?_⟩
  rw [← eh]
  have q0 := hp_no (cpl_q C)
  have q1 := hp_no1 (cpw_q W) (hG _ _ _ _ _ e2)
  have i1 : sm_inr (some xs) (nI (i + 1)) = true := sm_inr_nI (by omega) hx
  have i2 : sm_inr (some xs) (nI (i + 2)) = true := sm_inr_nI (by omega) hx
  have i3 : sm_inr (some xs) (nI (i + 3)) = true := sm_inr_nI (by omega) hx
  have i4 : sm_inr (some xs) (nI (i + 4)) = true := sm_inr_nI (by omega) hx
  simp only [s_L_law_637, s_L_law_638, s_L_law_639, s_L_law_640, s_L_law_641, s_L_law_642, s_L_law_643, s_L_law_646, s_L_law_647, s_L_law_648, s_L_law_649, s_L_law_650, s_L_law_651, s_L_law_652, s_L_law_655, s_L_law_658, s_L_law_659z0, s_L_law_659z1, Option.isSome_some, Option.getD_some, sm_clr_i, sm_clr_r, sm_clr_n, sm_clr_o, sm_clr_l, zr_some, zh_some, Option.toList_some, Option.toList_none, List.cons_append, List.nil_append, List.map_cons, List.map_nil, List.sum_cons, List.sum_nil, sm_cat_i, sm_cat_r, sm_cat_n, sm_cat_l, Nat.reduceAdd, Nat.reduceLeDiff, Nat.zero_add, Nat.add_zero, if_true, if_false, not_true_eq_false, not_false_eq_true, and_self, true_and, and_true, hc_0, hc_45, q0, q1, lw_a1, lw_a2, lw_a3, lw_a4, i1, i2, i3, i4, e1, e2]
theorem lw_seen (hG : hGrow xs) (C : cpl S) {i : Nat} (hi : i + 5 ≤ xs.length) (hx : xs.length < 2 ^ 31) : ∃ S', cpl S' ∧ sm_run xs n_L_law 660 [some (.ref (sm_B + 9)), some (.ref 0), some (.ref 45), some (.int (nI i))] [] (hp S) = sm_run xs n_L_law 908 [some (.ref (sm_B + 9)), some (.ref 0), some (.ref 45), some (.int (nI i))] [] (hp S') := by
  obtain ⟨v, S1, S2, e1, e2, W⟩ := j_seen (xs := xs) C (sm_el (some xs) (nI (i + 1))) (sm_el (some xs) (nI (i + 2)))
  obtain ⟨x, rfl⟩ := rc_int hm_X9_seen rfl e1
  obtain ⟨S', eh, C'⟩ := cpw_norm W
  refine ⟨S', C', ?_⟩
  rw [← eh]
  have q0 := hp_no (cpl_q C)
  have q1 := hp_no1 (cpw_q W) (hG _ _ _ _ _ e2)
  have i1 : sm_inr (some xs) (nI (i + 1)) = true := sm_inr_nI (by omega) hx
  have i2 : sm_inr (some xs) (nI (i + 2)) = true := sm_inr_nI (by omega) hx
  have i3 : sm_inr (some xs) (nI (i + 3)) = true := sm_inr_nI (by omega) hx
  have i4 : sm_inr (some xs) (nI (i + 4)) = true := sm_inr_nI (by omega) hx
  simp only [s_L_law_660, s_L_law_661, s_L_law_662, s_L_law_663, s_L_law_664, s_L_law_665, s_L_law_666, s_L_law_667, s_L_law_668, s_L_law_669, s_L_law_670, s_L_law_671, s_L_law_674, s_L_law_675, s_L_law_676, s_L_law_677, s_L_law_678, s_L_law_679, s_L_law_680, s_L_law_681, s_L_law_682, s_L_law_683, s_L_law_684, s_L_law_685, s_L_law_688, s_L_law_691, s_L_law_692z0, s_L_law_692z1, Option.isSome_some, Option.getD_some, sm_clr_i, sm_clr_r, sm_clr_n, sm_clr_o, sm_clr_l, zr_some, zh_some, Option.toList_some, Option.toList_none, List.cons_append, List.nil_append, List.map_cons, List.map_nil, List.sum_cons, List.sum_nil, sm_cat_i, sm_cat_r, sm_cat_n, sm_cat_l, Nat.reduceAdd, Nat.reduceLeDiff, Nat.zero_add, Nat.add_zero, if_true, if_false, not_true_eq_false, not_false_eq_true, and_self, true_and, and_true, hc_0, hc_45, q0, q1, lw_a1, lw_a2, lw_a3, lw_a4, i1, i2, i3, i4, e1, e2]
theorem lw_forget (hG : hGrow xs) (C : cpl S) {i : Nat} (hi : i + 5 ≤ xs.length) (hx : xs.length < 2 ^ 31) : ∃ S', cpl S' ∧ sm_run xs n_L_law 693 [some (.ref (sm_B + 9)), some (.ref 0), some (.ref 45), some (.int (nI i))] [] (hp S) = sm_run xs n_L_law 908 [some (.ref (sm_B + 9)), some (.ref 0), some (.ref 45), some (.int (nI i))] [] (hp S') := by
  obtain ⟨v, S1, S2, e1, e2, W⟩ := jt_w (j_forget (xs := xs) C )
  obtain ⟨x, rfl⟩ := rc_int hm_X9_forget rfl e1
  obtain ⟨S', eh, C'⟩ := cpw_norm W
  refine ⟨S', C', ?_⟩
  rw [← eh]
  have q0 := hp_no (cpl_q C)
  have q1 := hp_no1 (cpw_q W) (hG _ _ _ _ _ e2)
  have i1 : sm_inr (some xs) (nI (i + 1)) = true := sm_inr_nI (by omega) hx
  have i2 : sm_inr (some xs) (nI (i + 2)) = true := sm_inr_nI (by omega) hx
  have i3 : sm_inr (some xs) (nI (i + 3)) = true := sm_inr_nI (by omega) hx
  have i4 : sm_inr (some xs) (nI (i + 4)) = true := sm_inr_nI (by omega) hx
  simp only [s_L_law_693, s_L_law_694, s_L_law_697, s_L_law_698, s_L_law_701, s_L_law_704, s_L_law_705z0, s_L_law_705z1, Option.isSome_some, Option.getD_some, sm_clr_i, sm_clr_r, sm_clr_n, sm_clr_o, sm_clr_l, zr_some, zh_some, Option.toList_some, Option.toList_none, List.cons_append, List.nil_append, List.map_cons, List.map_nil, List.sum_cons, List.sum_nil, sm_cat_i, sm_cat_r, sm_cat_n, sm_cat_l, Nat.reduceAdd, Nat.reduceLeDiff, Nat.zero_add, Nat.add_zero, if_true, if_false, not_true_eq_false, not_false_eq_true, and_self, true_and, and_true, hc_0, hc_45, q0, q1, lw_a1, lw_a2, lw_a3, lw_a4, i1, i2, i3, i4, e1, e2]
theorem lw_slopes (hG : hGrow xs) (C : cpl S) {i : Nat} (hi : i + 5 ≤ xs.length) (hx : xs.length < 2 ^ 31) : ∃ S', cpl S' ∧ sm_run xs n_L_law 706 [some (.ref (sm_B + 9)), some (.ref 0), some (.ref 45), some (.int (nI i))] [] (hp S) = sm_run xs n_L_law 908 [some (.ref (sm_B + 9)), some (.ref 0), some (.ref 45), some (.int (nI i))] [] (hp S') := by
  obtain ⟨v, S1, S2, e1, e2, W⟩ := j_slopes (xs := xs) C (sm_el (some xs) (nI (i + 1)))
  obtain ⟨x, rfl⟩ := rc_int hm_X9_slopes rfl e1
  obtain ⟨S', eh, C'⟩ := cpw_norm W
  refine ⟨S', C', ?_⟩
  rw [← eh]
  have q0 := hp_no (cpl_q C)
  have q1 := hp_no1 (cpw_q W) (hG _ _ _ _ _ e2)
  have i1 : sm_inr (some xs) (nI (i + 1)) = true := sm_inr_nI (by omega) hx
  have i2 : sm_inr (some xs) (nI (i + 2)) = true := sm_inr_nI (by omega) hx
  have i3 : sm_inr (some xs) (nI (i + 3)) = true := sm_inr_nI (by omega) hx
  have i4 : sm_inr (some xs) (nI (i + 4)) = true := sm_inr_nI (by omega) hx
  simp only [s_L_law_706, s_L_law_707, s_L_law_708, s_L_law_709, s_L_law_710, s_L_law_711, s_L_law_712, s_L_law_715, s_L_law_716, s_L_law_717, s_L_law_718, s_L_law_719, s_L_law_720, s_L_law_721, s_L_law_724, s_L_law_727, s_L_law_728z0, s_L_law_728z1, Option.isSome_some, Option.getD_some, sm_clr_i, sm_clr_r, sm_clr_n, sm_clr_o, sm_clr_l, zr_some, zh_some, Option.toList_some, Option.toList_none, List.cons_append, List.nil_append, List.map_cons, List.map_nil, List.sum_cons, List.sum_nil, sm_cat_i, sm_cat_r, sm_cat_n, sm_cat_l, Nat.reduceAdd, Nat.reduceLeDiff, Nat.zero_add, Nat.add_zero, if_true, if_false, not_true_eq_false, not_false_eq_true, and_self, true_and, and_true, hc_0, hc_45, q0, q1, lw_a1, lw_a2, lw_a3, lw_a4, i1, i2, i3, i4, e1, e2]
theorem lw_ruin (hG : hGrow xs) (C : cpl S) {i : Nat} (hi : i + 5 ≤ xs.length) (hx : xs.length < 2 ^ 31) : ∃ S', cpl S' ∧ sm_run xs n_L_law 729 [some (.ref (sm_B + 9)), some (.ref 0), some (.ref 45), some (.int (nI i))] [] (hp S) = sm_run xs n_L_law 908 [some (.ref (sm_B + 9)), some (.ref 0), some (.ref 45), some (.int (nI i))] [] (hp S') := by
  obtain ⟨v, S1, S2, e1, e2, W⟩ := jt_w (j_ruin (xs := xs) C (sm_el (some xs) (nI (i + 1))) (sm_el (some xs) (nI (i + 2))) (sm_el (some xs) (nI (i + 3))) (sm_el (some xs) (nI (i + 4))))
  obtain ⟨x, rfl⟩ := rc_long hm_X9_ruin rfl e1
  obtain ⟨S', eh, C'⟩ := cpw_norm W
  refine ⟨S', C', ?_⟩
  rw [← eh]
  have q0 := hp_no (cpl_q C)
  have q1 := hp_no1 (cpw_q W) (hG _ _ _ _ _ e2)
  have i1 : sm_inr (some xs) (nI (i + 1)) = true := sm_inr_nI (by omega) hx
  have i2 : sm_inr (some xs) (nI (i + 2)) = true := sm_inr_nI (by omega) hx
  have i3 : sm_inr (some xs) (nI (i + 3)) = true := sm_inr_nI (by omega) hx
  have i4 : sm_inr (some xs) (nI (i + 4)) = true := sm_inr_nI (by omega) hx
  simp only [s_L_law_729, s_L_law_730, s_L_law_731, s_L_law_732, s_L_law_733, s_L_law_734, s_L_law_735, s_L_law_736, s_L_law_737, s_L_law_738, s_L_law_739, s_L_law_740, s_L_law_741, s_L_law_742, s_L_law_743, s_L_law_744, s_L_law_745, s_L_law_746, s_L_law_747, s_L_law_748, s_L_law_749, s_L_law_750, s_L_law_753, s_L_law_754, s_L_law_755, s_L_law_756, s_L_law_757, s_L_law_758, s_L_law_759, s_L_law_760, s_L_law_761, s_L_law_762, s_L_law_763, s_L_law_764, s_L_law_765, s_L_law_766, s_L_law_767, s_L_law_768, s_L_law_769, s_L_law_770, s_L_law_771, s_L_law_772, s_L_law_773, s_L_law_774, s_L_law_777, s_L_law_778, s_L_law_781, s_L_law_782z0, s_L_law_782z1, Option.isSome_some, Option.getD_some, sm_clr_i, sm_clr_r, sm_clr_n, sm_clr_o, sm_clr_l, zr_some, zh_some, Option.toList_some, Option.toList_none, List.cons_append, List.nil_append, List.map_cons, List.map_nil, List.sum_cons, List.sum_nil, sm_cat_i, sm_cat_r, sm_cat_n, sm_cat_l, Nat.reduceAdd, Nat.reduceLeDiff, Nat.zero_add, Nat.add_zero, if_true, if_false, not_true_eq_false, not_false_eq_true, and_self, true_and, and_true, hc_0, hc_45, q0, q1, lw_a1, lw_a2, lw_a3, lw_a4, i1, i2, i3, i4, e1, e2, lg_cmp_s]
theorem lw_netted (hG : hGrow xs) (C : cpl S) {i : Nat} (hi : i + 5 ≤ xs.length) (hx : xs.length < 2 ^ 31) : ∃ S', cpl S' ∧ sm_run xs n_L_law 783 [some (.ref (sm_B + 9)), some (.ref 0), some (.ref 45), some (.int (nI i))] [] (hp S) = sm_run xs n_L_law 908 [some (.ref (sm_B + 9)), some (.ref 0), some (.ref 45), some (.int (nI i))] [] (hp S') := by
  obtain ⟨v, S1, S2, e1, e2, W⟩ := j_netted (xs := xs) C 
  obtain ⟨x, rfl⟩ := rc_int hm_X9_netted rfl e1
  obtain ⟨S', eh, C'⟩ := cpw_norm W
  refine ⟨S', C', ?_⟩
  rw [← eh]
  have q0 := hp_no (cpl_q C)
  have q1 := hp_no1 (cpw_q W) (hG _ _ _ _ _ e2)
  have i1 : sm_inr (some xs) (nI (i + 1)) = true := sm_inr_nI (by omega) hx
  have i2 : sm_inr (some xs) (nI (i + 2)) = true := sm_inr_nI (by omega) hx
  have i3 : sm_inr (some xs) (nI (i + 3)) = true := sm_inr_nI (by omega) hx
  have i4 : sm_inr (some xs) (nI (i + 4)) = true := sm_inr_nI (by omega) hx
  simp only [s_L_law_783, s_L_law_784, s_L_law_787, s_L_law_788, s_L_law_791, s_L_law_794, s_L_law_795z0, s_L_law_795z1, Option.isSome_some, Option.getD_some, sm_clr_i, sm_clr_r, sm_clr_n, sm_clr_o, sm_clr_l, zr_some, zh_some, Option.toList_some, Option.toList_none, List.cons_append, List.nil_append, List.map_cons, List.map_nil, List.sum_cons, List.sum_nil, sm_cat_i, sm_cat_r, sm_cat_n, sm_cat_l, Nat.reduceAdd, Nat.reduceLeDiff, Nat.zero_add, Nat.add_zero, if_true, if_false, not_true_eq_false, not_false_eq_true, and_self, true_and, and_true, hc_0, hc_45, q0, q1, lw_a1, lw_a2, lw_a3, lw_a4, i1, i2, i3, i4, e1, e2]
theorem lw_ring (hG : hGrow xs) (C : cpl S) {i : Nat} (hi : i + 5 ≤ xs.length) (hx : xs.length < 2 ^ 31) : ∃ S', cpl S' ∧ sm_run xs n_L_law 796 [some (.ref (sm_B + 9)), some (.ref 0), some (.ref 45), some (.int (nI i))] [] (hp S) = sm_run xs n_L_law 908 [some (.ref (sm_B + 9)), some (.ref 0), some (.ref 45), some (.int (nI i))] [] (hp S') := by
  obtain ⟨v, S1, S2, e1, e2, W⟩ := j_ring (xs := xs) C (sm_el (some xs) (nI (i + 1)))
  obtain ⟨x, rfl⟩ := rc_int hm_X9_ring rfl e1
  obtain ⟨S', eh, C'⟩ := cpw_norm W
  refine ⟨S', C', ?_⟩
  rw [← eh]
  have q0 := hp_no (cpl_q C)
  have q1 := hp_no1 (cpw_q W) (hG _ _ _ _ _ e2)
  have i1 : sm_inr (some xs) (nI (i + 1)) = true := sm_inr_nI (by omega) hx
  have i2 : sm_inr (some xs) (nI (i + 2)) = true := sm_inr_nI (by omega) hx
  have i3 : sm_inr (some xs) (nI (i + 3)) = true := sm_inr_nI (by omega) hx
  have i4 : sm_inr (some xs) (nI (i + 4)) = true := sm_inr_nI (by omega) hx
  simp only [s_L_law_796, s_L_law_797, s_L_law_798, s_L_law_799, s_L_law_800, s_L_law_801, s_L_law_802, s_L_law_805, s_L_law_806, s_L_law_807, s_L_law_808, s_L_law_809, s_L_law_810, s_L_law_811, s_L_law_814, s_L_law_817, s_L_law_818z0, s_L_law_818z1, Option.isSome_some, Option.getD_some, sm_clr_i, sm_clr_r, sm_clr_n, sm_clr_o, sm_clr_l, zr_some, zh_some, Option.toList_some, Option.toList_none, List.cons_append, List.nil_append, List.map_cons, List.map_nil, List.sum_cons, List.sum_nil, sm_cat_i, sm_cat_r, sm_cat_n, sm_cat_l, Nat.reduceAdd, Nat.reduceLeDiff, Nat.zero_add, Nat.add_zero, if_true, if_false, not_true_eq_false, not_false_eq_true, and_self, true_and, and_true, hc_0, hc_45, q0, q1, lw_a1, lw_a2, lw_a3, lw_a4, i1, i2, i3, i4, e1, e2]
theorem lw_poor (hG : hGrow xs) (C : cpl S) {i : Nat} (hi : i + 5 ≤ xs.length) (hx : xs.length < 2 ^ 31) : ∃ S', cpl S' ∧ sm_run xs n_L_law 819 [some (.ref (sm_B + 9)), some (.ref 0), some (.ref 45), some (.int (nI i))] [] (hp S) = sm_run xs n_L_law 908 [some (.ref (sm_B + 9)), some (.ref 0), some (.ref 45), some (.int (nI i))] [] (hp S') := by
  obtain ⟨v, S1, S2, e1, e2, W⟩ := jt_w (j_poor (xs := xs) C )
  obtain ⟨x, rfl⟩ := rc_int hm_X9_poor rfl e1
  obtain ⟨S', eh, C'⟩ := cpw_norm W
  refine ⟨S', C', ?_⟩
  rw [← eh]
  have q0 := hp_no (cpl_q C)
  have q1 := hp_no1 (cpw_q W) (hG _ _ _ _ _ e2)
  have i1 : sm_inr (some xs) (nI (i + 1)) = true := sm_inr_nI (by omega) hx
  have i2 : sm_inr (some xs) (nI (i + 2)) = true := sm_inr_nI (by omega) hx
  have i3 : sm_inr (some xs) (nI (i + 3)) = true := sm_inr_nI (by omega) hx
  have i4 : sm_inr (some xs) (nI (i + 4)) = true := sm_inr_nI (by omega) hx
  simp only [s_L_law_819, s_L_law_820, s_L_law_823, s_L_law_824, s_L_law_827, s_L_law_830, s_L_law_831z0, s_L_law_831z1, Option.isSome_some, Option.getD_some, sm_clr_i, sm_clr_r, sm_clr_n, sm_clr_o, sm_clr_l, zr_some, zh_some, Option.toList_some, Option.toList_none, List.cons_append, List.nil_append, List.map_cons, List.map_nil, List.sum_cons, List.sum_nil, sm_cat_i, sm_cat_r, sm_cat_n, sm_cat_l, Nat.reduceAdd, Nat.reduceLeDiff, Nat.zero_add, Nat.add_zero, if_true, if_false, not_true_eq_false, not_false_eq_true, and_self, true_and, and_true, hc_0, hc_45, q0, q1, lw_a1, lw_a2, lw_a3, lw_a4, i1, i2, i3, i4, e1, e2]
theorem lw_rain (hG : hGrow xs) (C : cpl S) {i : Nat} (hi : i + 5 ≤ xs.length) (hx : xs.length < 2 ^ 31) : ∃ S', cpl S' ∧ sm_run xs n_L_law 832 [some (.ref (sm_B + 9)), some (.ref 0), some (.ref 45), some (.int (nI i))] [] (hp S) = sm_run xs n_L_law 908 [some (.ref (sm_B + 9)), some (.ref 0), some (.ref 45), some (.int (nI i))] [] (hp S') := by
  obtain ⟨v, S1, S2, e1, e2, W⟩ := jt_w (j_rain (xs := xs) C (sm_el (some xs) (nI (i + 1))) (sm_el (some xs) (nI (i + 2))) (sm_el (some xs) (nI (i + 3))) (sm_el (some xs) (nI (i + 4))))
  obtain ⟨x, rfl⟩ := rc_int hm_X9_rain rfl e1
  obtain ⟨S', eh, C'⟩ := cpw_norm W
  refine ⟨S', C', ?_⟩
  rw [← eh]
  have q0 := hp_no (cpl_q C)
  have q1 := hp_no1 (cpw_q W) (hG _ _ _ _ _ e2)
  have i1 : sm_inr (some xs) (nI (i + 1)) = true := sm_inr_nI (by omega) hx
  have i2 : sm_inr (some xs) (nI (i + 2)) = true := sm_inr_nI (by omega) hx
  have i3 : sm_inr (some xs) (nI (i + 3)) = true := sm_inr_nI (by omega) hx
  have i4 : sm_inr (some xs) (nI (i + 4)) = true := sm_inr_nI (by omega) hx
  simp only [s_L_law_832, s_L_law_833, s_L_law_834, s_L_law_835, s_L_law_836, s_L_law_837, s_L_law_838, s_L_law_839, s_L_law_840, s_L_law_841, s_L_law_842, s_L_law_843, s_L_law_844, s_L_law_845, s_L_law_846, s_L_law_847, s_L_law_848, s_L_law_849, s_L_law_850, s_L_law_851, s_L_law_852, s_L_law_853, s_L_law_856, s_L_law_857, s_L_law_858, s_L_law_859, s_L_law_860, s_L_law_861, s_L_law_862, s_L_law_863, s_L_law_864, s_L_law_865, s_L_law_866, s_L_law_867, s_L_law_868, s_L_law_869, s_L_law_870, s_L_law_871, s_L_law_872, s_L_law_873, s_L_law_874, s_L_law_875, s_L_law_876, s_L_law_877, s_L_law_880, s_L_law_883, s_L_law_884z0, s_L_law_884z1, Option.isSome_some, Option.getD_some, sm_clr_i, sm_clr_r, sm_clr_n, sm_clr_o, sm_clr_l, zr_some, zh_some, Option.toList_some, Option.toList_none, List.cons_append, List.nil_append, List.map_cons, List.map_nil, List.sum_cons, List.sum_nil, sm_cat_i, sm_cat_r, sm_cat_n, sm_cat_l, Nat.reduceAdd, Nat.reduceLeDiff, Nat.zero_add, Nat.add_zero, if_true, if_false, not_true_eq_false, not_false_eq_true, and_self, true_and, and_true, hc_0, hc_45, q0, q1, lw_a1, lw_a2, lw_a3, lw_a4, i1, i2, i3, i4, e1, e2]
theorem lw_count (hG : hGrow xs) (C : cpl S) {i : Nat} (hi : i + 5 ≤ xs.length) (hx : xs.length < 2 ^ 31) : ∃ S', cpl S' ∧ sm_run xs n_L_law 885 [some (.ref (sm_B + 9)), some (.ref 0), some (.ref 45), some (.int (nI i))] [] (hp S) = sm_run xs n_L_law 908 [some (.ref (sm_B + 9)), some (.ref 0), some (.ref 45), some (.int (nI i))] [] (hp S') := by
  obtain ⟨v, S1, S2, e1, e2, W⟩ := jt_w (j_count (xs := xs) C (sm_el (some xs) (nI (i + 1))))
  obtain ⟨x, rfl⟩ := rc_int hm_X9_count rfl e1
  obtain ⟨S', eh, C'⟩ := cpw_norm W
  refine ⟨S', C', ?_⟩
  rw [← eh]
  have q0 := hp_no (cpl_q C)
  have q1 := hp_no1 (cpw_q W) (hG _ _ _ _ _ e2)
  have i1 : sm_inr (some xs) (nI (i + 1)) = true := sm_inr_nI (by omega) hx
  have i2 : sm_inr (some xs) (nI (i + 2)) = true := sm_inr_nI (by omega) hx
  have i3 : sm_inr (some xs) (nI (i + 3)) = true := sm_inr_nI (by omega) hx
  have i4 : sm_inr (some xs) (nI (i + 4)) = true := sm_inr_nI (by omega) hx
  simp only [s_L_law_885, s_L_law_886, s_L_law_887, s_L_law_888, s_L_law_889, s_L_law_890, s_L_law_891, s_L_law_894, s_L_law_895, s_L_law_896, s_L_law_897, s_L_law_898, s_L_law_899, s_L_law_900, s_L_law_903, s_L_law_906, s_L_law_907z0, s_L_law_907z1, Option.isSome_some, Option.getD_some, sm_clr_i, sm_clr_r, sm_clr_n, sm_clr_o, sm_clr_l, zr_some, zh_some, Option.toList_some, Option.toList_none, List.cons_append, List.nil_append, List.map_cons, List.map_nil, List.sum_cons, List.sum_nil, sm_cat_i, sm_cat_r, sm_cat_n, sm_cat_l, Nat.reduceAdd, Nat.reduceLeDiff, Nat.zero_add, Nat.add_zero, if_true, if_false, not_true_eq_false, not_false_eq_true, and_self, true_and, and_true, hc_0, hc_45, q0, q1, lw_a1, lw_a2, lw_a3, lw_a4, i1, i2, i3, i4, e1, e2]
end LW

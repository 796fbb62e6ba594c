/-- only the six cells from i on may have changed -/
def hp_fr (h h' : HH) (i : Nat) : Prop := h'.length = h.length ∧ ∀ j, (j < i ∨ i + 5 < j) → h'[j]? = h[j]?
theorem hp_fr_rf (h : HH) (i : Nat) : hp_fr h h i := ⟨rfl, fun _ _ => rfl⟩
theorem hp_fr_tr {a b c : HH} {i : Nat} (h : hp_fr a b i) (k : hp_fr b c i) : hp_fr a c i := ⟨k.1.trans h.1, fun j hj => (k.2 j hj).trans (h.2 j hj)⟩
theorem hp_fr_set {h : HH} {i k : Nat} {e : AE} (hk : i ≤ k ∧ k ≤ i + 5) : hp_fr h (h.set k e) i := ⟨by simp, fun j hj => hp_ne (by omega)⟩
def wr_P (c : Option (Option Value × HH)) (r : Option Value) (h : HH) (i : Nat) (P : PT) : Prop := ∃ h', c = some (r, h') ∧ pt_at h' i P ∧ hp_fr h h' i
section PATCHX
variable {xs : List Int32} {h : HH} {i : Nat} {P : PT} {n p : Nat}
def pt_lay (P : PT) (n : Nat) (c v : Int32) : PT := if hs_C n c then pt_setw P ((pt_w P).set c.toNatClampNeg v) else P
def pt_tilt (P : PT) (n : Nat) (c v : Int32) : PT := if hs_C n c then pt_setsl P ((pt_sl P).set c.toNatClampNeg v) else P
def pt_owe (P : PT) (p : Nat) (a b v : Int32) : PT := if hs_P p a b then pt_setd P ((pt_d P).set (a * 5 + b).toNatClampNeg v) else P
def pt_gain (P : PT) (p : Nat) (a v : Int32) : PT := if hs_C p a then pt_setpu P ((pt_pu P).set a.toNatClampNeg (if (pt_pu P).getD a.toNatClampNeg 0 + v < 999 then (pt_pu P).getD a.toNatClampNeg 0 + v else 999)) else P
theorem w_lay (H : pt_at h i P) (K : pt_ok P n p) (c v : Int32) : wr_P (sm_call xs n_X3_lay [.ref i, .int c, .int v] h) none h i (pt_lay P n c v) := by
  refine ⟨_, c_lay H K c v, ?_⟩
  unfold pt_lay
  split
  · exact ⟨pt_aset2 H _, hp_fr_set (by omega)⟩
  · exact ⟨H, hp_fr_rf h i⟩
theorem w_tilt (H : pt_at h i P) (K : pt_ok P n p) (c v : Int32) : wr_P (sm_call xs n_X3_tilt [.ref i, .int c, .int v] h) none h i (pt_tilt P n c v) := by
  refine ⟨_, c_tilt H K c v, ?_⟩
  unfold pt_tilt
  split
  · exact ⟨pt_aset1 H _, hp_fr_set (by omega)⟩
  · exact ⟨H, hp_fr_rf h i⟩
theorem w_owe (H : pt_at h i P) (K : pt_ok P n p) (a b v : Int32) : wr_P (sm_call xs n_X3_owe [.ref i, .int a, .int b, .int v] h) none h i (pt_owe P p a b v) := by
  refine ⟨_, c_owe H K a b v, ?_⟩
  unfold pt_owe
  split
  · exact ⟨pt_aset5 H _, hp_fr_set (by omega)⟩
  · exact ⟨H, hp_fr_rf h i⟩
theorem w_gain (H : pt_at h i P) (K : pt_ok P n p) (a v : Int32) : wr_P (sm_call xs n_X3_gain [.ref i, .int a, .int v] h) none h i (pt_gain P p a v) := by
  refine ⟨_, c_gain H K a v, ?_⟩
  unfold pt_gain
  split
  · exact ⟨pt_aset4 H _, hp_fr_set (by omega)⟩
  · exact ⟨H, hp_fr_rf h i⟩
theorem w_land (H : pt_at h i P) (K : pt_ok P n p) (c : Int32) : wr_P (sm_call xs n_X3_land [.ref i, .int c] h) (some (.int (wt_A P n c))) h i (pt_lay P n c (if wt_A P n c ≤ 0 then 1 else 0)) := by
  refine ⟨_, c_land H K c, ?_⟩
  unfold pt_lay
  split
  · exact ⟨pt_aset2 H _, hp_fr_set (by omega)⟩
  · exact ⟨H, hp_fr_rf h i⟩
def pt_clr (P : PT) : PT := pt_setw P (List.replicate 9 0)
theorem w_clear (H : pt_at h i P) (hw : (pt_w P).length = 9) : wr_P (sm_call xs n_X3_clearMarbles [.ref i] h) none h i (pt_clr P) := by
  have h1 := c_fill (xs := xs) (v := 0) H.2.2.1 (by omega)
  obtain ⟨kc, f0, f1, f2, f3, f4, f5, f6, f7⟩ := pt_fld H
  refine ⟨h.set (i + 2) (.inl (.int, List.replicate (pt_w P).length 0)), ?_, ?_, hp_fr_set (by omega)⟩
  · rw [c0_X3_clearMarbles]
    simp only [s_X3_clearMarbles_0, s_X3_clearMarbles_1, s_X3_clearMarbles_4, s_X3_clearMarbles_5, s_X3_clearMarbles_8, Option.isSome_some, Option.getD_some, sm_clr_i, sm_clr_r, sm_clr_n, sm_clr_o, sm_clr_l, sm_rr_some, sm_rh_some, Option.toList_some, Option.toList_none, List.cons_append, List.nil_append, List.map_cons, List.map_nil, List.sum_cons, List.sum_nil, sm_cat_i, sm_cat_r, sm_cat_n, sm_cat_l, Nat.reduceAdd, Nat.reduceLeDiff, Nat.zero_add, Nat.add_zero, if_true, if_false, not_true_eq_false, not_false_eq_true, and_self, true_and, and_true, f4, h1]
  · rw [hw]; exact pt_aset2 H _
def pt_join (P : PT) (p : Nat) (kd pu : Int32) : PT := if p < 5 then pt_setp (pt_setpu (pt_setk P ((pt_k P).set p kd)) ((pt_pu P).set p pu)) (nI (p + 1)) else P
theorem w_join (H : pt_at h i P) (K : pt_ok P n p) (kd pu : Int32) : wr_P (sm_call xs n_X3_join [.ref i, .int kd, .int pu] h) none h i (pt_join P p kd pu) := by
  obtain ⟨hc, hp, hn, hp5, l1, l2, l3, l4, l5⟩ := K
  obtain ⟨kc, f0, f1, f2, f3, f4, f5, f6, f7⟩ := pt_fld H
  obtain ⟨g1, g2, g3, g4, g5⟩ := pt_arr H
  unfold pt_join
  by_cases h5 : p < 5
  · rw [if_pos h5]
    have hle : ¬ (5 : Int32) ≤ nI p := nI_ge (b := 5) h5 (by omega)
    have H1 := pt_aset3 H ((pt_k P).set p kd)
    obtain ⟨kc1, e0, e1, e2, e3, e4, e5, e6, e7⟩ := pt_fld H1
    obtain ⟨k1, k2, k3, k4, k5⟩ := pt_arr H1
    have H2 := pt_aset4 H1 ((pt_pu P).set p pu)
    obtain ⟨kc2, a0, a1, a2, a3, a4, a5, a6, a7⟩ := pt_fld H2
    obtain ⟨w1, H3⟩ := pt_fset1 H2 (nI (p + 1))
    refine ⟨_, ?_, H3, hp_fr_tr (hp_fr_tr (hp_fr_set (by omega)) (hp_fr_set (by omega))) (hp_fr_set (by omega))⟩
    have i1 : sm_inr (some (pt_k P)) (nI p) = true := sm_inr_nI (by omega) (by omega)
    have i2 : sm_inr (some (pt_pu P)) (nI p) = true := sm_inr_nI (by omega) (by omega)
    have z1 : pt_p (pt_setk P ((pt_k P).set p kd)) = nI p := hp
    have z2 : pt_pu (pt_setk P ((pt_k P).set p kd)) = pt_pu P := rfl
    have z3 : pt_p (pt_setpu (pt_setk P ((pt_k P).set p kd)) ((pt_pu P).set p pu)) = nI p := hp
    rw [z2] at k4
    rw [z1] at e1
    rw [z3] at a1
    rw [c0_X3_join]
    simp only [s_X3_join_0, s_X3_join_1, s_X3_join_4, s_X3_join_5, s_X3_join_8, s_X3_join_9, s_X3_join_12, s_X3_join_13, s_X3_join_16, s_X3_join_17, s_X3_join_18, s_X3_join_19, s_X3_join_22, s_X3_join_23, s_X3_join_26, s_X3_join_27, s_X3_join_28, s_X3_join_29, s_X3_join_29i, s_X3_join_30, s_X3_join_33, s_X3_join_34, s_X3_join_35, s_X3_join_38, Option.isSome_some, Option.getD_some, sm_clr_i, sm_clr_r, sm_clr_n, sm_clr_o, sm_clr_l, sm_rr_some, sm_rh_some, Option.toList_some, Option.toList_none, List.cons_append, List.nil_append, List.map_cons, List.map_nil, List.sum_cons, List.sum_nil, sm_cat_i, sm_cat_r, sm_cat_n, sm_cat_l, Nat.reduceAdd, Nat.reduceLeDiff, Nat.zero_add, Nat.add_zero, if_true, if_false, not_true_eq_false, not_false_eq_true, and_self, true_and, and_true, f1, hp, hle, f5, g3, i1, sm_aset_nI (show p < 2 ^ 31 by omega), e1, e6, k4, i2, a1, nI_1, w1]
  · rw [if_neg h5]
    have hle : (5 : Int32) ≤ nI p := nI_le (a := 5) (by omega) (by omega)
    refine ⟨h, ?_, H, hp_fr_rf h i⟩
    rw [c0_X3_join]
    simp only [s_X3_join_0, s_X3_join_1, s_X3_join_4, s_X3_join_5, s_X3_join_8, s_X3_join_9, s_X3_join_12, s_X3_join_13, s_X3_join_16, s_X3_join_17, s_X3_join_18, s_X3_join_19, s_X3_join_22, s_X3_join_23, s_X3_join_26, s_X3_join_27, s_X3_join_28, s_X3_join_29, s_X3_join_29i, s_X3_join_30, s_X3_join_33, s_X3_join_34, s_X3_join_35, s_X3_join_38, Option.isSome_some, Option.getD_some, sm_clr_i, sm_clr_r, sm_clr_n, sm_clr_o, sm_clr_l, sm_rr_some, sm_rh_some, Option.toList_some, Option.toList_none, List.cons_append, List.nil_append, List.map_cons, List.map_nil, List.sum_cons, List.sum_nil, sm_cat_i, sm_cat_r, sm_cat_n, sm_cat_l, Nat.reduceAdd, Nat.reduceLeDiff, Nat.zero_add, Nat.add_zero, if_true, if_false, not_true_eq_false, not_false_eq_true, and_self, true_and, and_true, f1, hp, hle]
-- steps with a new name for the heap
theorem wf_0 (H : pt_at h i P) (x : Int32) : ∃ h', sm_fset h i 0 (.int x) = h' ∧ pt_at h' i (pt_setc P x) ∧ hp_fr h h' i := ⟨_, (pt_fset0 H x).1, (pt_fset0 H x).2, hp_fr_set (by omega)⟩
theorem wf_1 (H : pt_at h i P) (x : Int32) : ∃ h', sm_fset h i 1 (.int x) = h' ∧ pt_at h' i (pt_setp P x) ∧ hp_fr h h' i := ⟨_, (pt_fset1 H x).1, (pt_fset1 H x).2, hp_fr_set (by omega)⟩
theorem wf_2 (H : pt_at h i P) (x : Int32) : ∃ h', sm_fset h i 2 (.int x) = h' ∧ pt_at h' i (pt_sets P x) ∧ hp_fr h h' i := ⟨_, (pt_fset2 H x).1, (pt_fset2 H x).2, hp_fr_set (by omega)⟩
theorem wl_1 (H : pt_at h i P) (hl : (pt_sl P).length = 9) (v : Int32) : ∃ h', sm_call xs n_J7_fill_53178 [.ref (i + 1), .int v] h = some (none, h') ∧ pt_at h' i (pt_setsl P (List.replicate 9 v)) ∧ hp_fr h h' i := ⟨_, c_fill H.2.1 (by omega), by rw [hl]; exact pt_aset1 H _, hp_fr_set (by omega)⟩
theorem wl_4 (H : pt_at h i P) (hl : (pt_pu P).length = 5) (v : Int32) : ∃ h', sm_call xs n_J7_fill_53178 [.ref (i + 4), .int v] h = some (none, h') ∧ pt_at h' i (pt_setpu P (List.replicate 5 v)) ∧ hp_fr h h' i := ⟨_, c_fill H.2.2.2.2.1 (by omega), by rw [hl]; exact pt_aset4 H _, hp_fr_set (by omega)⟩
theorem wl_5 (H : pt_at h i P) (hl : (pt_d P).length = 25) (v : Int32) : ∃ h', sm_call xs n_J7_fill_53178 [.ref (i + 5), .int v] h = some (none, h') ∧ pt_at h' i (pt_setd P (List.replicate 25 v)) ∧ hp_fr h h' i := ⟨_, c_fill H.2.2.2.2.2 (by omega), by rw [hl]; exact pt_aset5 H _, hp_fr_set (by omega)⟩
def pt_begin (P : PT) (v : Int32) : PT := (v, 0, pt_s P, List.replicate 9 2, List.replicate 9 0, pt_k P, List.replicate 5 0, List.replicate 25 0)
theorem w_begin (H : pt_at h i P) (K : pt_ok P n p) (v : Int32) : wr_P (sm_call xs n_X3_begin [.ref i, .int v] h) none h i (pt_begin P v) := by
  obtain ⟨hc, hp, hn, hp5, l1, l2, l3, l4, l5⟩ := K
  obtain ⟨kc, f0, f1, f2, f3, f4, f5, f6, f7⟩ := pt_fld H
  obtain ⟨h1, w1, H1, r1⟩ := wf_0 H v
  obtain ⟨kc1, b0, b1, b2, b3, b4, b5, b6, b7⟩ := pt_fld H1
  obtain ⟨h2, w2, H2, r2⟩ := wf_1 H1 0
  obtain ⟨kc2, d0, d1, d2, d3, d4, d5, d6, d7⟩ := pt_fld H2
  obtain ⟨h3, w3, H3, r3⟩ := wl_1 (xs := xs) H2 l1 2
  obtain ⟨kc3, a0, a1, a2, a3, a4, a5, a6, a7⟩ := pt_fld H3
  obtain ⟨h4, w4, H4, r4⟩ := w_clear (xs := xs) H3 l2
  obtain ⟨kc4, m0, m1, m2, m3, m4, m5, m6, m7⟩ := pt_fld H4
  obtain ⟨h5, w5, H5, r5⟩ := wl_4 (xs := xs) H4 l4 0
  obtain ⟨kc5, q0, q1, q2, q3, q4, q5, q6, q7⟩ := pt_fld H5
  obtain ⟨h6, w6, H6, r6⟩ := wl_5 (xs := xs) H5 l5 0
  refine ⟨h6, ?_, H6, hp_fr_tr (hp_fr_tr (hp_fr_tr (hp_fr_tr (hp_fr_tr r1 r2) r3) r4) r5) r6⟩
  rw [c0_X3_begin]
  simp only [s_X3_begin_0, s_X3_begin_1, s_X3_begin_2, s_X3_begin_5, s_X3_begin_6, s_X3_begin_7, s_X3_begin_10, s_X3_begin_11, s_X3_begin_14, s_X3_begin_15, s_X3_begin_18, s_X3_begin_19, s_X3_begin_22, s_X3_begin_23, s_X3_begin_26, s_X3_begin_27, s_X3_begin_30, s_X3_begin_31, s_X3_begin_34, s_X3_begin_35, s_X3_begin_38, Option.isSome_some, Option.getD_some, sm_clr_i, sm_clr_r, sm_clr_n, sm_clr_o, sm_clr_l, sm_rr_some, sm_rh_some, Option.toList_some, Option.toList_none, List.cons_append, List.nil_append, List.map_cons, List.map_nil, List.sum_cons, List.sum_nil, sm_cat_i, sm_cat_r, sm_cat_n, sm_cat_l, Nat.reduceAdd, Nat.reduceLeDiff, Nat.zero_add, Nat.add_zero, if_true, if_false, not_true_eq_false, not_false_eq_true, and_self, true_and, and_true, f0, w1, b1, w2, d3, w3, kc3, w4, m6, w5, q7, w6]
-- a patch elsewhere stays
theorem pt_stay {j : Nat} {Q : PT} {h' : HH} (H : pt_at h j Q) (r : hp_fr h h' i) (hd : j + 5 < i ∨ i + 5 < j) : pt_at h' j Q := by
  obtain ⟨h0, h1, h2, h3, h4, h5⟩ := H
  refine ⟨?_, ?_, ?_, ?_, ?_, ?_⟩
  · rw [r.2 _ (by omega)]; exact h0
  · rw [r.2 _ (by omega)]; exact h1
  · rw [r.2 _ (by omega)]; exact h2
  · rw [r.2 _ (by omega)]; exact h3
  · rw [r.2 _ (by omega)]; exact h4
  · rw [r.2 _ (by omega)]; exact h5
theorem cp_all {f g : List Int32} {k : Nat} (hf : f.length = k) (hg : g.length = k) : sm_cpy f g 0 0 k = f := by
  apply List.ext_getElem?
  intro j
  unfold sm_cpy
  rw [List.getElem?_mapIdx]
  by_cases hj : j < k
  · have e1 : g[j]? = some g[j] := List.getElem?_eq_getElem (by omega)
    have e2 : f[j]? = some f[j] := List.getElem?_eq_getElem (by omega)
    rw [e1]
    simp only [Option.map_some, Nat.zero_le, Nat.zero_add, true_and, hj, if_true, Nat.sub_zero]
    rw [List.getD_eq_getElem?_getD, e2]
    rfl
  · rw [List.getElem?_eq_none (by omega), List.getElem?_eq_none (by omega)]
    rfl
theorem cp_ok {f g : List Int32} {v : Int32} {k : Nat} (hv : v = nI k) (hk : k < 2 ^ 31) (hf : f.length = k) (hg : g.length = k) : sm_cpo (some f) (some g) 0 0 v = true := by
  subst hv
  unfold sm_cpo
  apply decide_eq_true
  refine ⟨by decide, by decide, nI_pos hk, ?_, ?_⟩
  · rw [nI_clamp hk, show (0 : Int32).toNatClampNeg = 0 from rfl]; omega
  · rw [nI_clamp hk, show (0 : Int32).toNatClampNeg = 0 from rfl]; omega
theorem t_0 : (0 : Int32).toNatClampNeg = 0 := rfl
theorem t_9 : (9 : Int32).toNatClampNeg = 9 := rfl
theorem t_5 : (5 : Int32).toNatClampNeg = 5 := rfl
theorem t_25 : (25 : Int32).toNatClampNeg = 25 := rfl
theorem wa_1 (H : pt_at h i P) (l : List Int32) : ∃ h', h.set (i + 1) (.inl (.int, l)) = h' ∧ pt_at h' i (pt_setsl P l) ∧ hp_fr h h' i := ⟨_, rfl, pt_aset1 H l, hp_fr_set (by omega)⟩
theorem wa_2 (H : pt_at h i P) (l : List Int32) : ∃ h', h.set (i + 2) (.inl (.int, l)) = h' ∧ pt_at h' i (pt_setw P l) ∧ hp_fr h h' i := ⟨_, rfl, pt_aset2 H l, hp_fr_set (by omega)⟩
theorem wa_3 (H : pt_at h i P) (l : List Int32) : ∃ h', h.set (i + 3) (.inl (.int, l)) = h' ∧ pt_at h' i (pt_setk P l) ∧ hp_fr h h' i := ⟨_, rfl, pt_aset3 H l, hp_fr_set (by omega)⟩
theorem wa_4 (H : pt_at h i P) (l : List Int32) : ∃ h', h.set (i + 4) (.inl (.int, l)) = h' ∧ pt_at h' i (pt_setpu P l) ∧ hp_fr h h' i := ⟨_, rfl, pt_aset4 H l, hp_fr_set (by omega)⟩
theorem wa_5 (H : pt_at h i P) (l : List Int32) : ∃ h', h.set (i + 5) (.inl (.int, l)) = h' ∧ pt_at h' i (pt_setd P l) ∧ hp_fr h h' i := ⟨_, rfl, pt_aset5 H l, hp_fr_set (by omega)⟩
def pt_len (P : PT) : Prop := (pt_sl P).length = 9 ∧ (pt_w P).length = 9 ∧ (pt_k P).length = 5 ∧ (pt_pu P).length = 5 ∧ (pt_d P).length = 25
theorem w_become {j : Nat} {Q : PT} (H : pt_at h i P) (G : pt_at h j Q) (hd : j + 5 < i ∨ i + 5 < j) (LP : pt_len P) (LQ : pt_len Q) : wr_P (sm_call xs n_X3_become [.ref i, .ref j] h) none h i Q := by
  obtain ⟨l1, l2, l3, l4, l5⟩ := LP
  obtain ⟨o1, o2, o3, o4, o5⟩ := LQ
  obtain ⟨kc, f0, f1, f2, f3, f4, f5, f6, f7⟩ := pt_fld H
  obtain ⟨-, u0, -⟩ := pt_fld G
  obtain ⟨h1, w1, H1, r1⟩ := wf_0 H (pt_c Q)
  have G1 := pt_stay G r1 hd
  obtain ⟨-, -, b1, -⟩ := pt_fld H1
  obtain ⟨-, -, u1, -⟩ := pt_fld G1
  obtain ⟨h2, w2, H2, r2⟩ := wf_1 H1 (pt_p Q)
  have G2 := pt_stay G1 r2 hd
  obtain ⟨-, -, -, d2, -⟩ := pt_fld H2
  obtain ⟨-, -, -, u2, -⟩ := pt_fld G2
  obtain ⟨h3, w3, H3, r3⟩ := wf_2 H2 (pt_s Q)
  have G3 := pt_stay G2 r3 hd
  obtain ⟨-, -, -, -, a3, -⟩ := pt_fld H3
  obtain ⟨-, -, -, -, u3, -⟩ := pt_fld G3
  obtain ⟨p3, -⟩ := pt_arr H3
  obtain ⟨v3, -⟩ := pt_arr G3
  have k3 := cp_ok (v := 9) (k := 9) rfl (by omega) o1 (show (pt_sl (pt_sets (pt_setp (pt_setc P (pt_c Q)) (pt_p Q)) (pt_s Q))).length = 9 from l1)
  have z3 := cp_all (k := 9) o1 (show (pt_sl (pt_sets (pt_setp (pt_setc P (pt_c Q)) (pt_p Q)) (pt_s Q))).length = 9 from l1)
  obtain ⟨h4, w4, H4, r4⟩ := wa_1 H3 (pt_sl Q)
  have G4 := pt_stay G3 r4 hd
  obtain ⟨-, -, -, -, -, a4, -⟩ := pt_fld H4
  obtain ⟨-, -, -, -, -, u4, -⟩ := pt_fld G4
  obtain ⟨-, p4, -⟩ := pt_arr H4
  obtain ⟨-, v4, -⟩ := pt_arr G4
  have k4 := cp_ok (v := 9) (k := 9) rfl (by omega) o2 (show (pt_w (pt_setsl (pt_sets (pt_setp (pt_setc P (pt_c Q)) (pt_p Q)) (pt_s Q)) (pt_sl Q))).length = 9 from l2)
  have z4 := cp_all (k := 9) o2 (show (pt_w (pt_setsl (pt_sets (pt_setp (pt_setc P (pt_c Q)) (pt_p Q)) (pt_s Q)) (pt_sl Q))).length = 9 from l2)
  obtain ⟨h5, w5, H5, r5⟩ := wa_2 H4 (pt_w Q)
  have G5 := pt_stay G4 r5 hd
  obtain ⟨-, -, -, -, -, -, a5, -⟩ := pt_fld H5
  obtain ⟨-, -, -, -, -, -, u5, -⟩ := pt_fld G5
  obtain ⟨-, -, p5, -⟩ := pt_arr H5
  obtain ⟨-, -, v5, -⟩ := pt_arr G5
  have k5 := cp_ok (v := 5) (k := 5) rfl (by omega) o3 (show (pt_k (pt_setw (pt_setsl (pt_sets (pt_setp (pt_setc P (pt_c Q)) (pt_p Q)) (pt_s Q)) (pt_sl Q)) (pt_w Q))).length = 5 from l3)
  have z5 := cp_all (k := 5) o3 (show (pt_k (pt_setw (pt_setsl (pt_sets (pt_setp (pt_setc P (pt_c Q)) (pt_p Q)) (pt_s Q)) (pt_sl Q)) (pt_w Q))).length = 5 from l3)
  obtain ⟨h6, w6, H6, r6⟩ := wa_3 H5 (pt_k Q)
  have G6 := pt_stay G5 r6 hd
  obtain ⟨-, -, -, -, -, -, -, a6, -⟩ := pt_fld H6
  obtain ⟨-, -, -, -, -, -, -, u6, -⟩ := pt_fld G6
  obtain ⟨-, -, -, p6, -⟩ := pt_arr H6
  obtain ⟨-, -, -, v6, -⟩ := pt_arr G6
  have k6 := cp_ok (v := 5) (k := 5) rfl (by omega) o4 (show (pt_pu (pt_setk (pt_setw (pt_setsl (pt_sets (pt_setp (pt_setc P (pt_c Q)) (pt_p Q)) (pt_s Q)) (pt_sl Q)) (pt_w Q)) (pt_k Q))).length = 5 from l4)
  have z6 := cp_all (k := 5) o4 (show (pt_pu (pt_setk (pt_setw (pt_setsl (pt_sets (pt_setp (pt_setc P (pt_c Q)) (pt_p Q)) (pt_s Q)) (pt_sl Q)) (pt_w Q)) (pt_k Q))).length = 5 from l4)
  obtain ⟨h7, w7, H7, r7⟩ := wa_4 H6 (pt_pu Q)
  have G7 := pt_stay G6 r7 hd
  obtain ⟨-, -, -, -, -, -, -, -, a7⟩ := pt_fld H7
  obtain ⟨-, -, -, -, -, -, -, -, u7⟩ := pt_fld G7
  obtain ⟨-, -, -, -, p7⟩ := pt_arr H7
  obtain ⟨-, -, -, -, v7⟩ := pt_arr G7
  have k7 := cp_ok (v := 25) (k := 25) rfl (by omega) o5 (show (pt_d (pt_setpu (pt_setk (pt_setw (pt_setsl (pt_sets (pt_setp (pt_setc P (pt_c Q)) (pt_p Q)) (pt_s Q)) (pt_sl Q)) (pt_w Q)) (pt_k Q)) (pt_pu Q))).length = 25 from l5)
  have z7 := cp_all (k := 25) o5 (show (pt_d (pt_setpu (pt_setk (pt_setw (pt_setsl (pt_sets (pt_setp (pt_setc P (pt_c Q)) (pt_p Q)) (pt_s Q)) (pt_sl Q)) (pt_w Q)) (pt_k Q)) (pt_pu Q))).length = 25 from l5)
  obtain ⟨h8, w8, H8, r8⟩ := wa_5 H7 (pt_d Q)
  refine ⟨h8, ?_, H8, hp_fr_tr (hp_fr_tr (hp_fr_tr (hp_fr_tr (hp_fr_tr (hp_fr_tr (hp_fr_tr r1 r2) r3) r4) r5) r6) r7) r8⟩
  rw [c0_X3_become]
  simp only [s_X3_become_0, s_X3_become_1, s_X3_become_2, s_X3_become_5, s_X3_become_8, s_X3_become_9, s_X3_become_10, s_X3_become_13, s_X3_become_16, s_X3_become_17, s_X3_become_18, s_X3_become_21, s_X3_become_24, s_X3_become_25, s_X3_become_28, s_X3_become_29, s_X3_become_30, s_X3_become_33, s_X3_become_34, s_X3_become_36, s_X3_become_39, s_X3_become_40, s_X3_become_43, s_X3_become_44, s_X3_become_45, s_X3_become_48, s_X3_become_49, s_X3_become_51, s_X3_become_54, s_X3_become_55, s_X3_become_58, s_X3_become_59, s_X3_become_60, s_X3_become_63, s_X3_become_64, s_X3_become_65, s_X3_become_68, s_X3_become_69, s_X3_become_72, s_X3_become_73, s_X3_become_74, s_X3_become_77, s_X3_become_78, s_X3_become_79, s_X3_become_82, s_X3_become_83, s_X3_become_86, s_X3_become_87, s_X3_become_88, s_X3_become_91, s_X3_become_92, s_X3_become_94, s_X3_become_97, Option.isSome_some, Option.getD_some, sm_clr_i, sm_clr_r, sm_clr_n, sm_clr_o, sm_clr_l, sm_rr_some, sm_rh_some, Option.toList_some, Option.toList_none, List.cons_append, List.nil_append, List.map_cons, List.map_nil, List.sum_cons, List.sum_nil, sm_cat_i, sm_cat_r, sm_cat_n, sm_cat_l, Nat.reduceAdd, Nat.reduceLeDiff, Nat.zero_add, Nat.add_zero, if_true, if_false, not_true_eq_false, not_false_eq_true, and_self, true_and, and_true, f0, u0, w1, b1, u1, w2, d2, u2, w3, a3, u3, p3, v3, k3, t_0, t_9, t_5, t_25, z3, w4, a4, u4, p4, v4, k4, z4, w5, a5, u5, p5, v5, k5, z5, w6, a6, u6, p6, v6, k6, z6, w7, a7, u7, p7, v7, k7, z7, w8]
end PATCHX

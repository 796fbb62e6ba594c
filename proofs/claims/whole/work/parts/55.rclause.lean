abbrev PR : Type := Nat ⊕ (Nat × Int32 × Int32 × Int32 × Int32)
def ps_3 (t : Nat → Int32) (len e : Nat) (ce pl v x1 x2 : Int32) : PR := if nx t len e < lo_F v 2 ∨ hg_F ce pl v 2 < nx t len e then .inl (tA t len e) else .inr (tE t len e, v, x1, x2, nx t len e)
def ps_2 (t : Nat → Int32) (len e : Nat) (ce pl v x1 : Int32) : PR := if (nx t len e < lo_F v 1 ∨ hg_F ce pl v 1 < nx t len e) ∨ (v = 7 ∧ nx t len e = x1) then .inl (tA t len e) else if nb_F v = 2 then .inr (tE t len e, v, x1, nx t len e, 0) else ps_3 t len (tE t len e) ce pl v x1 (nx t len e)
def ps_1 (t : Nat → Int32) (len e : Nat) (ce pl v : Int32) : PR := if nx t len e < lo_F v 0 ∨ hg_F ce pl v 0 < nx t len e then .inl (tA t len e) else if nb_F v = 1 then .inr (tE t len e, v, nx t len e, 0, 0) else ps_2 t len (tE t len e) ce pl v (nx t len e)
def vb_F (t : Nat → Int32) (len k : Nat) : Int32 := vh_F (ls 160 t) (tA t len k) (tE t len k) 9 0
/-- a clause read from k on: its fault, or its end, its verb and its numbers -/
def ps_F (t : Nat → Int32) (len k : Nat) (ce pl : Int32) : PR := if vb_F t len k = -1 then .inl (tA t len k) else if rg_B 3 6 (vb_F t len k) = true ∧ ¬ pl < 5 then .inl (tA t len k) else if vb_F t len k = 8 then .inr (tE t len k, 8, 0, 0, 0) else ps_1 t len (tE t len k) ce pl (vb_F t len k)
theorem nb_cases (v : Int32) : (nb_F v = 0 ∧ v = 8) ∨ (nb_F v = 1 ∧ v ≠ 1 ∧ v ≠ 2 ∧ v ≠ 7 ∧ v ≠ 8) ∨ (nb_F v = 2 ∧ (v = 1 ∨ v = 2)) ∨ (nb_F v = 3 ∧ v = 7) := by
  unfold nb_F
  by_cases v1 : v = 1
  · rw [if_pos v1]; exact Or.inr (Or.inr (Or.inl ⟨rfl, Or.inl v1⟩))
  · rw [if_neg v1]
    by_cases v2 : v = 2
    · rw [if_pos v2]; exact Or.inr (Or.inr (Or.inl ⟨rfl, Or.inr v2⟩))
    · rw [if_neg v2]
      by_cases v7 : v = 7
      · rw [if_pos v7]; exact Or.inr (Or.inr (Or.inr ⟨rfl, v7⟩))
      · rw [if_neg v7]
        by_cases v8 : v = 8
        · rw [if_pos v8]; exact Or.inl ⟨rfl, v8⟩
        · rw [if_neg v8]; exact Or.inr (Or.inl ⟨rfl, v1, v2, v7, v8⟩)
theorem te_1 (F : PF) {v : Int32} (h : v ≠ 1 ∧ v ≠ 2 ∧ v ≠ 7 ∧ v ≠ 8) (a b c b' c' : Int32) : te_T F v a b c = te_T F v a b' c' := by
  simp only [te_T, h.1, h.2.1, h.2.2.1, h.2.2.2, if_false]
theorem te_2 (F : PF) {v : Int32} (h : v = 1 ∨ v = 2) (a b c c' : Int32) : te_T F v a b c = te_T F v a b c' := by
  rcases h with rfl | rfl <;> rfl
theorem te_8 (F : PF) (a b c a' b' c' : Int32) : te_T F 8 a b c = te_T F 8 a' b' c' := by
  have h : ∀ a b c, te_T F 8 a b c = pf_setd F (fun _ => 0) := by
    intro a b c
    unfold te_T
    rw [if_neg (by decide), if_neg (by decide), if_neg (by decide), if_neg (by decide), if_pos rfl]
  rw [h, h]
/-- only the reading of the text has gone on -/
def frX (S S' : GS) : Prop := gT S' = gT S ∧ gQ S' = gQ S ∧ gI S' = gI S ∧ gA S' = gA S ∧ (∀ k, k < 5 ∨ 8 < k → gN S' k = gN S k) ∧ (∀ k, k ≠ 3 → k ≠ 4 → gR S' k = gR S k)
theorem frX_rf (S : GS) : frX S S := ⟨rfl, rfl, rfl, rfl, fun _ _ => rfl, fun _ _ _ => rfl⟩
theorem frX_tr {S S' S'' : GS} (h : frX S S') (k : frX S' S'') : frX S S'' := ⟨k.1.trans h.1, k.2.1.trans h.2.1, k.2.2.1.trans h.2.2.1, k.2.2.2.1.trans h.2.2.2.1, fun j hj => (k.2.2.2.2.1 j hj).trans (h.2.2.2.2.1 j hj), fun j a b => (k.2.2.2.2.2 j a b).trans (h.2.2.2.2.2 j a b)⟩
theorem frX_N (S : GS) {k : Nat} (x : Int32) (hk : 5 ≤ k ∧ k ≤ 8) : frX S (sN S k x) := ⟨rfl, rfl, rfl, rfl, fun j hj => fu_n (by omega), fun _ _ _ => rfl⟩
theorem frX_R (S : GS) {k : Nat} (x : Nat → Int32) (hk : k = 3 ∨ k = 4) : frX S (sR S k x) := ⟨rfl, rfl, rfl, rfl, fun _ _ => rfl, fun j a b => fu_n (by omega)⟩
theorem frX_s1 (S : GS) (len e : Nat) : frX S (s1 S len e) := frX_tr (frX_N S _ (by omega)) (frX_N _ _ (by omega))
def RP (S S' : GS) (j : Nat) (b : Bool) (r : PR) : Prop := match r with
  | .inl f => b = false ∧ gN S' 5 = nI f
  | .inr q => b = true ∧ gN S' 6 = nI q.1 ∧ gR S' 3 = gR S 3 ∧ (∀ i, i < j * 3 → gR S' 4 i = gR S 4 i) ∧ (∀ F, te_T F q.2.1 (gR S' 4 (j * 3)) (gR S' 4 (j * 3 + 1)) (gR S' 4 (j * 3 + 2)) = te_T F q.2.1 q.2.2.1 q.2.2.2.1 q.2.2.2.2) ∧ (q.2.1 = 0 → gR S' 4 (j * 3) = q.2.2.1) ∧ gN S' 7 = ce_F (gN S 7) q.2.1 q.2.2.1 ∧ gN S' 8 = pl_F (gN S 8) q.2.1
section RD
variable {xs : List Int32} {S : GS} {len e j : Nat}
abbrev rcL (j : Nat) (v : Int32) (i : Nat) (l5 l6 : Option Value) : LL := [some (.ref 36), some (.int (nI j)), some (.int v), some (.int (nI (j * 3))), some (.int (nI i)), l5, l6]
/-- the end of a clause that stands -/
def en_S (S : GS) (j : Nat) (v : Int32) : GS := if v = 0 then sN (sN S 7 (gR S 4 (j * 3))) 8 0 else if rg_B 3 6 v then sN S 8 (gN S 8 + 1) else S
theorem en_fr (S : GS) (j : Nat) (v : Int32) : frX S (en_S S j v) ∧ gN (en_S S j v) 6 = gN S 6 ∧ gR (en_S S j v) = gR S ∧ gN (en_S S j v) 7 = ce_F (gN S 7) v (gR S 4 (j * 3)) ∧ gN (en_S S j v) 8 = pl_F (gN S 8) v := by
  unfold en_S ce_F pl_F
  by_cases v0 : v = 0
  · rw [if_pos v0, if_pos v0, if_pos v0]
    exact ⟨frX_tr (frX_N S _ (by omega)) (frX_N _ _ (by omega)), rfl, rfl, rfl, rfl⟩
  · rw [if_neg v0, if_neg v0, if_neg v0]
    cases rg_B 3 6 v with
    | true => exact ⟨frX_N S _ (by omega), rfl, rfl, rfl, rfl⟩
    | false => exact ⟨frX_rf S, rfl, rfl, rfl, rfl⟩
theorem ok_eq (S : GS) (len e j i : Nat) (v : Int32) : ok_B S len e j i v = true ↔ ¬ ((nx (gR S 2) len e < lo_F v (nI i) ∨ hg_F (gN S 7) (gN S 8) v (nI i) < nx (gR S 2) len e) ∨ (v = 7 ∧ i = 1 ∧ nx (gR S 2) len e = gR S 4 (j * 3))) := by
  unfold ok_B hm_B
  rw [Bool.and_eq_true, Bool.and_eq_true, Bool.not_eq_true', Bool.not_eq_true', Bool.not_eq_true', decide_eq_false_iff_not, decide_eq_false_iff_not, decide_eq_false_iff_not, not_or, not_or]
/-- the state behind a number that stands -/
def s2 (S : GS) (len e j i : Nat) : GS := sR (s1 S len e) 4 (fu (gR S 4) (j * 3 + i) (nx (gR S 2) len e))
theorem s2_fr (S : GS) (len e j i : Nat) : frX S (s2 S len e j i) ∧ gN (s2 S len e j i) 6 = nI (tE (gR S 2) len e) ∧ gN (s2 S len e j i) 3 = gN S 3 ∧ gN (s2 S len e j i) 7 = gN S 7 ∧ gN (s2 S len e j i) 8 = gN S 8 ∧ gR (s2 S len e j i) 2 = gR S 2 ∧ gR (s2 S len e j i) 3 = gR S 3 ∧ gR (s2 S len e j i) 4 = fu (gR S 4) (j * 3 + i) (nx (gR S 2) len e) := ⟨frX_tr (frX_s1 S len e) (frX_R _ _ (by omega)), rfl, rfl, rfl, rfl, rfl, rfl, rfl⟩
theorem rc_st3 {x1 x2 : Int32} {l5 l6 : Option Value} (hl : gN S 3 = nI len) (h160 : len ≤ 160) (he : gN S 6 = nI e) (hel : e ≤ len) (hj : j < 14) (h1 : gR S 4 (j * 3) = x1) (h2 : gR S 4 (j * 3 + 1) = x2) : ∃ S' b, sm_run xs n_X7_readClause 45 (rcL j 7 2 l5 l6) [] (hp S) = some (some (.int (b2i b)), hp S') ∧ frX S S' ∧ RP S S' j b (ps_3 (gR S 2) len e (gN S 7) (gN S 8) 7 x1 x2) := by
  have hiff := ok_eq S len e j 2 7
  cases hb : ok_B S len e j 2 7 with
  | false =>
    rw [hb] at hiff
    have hc : nx (gR S 2) len e < lo_F 7 2 ∨ hg_F (gN S 7) (gN S 8) 7 2 < nx (gR S 2) len e := by
      have h3 : ¬ ¬ ((nx (gR S 2) len e < lo_F 7 2 ∨ hg_F (gN S 7) (gN S 8) 7 2 < nx (gR S 2) len e) ∨ ((7 : Int32) = 7 ∧ 2 = 1 ∧ nx (gR S 2) len e = gR S 4 (j * 3))) := fun q => absurd (hiff.mpr q) (by decide)
      exact (Decidable.not_not.mp h3).resolve_right (fun q => absurd q.2.1 (by decide))
    unfold ps_3
    rw [if_pos hc]
    exact ⟨s1 S len e, false, rc_no hl h160 he hel hj (by omega) (by decide) hb, frX_s1 S len e, rfl, rfl⟩
  | true =>
    have hc := hiff.mp hb
    have hc' : ¬ (nx (gR S 2) len e < lo_F 7 2 ∨ hg_F (gN S 7) (gN S 8) 7 2 < nx (gR S 2) len e) := fun q => hc (Or.inl q)
    unfold ps_3
    rw [if_neg hc']
    obtain ⟨f2, n6, n3, n7, n8, r2, r3, r4⟩ := s2_fr S len e j 2
    obtain ⟨g1, g6, gR', g7, g8⟩ := en_fr (s2 S len e j 2) j 7
    have hrun := rc_ok (xs := xs) (l5 := l5) (l6 := l6) hl h160 he hel hj (i := 2) (by omega) (by decide) hb
    have hend := rc_end (xs := xs) (S := s2 S len e j 2) (l5 := some (.int (nx (gR S 2) len e))) (l6 := some (.int 0)) (v := 7) (i := nI (2 + 1)) hj (by decide)
    have w1 : gR (s2 S len e j 2) 4 (j * 3) = x1 := by rw [r4, fu_n (by omega), h1]
    have w2 : gR (s2 S len e j 2) 4 (j * 3 + 1) = x2 := by rw [r4, fu_n (by omega), h2]
    have w3 : gR (s2 S len e j 2) 4 (j * 3 + 2) = nx (gR S 2) len e := by rw [r4, fu_s]
    refine ⟨en_S (s2 S len e j 2) j 7, true, hrun.trans hend, frX_tr f2 g1, rfl, ?_, ?_, ?_, ?_, ?_, ?_, ?_⟩
    · rw [g6, n6]
    · rw [gR', r3]
    · intro i hi; rw [gR', r4, fu_n (by omega)]
    · intro F; dsimp only; rw [gR', w1, w2, w3]
    · intro q; exact absurd q (show ¬ (7 : Int32) = 0 by decide)
    · dsimp only; rw [g7, n7, w1]
    · dsimp only; rw [g8, n8]
theorem rc_st2 {v x1 : Int32} {l5 l6 : Option Value} (hl : gN S 3 = nI len) (h160 : len ≤ 160) (he : gN S 6 = nI e) (hel : e ≤ len) (hj : j < 14) (h1 : gR S 4 (j * 3) = x1) (hv : nb_F v = 2 ∧ (v = 1 ∨ v = 2) ∨ nb_F v = 3 ∧ v = 7) : ∃ S' b, sm_run xs n_X7_readClause 45 (rcL j v 1 l5 l6) [] (hp S) = some (some (.int (b2i b)), hp S') ∧ frX S S' ∧ RP S S' j b (ps_2 (gR S 2) len e (gN S 7) (gN S 8) v x1) := by
  have hiff := ok_eq S len e j 1 v
  have hnb : ¬ nb_F v ≤ nI 1 := by rcases hv with h | h <;> rw [h.1] <;> decide
  cases hb : ok_B S len e j 1 v with
  | false =>
    rw [hb] at hiff
    have hc : (nx (gR S 2) len e < lo_F v 1 ∨ hg_F (gN S 7) (gN S 8) v 1 < nx (gR S 2) len e) ∨ (v = 7 ∧ nx (gR S 2) len e = x1) := by
      have h3 : ¬ ¬ ((nx (gR S 2) len e < lo_F v 1 ∨ hg_F (gN S 7) (gN S 8) v 1 < nx (gR S 2) len e) ∨ (v = 7 ∧ 1 = 1 ∧ nx (gR S 2) len e = gR S 4 (j * 3))) := fun q => absurd (hiff.mpr q) (by decide)
      exact (Decidable.not_not.mp h3).imp id (fun q => ⟨q.1, q.2.2.trans h1⟩)
    unfold ps_2
    rw [if_pos hc]
    exact ⟨s1 S len e, false, rc_no hl h160 he hel hj (by omega) hnb hb, frX_s1 S len e, rfl, rfl⟩
  | true =>
    have hc := hiff.mp hb
    have hrun := rc_ok (xs := xs) (l5 := l5) (l6 := l6) hl h160 he hel hj (i := 1) (by omega) hnb hb
    obtain ⟨f2, n6, n3, n7, n8, r2, r3, r4⟩ := s2_fr S len e j 1
    have hE := tE_le (gR S 2) hel
    have w1 : gR (s2 S len e j 1) 4 (j * 3) = x1 := by rw [r4, fu_n (by omega), h1]
    have w2 : gR (s2 S len e j 1) 4 (j * 3 + 1) = nx (gR S 2) len e := by rw [r4, fu_s]
    unfold ps_2
    rw [if_neg (fun q => hc (q.imp id (fun z => ⟨z.1, rfl, z.2.trans h1.symm⟩)))]
    rcases hv with hv | hv
    · rw [if_pos hv.1]
      obtain ⟨g1, g6, gR', g7, g8⟩ := en_fr (s2 S len e j 1) j v
      have hend := rc_end (xs := xs) (S := s2 S len e j 1) (l5 := some (.int (nx (gR S 2) len e))) (l6 := some (.int 0)) (v := v) (i := nI (1 + 1)) hj (by rw [hv.1]; decide)
      refine ⟨en_S (s2 S len e j 1) j v, true, hrun.trans hend, frX_tr f2 g1, rfl, ?_, ?_, ?_, ?_, ?_, ?_, ?_⟩
      · rw [g6, n6]
      · rw [gR', r3]
      · intro i hi; rw [gR', r4, fu_n (by omega)]
      · intro F; dsimp only; rw [gR', w1, w2]; exact te_2 F hv.2 _ _ _ _
      · intro _; dsimp only; rw [gR', w1]
      · dsimp only; rw [g7, n7, w1]
      · dsimp only; rw [g8, n8]
    · rw [if_neg (by rw [hv.1]; decide)]
      obtain ⟨S', b, e1, f1, P1⟩ := rc_st3 (xs := xs) (S := s2 S len e j 1) (e := tE (gR S 2) len e) (l5 := some (.int (nx (gR S 2) len e))) (l6 := some (.int 0)) (n3.trans hl) h160 n6 hE.2.1 hj w1 w2
      rw [r2, n7, n8] at P1
      rw [hv.2] at hrun ⊢
      refine ⟨S', b, hrun.trans e1, frX_tr f2 f1, ?_⟩
      generalize ps_3 (gR S 2) len (tE (gR S 2) len e) (gN S 7) (gN S 8) 7 x1 (nx (gR S 2) len e) = r at P1
      cases r with
      | inl f => exact P1
      | inr q =>
        obtain ⟨p1, p2, p3, p4, p5, p6, p7, p8⟩ := P1
        exact ⟨p1, p2, p3.trans r3, fun i hi => (p4 i hi).trans (by rw [r4, fu_n (by omega)]), p5, p6, by rw [p7, n7], by rw [p8, n8]⟩
theorem rc_st1 {v : Int32} {l5 l6 : Option Value} (hl : gN S 3 = nI len) (h160 : len ≤ 160) (he : gN S 6 = nI e) (hel : e ≤ len) (hj : j < 14) (hv8 : ¬ v = 8) : ∃ S' b, sm_run xs n_X7_readClause 45 (rcL j v 0 l5 l6) [] (hp S) = some (some (.int (b2i b)), hp S') ∧ frX S S' ∧ RP S S' j b (ps_1 (gR S 2) len e (gN S 7) (gN S 8) v) := by
  have hiff := ok_eq S len e j 0 v
  have hcs := (nb_cases v).resolve_left (fun q => hv8 q.2)
  have hnb : ¬ nb_F v ≤ nI 0 := by rcases hcs with h | h | h <;> rw [h.1] <;> decide
  cases hb : ok_B S len e j 0 v with
  | false =>
    rw [hb] at hiff
    have hc : nx (gR S 2) len e < lo_F v 0 ∨ hg_F (gN S 7) (gN S 8) v 0 < nx (gR S 2) len e := by
      have h3 : ¬ ¬ ((nx (gR S 2) len e < lo_F v 0 ∨ hg_F (gN S 7) (gN S 8) v 0 < nx (gR S 2) len e) ∨ (v = 7 ∧ 0 = 1 ∧ nx (gR S 2) len e = gR S 4 (j * 3))) := fun q => absurd (hiff.mpr q) (by decide)
      exact (Decidable.not_not.mp h3).resolve_right (fun q => absurd q.2.1 (by decide))
    unfold ps_1
    rw [if_pos hc]
    exact ⟨s1 S len e, false, rc_no hl h160 he hel hj (by omega) hnb hb, frX_s1 S len e, rfl, rfl⟩
  | true =>
    have hc := hiff.mp hb
    have hrun := rc_ok (xs := xs) (l5 := l5) (l6 := l6) hl h160 he hel hj (i := 0) (by omega) hnb hb
    obtain ⟨f2, n6, n3, n7, n8, r2, r3, r4⟩ := s2_fr S len e j 0
    have hE := tE_le (gR S 2) hel
    have w1 : gR (s2 S len e j 0) 4 (j * 3) = nx (gR S 2) len e := by rw [r4]; exact fu_s _ _ _
    have hc' : ¬ (nx (gR S 2) len e < lo_F v 0 ∨ hg_F (gN S 7) (gN S 8) v 0 < nx (gR S 2) len e) := fun q => hc (Or.inl q)
    unfold ps_1
    rw [if_neg hc']
    rcases hcs with hv | hv
    · rw [if_pos hv.1]
      obtain ⟨g1, g6, gR', g7, g8⟩ := en_fr (s2 S len e j 0) j v
      have hend := rc_end (xs := xs) (S := s2 S len e j 0) (l5 := some (.int (nx (gR S 2) len e))) (l6 := some (.int 0)) (v := v) (i := nI (0 + 1)) hj (by rw [hv.1]; decide)
      refine ⟨en_S (s2 S len e j 0) j v, true, hrun.trans hend, frX_tr f2 g1, rfl, ?_, ?_, ?_, ?_, ?_, ?_, ?_⟩
      · rw [g6, n6]
      · rw [gR', r3]
      · intro i hi; rw [gR', r4, fu_n (by omega)]
      · intro F; dsimp only; rw [gR', w1]; exact te_1 F hv.2 _ _ _ _ _
      · intro _; dsimp only; rw [gR', w1]
      · dsimp only; rw [g7, n7, w1]
      · dsimp only; rw [g8, n8]
    · rw [if_neg (by rcases hv with h | h <;> rw [h.1] <;> decide)]
      obtain ⟨S', b, e1, f1, P1⟩ := rc_st2 (xs := xs) (S := s2 S len e j 0) (e := tE (gR S 2) len e) (v := v) (l5 := some (.int (nx (gR S 2) len e))) (l6 := some (.int 0)) (n3.trans hl) h160 n6 hE.2.1 hj w1 hv
      rw [r2, n7, n8] at P1
      refine ⟨S', b, hrun.trans e1, frX_tr f2 f1, ?_⟩
      generalize ps_2 (gR S 2) len (tE (gR S 2) len e) (gN S 7) (gN S 8) v (nx (gR S 2) len e) = r at P1
      cases r with
      | inl f => exact P1
      | inr q =>
        obtain ⟨p1, p2, p3, p4, p5, p6, p7, p8⟩ := P1
        exact ⟨p1, p2, p3.trans r3, fun i hi => (p4 i hi).trans (by rw [r4, fu_n (by omega)]), p5, p6, by rw [p7, n7], by rw [p8, n8]⟩
/-- a clause: as RP, but the verb is written -/
def RQ (S S' : GS) (j : Nat) (b : Bool) (r : PR) : Prop := match r with
  | .inl f => b = false ∧ gN S' 5 = nI f
  | .inr q => b = true ∧ gN S' 6 = nI q.1 ∧ gR S' 3 = fu (gR S 3) j q.2.1 ∧ (∀ i, i < j * 3 → gR S' 4 i = gR S 4 i) ∧ (∀ F, te_T F q.2.1 (gR S' 4 (j * 3)) (gR S' 4 (j * 3 + 1)) (gR S' 4 (j * 3 + 2)) = te_T F q.2.1 q.2.2.1 q.2.2.2.1 q.2.2.2.2) ∧ (q.2.1 = 0 → gR S' 4 (j * 3) = q.2.2.1) ∧ gN S' 7 = ce_F (gN S 7) q.2.1 q.2.2.1 ∧ gN S' 8 = pl_F (gN S 8) q.2.1
theorem ps_v {t : Nat → Int32} {len e : Nat} {ce pl v : Int32} {q : Nat × Int32 × Int32 × Int32 × Int32} (h : ps_1 t len e ce pl v = .inr q) : q.2.1 = v := by
  unfold ps_1 ps_2 ps_3 at h
  split at h
  · cases h
  · split at h
    · cases h; rfl
    · split at h
      · cases h
      · split at h
        · cases h; rfl
        · split at h
          · cases h
          · cases h; rfl
theorem rc_call (hl : gN S 3 = nI len) (h160 : len ≤ 160) (he : gN S 6 = nI e) (hel : e ≤ len) (hj : j < 14) : ∃ S' b, sm_call xs n_X7_readClause [.ref 36, .int (nI j)] (hp S) = some (some (.int (b2i b)), hp S') ∧ frX S S' ∧ RQ S S' j b (ps_F (gR S 2) len e (gN S 7) (gN S 8)) := by
  have h1 := t_step (xs := xs) hl h160 he hel
  rw [show sN (sN S 5 (nI (tA (gR S 2) len e))) 6 (nI (tE (gR S 2) len e)) = s1 S len e from rfl] at h1
  have hE := tE_le (gR S 2) hel
  have n3 : gN (s1 S len e) 3 = nI len := hl
  have n8 : gN (s1 S len e) 8 = gN S 8 := rfl
  have h2 := t_verbHere (xs := xs) (S := s1 S len e) (len := len) (a := tA (gR S 2) len e) (e := tE (gR S 2) len e) n3 h160 rfl rfl hE.1 hE.2.1
  have h2 : sm_call xs n_X7_verbHere [.ref 36] (hp (s1 S len e)) = some (some (.int (vb_F (gR S 2) len e)), hp (s1 S len e)) := h2
  have h3 := c_isPl (xs := xs) (h := hp (s1 S len e)) (vb_F (gR S 2) len e)
  unfold ps_F
  rw [c0_X7_readClause]
  by_cases v1 : vb_F (gR S 2) len e = -1
  · rw [if_pos v1]
    refine ⟨s1 S len e, false, ?_, frX_s1 S len e, rfl, rfl⟩
    simp only [s_X7_readClause_0, s_X7_readClause_1, s_X7_readClause_4, s_X7_readClause_5, s_X7_readClause_8, s_X7_readClause_9, s_X7_readClause_10, s_X7_readClause_11, s_X7_readClause_14, s_X7_readClause_15, s_X7_readClause_18, s_X7_readClause_21, s_X7_readClause_22, s_X7_readClause_25, s_X7_readClause_26, s_X7_readClause_29, s_X7_readClause_30z0, s_X7_readClause_30z1, s_X7_readClause_31, s_X7_readClause_32, s_X7_readClause_35, s_X7_readClause_36, s_X7_readClause_37, s_X7_readClause_38, s_X7_readClause_39, s_X7_readClause_40, s_X7_readClause_41, s_X7_readClause_42, s_X7_readClause_43, s_X7_readClause_47, s_X7_readClause_48, s_X7_readClause_51, s_X7_readClause_54, s_X7_readClause_55, s_X7_readClause_58, s_X7_readClause_59, s_X7_readClause_62, s_X7_readClause_64, s_X7_readClause_65, s_X7_readClause_67, s_X7_readClause_70, s_X7_readClause_72, s_X7_readClause_73, s_X7_readClause_76, s_X7_readClause_78, s_X7_readClause_79, s_X7_readClause_82, s_X7_readClause_83, s_X7_readClause_84, s_X7_readClause_87, s_X7_readClause_88, s_X7_readClause_91, s_X7_readClause_92, s_X7_readClause_94, s_X7_readClause_96, s_X7_readClause_97, s_X7_readClause_99, s_X7_readClause_102, s_X7_readClause_105, s_X7_readClause_107, s_X7_readClause_108, s_X7_readClause_109, s_X7_readClause_111, s_X7_readClause_114, s_X7_readClause_117, s_X7_readClause_119, s_X7_readClause_122, s_X7_readClause_123z0, s_X7_readClause_123z1, s_X7_readClause_124, s_X7_readClause_125, s_X7_readClause_128, s_X7_readClause_129, s_X7_readClause_131, s_X7_readClause_132, s_X7_readClause_134, s_X7_readClause_135, s_X7_readClause_138, s_X7_readClause_141, s_X7_readClause_142, s_X7_readClause_145, s_X7_readClause_146, s_X7_readClause_147, s_X7_readClause_150, s_X7_readClause_151, s_X7_readClause_152, s_X7_readClause_155, s_X7_readClause_156, s_X7_readClause_157, s_X7_readClause_160, s_X7_readClause_163, s_X7_readClause_164, s_X7_readClause_167, s_X7_readClause_170, s_X7_readClause_171, s_X7_readClause_171i, s_X7_readClause_172, s_X7_readClause_175, s_X7_readClause_176, s_X7_readClause_177, s_X7_readClause_180, s_X7_readClause_181z0, s_X7_readClause_181z1, Option.isSome_some, Option.getD_some, sm_clr_i, sm_clr_r, sm_clr_n, sm_clr_o, sm_clr_l, sm_rr_some, sm_rh_some, Option.toList_some, Option.toList_none, List.cons_append, List.nil_append, List.map_cons, List.map_nil, List.sum_cons, List.sum_nil, sm_cat_i, sm_cat_r, sm_cat_n, sm_cat_l, Nat.reduceAdd, Nat.reduceLeDiff, Nat.zero_add, Nat.add_zero, if_true, if_false, not_true_eq_false, not_false_eq_true, and_self, true_and, and_true, hf_0_0, hf_0_1, hf_0_2, hf_0_3, hf_0_4, hf_0_5, hf_0_6, hf_0_7, hf_0_8, hf_0_9, hf_0_10, hf_0_11, hf_0_12, hf_0_13, hf_0_14, hf_31_0, hf_31_1, hf_31_2, hf_33_0, hf_33_1, hf_33_2, hf_36_0, hf_36_1, hf_36_2, hf_36_3, hf_36_4, hf_36_5, hf_36_6, hf_36_7, hf_36_8, hc_0, hc_31, hc_33, hc_36, hc_40, hc_41, hc_42, hc_43, hc_45, ha_34, ha_35, ha_37, ha_38, ha_39, ha_44, hw_31_0, hw_31_1, hw_33_0, hw_36_0, hw_36_1, hw_36_5, hw_36_6, hw_36_7, hw_36_8, hw_0_4, hw_0_5, hs_34, hs_35, hs_38, hs_39, hs_44, h1, h2, v1]
    rfl
  · rw [if_neg v1]
    by_cases v2 : rg_B 3 6 (vb_F (gR S 2) len e) = true ∧ ¬ gN S 8 < 5
    · rw [if_pos v2]
      rw [v2.1, b2i_t] at h3
      refine ⟨s1 S len e, false, ?_, frX_s1 S len e, rfl, rfl⟩
      simp only [s_X7_readClause_0, s_X7_readClause_1, s_X7_readClause_4, s_X7_readClause_5, s_X7_readClause_8, s_X7_readClause_9, s_X7_readClause_10, s_X7_readClause_11, s_X7_readClause_14, s_X7_readClause_15, s_X7_readClause_18, s_X7_readClause_21, s_X7_readClause_22, s_X7_readClause_25, s_X7_readClause_26, s_X7_readClause_29, s_X7_readClause_30z0, s_X7_readClause_30z1, s_X7_readClause_31, s_X7_readClause_32, s_X7_readClause_35, s_X7_readClause_36, s_X7_readClause_37, s_X7_readClause_38, s_X7_readClause_39, s_X7_readClause_40, s_X7_readClause_41, s_X7_readClause_42, s_X7_readClause_43, s_X7_readClause_47, s_X7_readClause_48, s_X7_readClause_51, s_X7_readClause_54, s_X7_readClause_55, s_X7_readClause_58, s_X7_readClause_59, s_X7_readClause_62, s_X7_readClause_64, s_X7_readClause_65, s_X7_readClause_67, s_X7_readClause_70, s_X7_readClause_72, s_X7_readClause_73, s_X7_readClause_76, s_X7_readClause_78, s_X7_readClause_79, s_X7_readClause_82, s_X7_readClause_83, s_X7_readClause_84, s_X7_readClause_87, s_X7_readClause_88, s_X7_readClause_91, s_X7_readClause_92, s_X7_readClause_94, s_X7_readClause_96, s_X7_readClause_97, s_X7_readClause_99, s_X7_readClause_102, s_X7_readClause_105, s_X7_readClause_107, s_X7_readClause_108, s_X7_readClause_109, s_X7_readClause_111, s_X7_readClause_114, s_X7_readClause_117, s_X7_readClause_119, s_X7_readClause_122, s_X7_readClause_123z0, s_X7_readClause_123z1, s_X7_readClause_124, s_X7_readClause_125, s_X7_readClause_128, s_X7_readClause_129, s_X7_readClause_131, s_X7_readClause_132, s_X7_readClause_134, s_X7_readClause_135, s_X7_readClause_138, s_X7_readClause_141, s_X7_readClause_142, s_X7_readClause_145, s_X7_readClause_146, s_X7_readClause_147, s_X7_readClause_150, s_X7_readClause_151, s_X7_readClause_152, s_X7_readClause_155, s_X7_readClause_156, s_X7_readClause_157, s_X7_readClause_160, s_X7_readClause_163, s_X7_readClause_164, s_X7_readClause_167, s_X7_readClause_170, s_X7_readClause_171, s_X7_readClause_171i, s_X7_readClause_172, s_X7_readClause_175, s_X7_readClause_176, s_X7_readClause_177, s_X7_readClause_180, s_X7_readClause_181z0, s_X7_readClause_181z1, Option.isSome_some, Option.getD_some, sm_clr_i, sm_clr_r, sm_clr_n, sm_clr_o, sm_clr_l, sm_rr_some, sm_rh_some, Option.toList_some, Option.toList_none, List.cons_append, List.nil_append, List.map_cons, List.map_nil, List.sum_cons, List.sum_nil, sm_cat_i, sm_cat_r, sm_cat_n, sm_cat_l, Nat.reduceAdd, Nat.reduceLeDiff, Nat.zero_add, Nat.add_zero, if_true, if_false, not_true_eq_false, not_false_eq_true, and_self, true_and, and_true, hf_0_0, hf_0_1, hf_0_2, hf_0_3, hf_0_4, hf_0_5, hf_0_6, hf_0_7, hf_0_8, hf_0_9, hf_0_10, hf_0_11, hf_0_12, hf_0_13, hf_0_14, hf_31_0, hf_31_1, hf_31_2, hf_33_0, hf_33_1, hf_33_2, hf_36_0, hf_36_1, hf_36_2, hf_36_3, hf_36_4, hf_36_5, hf_36_6, hf_36_7, hf_36_8, hc_0, hc_31, hc_33, hc_36, hc_40, hc_41, hc_42, hc_43, hc_45, ha_34, ha_35, ha_37, ha_38, ha_39, ha_44, hw_31_0, hw_31_1, hw_33_0, hw_36_0, hw_36_1, hw_36_5, hw_36_6, hw_36_7, hw_36_8, hw_0_4, hw_0_5, hs_34, hs_35, hs_38, hs_39, hs_44, h1, h2, v1, h3, show ¬ (1 : Int32) = 0 from by decide, n8, v2.2]
      rfl
    · rw [if_neg v2]
      have hgo : sm_run xs n_X7_readClause 0 [some (.ref 36), some (.int (nI j)), none, none, none, none, none] [] (hp S) = sm_run xs n_X7_readClause 45 (rcL j (vb_F (gR S 2) len e) 0 none none) [] (hp (sR (s1 S len e) 3 (fu (gR S 3) j (vb_F (gR S 2) len e)))) := by
        have r3 : gR (s1 S len e) 3 = gR S 3 := rfl
        have hz : nI 0 = (0 : Int32) := rfl
        cases hb : rg_B 3 6 (vb_F (gR S 2) len e) with
        | false =>
          rw [hb, b2i_f] at h3
          simp only [s_X7_readClause_0, s_X7_readClause_1, s_X7_readClause_4, s_X7_readClause_5, s_X7_readClause_8, s_X7_readClause_9, s_X7_readClause_10, s_X7_readClause_11, s_X7_readClause_14, s_X7_readClause_15, s_X7_readClause_18, s_X7_readClause_21, s_X7_readClause_22, s_X7_readClause_25, s_X7_readClause_26, s_X7_readClause_29, s_X7_readClause_30z0, s_X7_readClause_30z1, s_X7_readClause_31, s_X7_readClause_32, s_X7_readClause_35, s_X7_readClause_36, s_X7_readClause_37, s_X7_readClause_38, s_X7_readClause_39, s_X7_readClause_40, s_X7_readClause_41, s_X7_readClause_42, s_X7_readClause_43, s_X7_readClause_47, s_X7_readClause_48, s_X7_readClause_51, s_X7_readClause_54, s_X7_readClause_55, s_X7_readClause_58, s_X7_readClause_59, s_X7_readClause_62, s_X7_readClause_64, s_X7_readClause_65, s_X7_readClause_67, s_X7_readClause_70, s_X7_readClause_72, s_X7_readClause_73, s_X7_readClause_76, s_X7_readClause_78, s_X7_readClause_79, s_X7_readClause_82, s_X7_readClause_83, s_X7_readClause_84, s_X7_readClause_87, s_X7_readClause_88, s_X7_readClause_91, s_X7_readClause_92, s_X7_readClause_94, s_X7_readClause_96, s_X7_readClause_97, s_X7_readClause_99, s_X7_readClause_102, s_X7_readClause_105, s_X7_readClause_107, s_X7_readClause_108, s_X7_readClause_109, s_X7_readClause_111, s_X7_readClause_114, s_X7_readClause_117, s_X7_readClause_119, s_X7_readClause_122, s_X7_readClause_123z0, s_X7_readClause_123z1, s_X7_readClause_124, s_X7_readClause_125, s_X7_readClause_128, s_X7_readClause_129, s_X7_readClause_131, s_X7_readClause_132, s_X7_readClause_134, s_X7_readClause_135, s_X7_readClause_138, s_X7_readClause_141, s_X7_readClause_142, s_X7_readClause_145, s_X7_readClause_146, s_X7_readClause_147, s_X7_readClause_150, s_X7_readClause_151, s_X7_readClause_152, s_X7_readClause_155, s_X7_readClause_156, s_X7_readClause_157, s_X7_readClause_160, s_X7_readClause_163, s_X7_readClause_164, s_X7_readClause_167, s_X7_readClause_170, s_X7_readClause_171, s_X7_readClause_171i, s_X7_readClause_172, s_X7_readClause_175, s_X7_readClause_176, s_X7_readClause_177, s_X7_readClause_180, s_X7_readClause_181z0, s_X7_readClause_181z1, Option.isSome_some, Option.getD_some, sm_clr_i, sm_clr_r, sm_clr_n, sm_clr_o, sm_clr_l, sm_rr_some, sm_rh_some, Option.toList_some, Option.toList_none, List.cons_append, List.nil_append, List.map_cons, List.map_nil, List.sum_cons, List.sum_nil, sm_cat_i, sm_cat_r, sm_cat_n, sm_cat_l, Nat.reduceAdd, Nat.reduceLeDiff, Nat.zero_add, Nat.add_zero, if_true, if_false, not_true_eq_false, not_false_eq_true, and_self, true_and, and_true, hf_0_0, hf_0_1, hf_0_2, hf_0_3, hf_0_4, hf_0_5, hf_0_6, hf_0_7, hf_0_8, hf_0_9, hf_0_10, hf_0_11, hf_0_12, hf_0_13, hf_0_14, hf_31_0, hf_31_1, hf_31_2, hf_33_0, hf_33_1, hf_33_2, hf_36_0, hf_36_1, hf_36_2, hf_36_3, hf_36_4, hf_36_5, hf_36_6, hf_36_7, hf_36_8, hc_0, hc_31, hc_33, hc_36, hc_40, hc_41, hc_42, hc_43, hc_45, ha_34, ha_35, ha_37, ha_38, ha_39, ha_44, hw_31_0, hw_31_1, hw_33_0, hw_36_0, hw_36_1, hw_36_5, hw_36_6, hw_36_7, hw_36_8, hw_0_4, hw_0_5, hs_34, hs_35, hs_38, hs_39, hs_44, h1, h2, v1, h3, ai_r, hj, hs_38, r3, ia_m3, hz]
          rfl
        | true =>
          have h5 : gN S 8 < 5 := Decidable.not_not.mp (fun q => v2 ⟨hb, q⟩)
          rw [hb, b2i_t] at h3
          simp only [s_X7_readClause_0, s_X7_readClause_1, s_X7_readClause_4, s_X7_readClause_5, s_X7_readClause_8, s_X7_readClause_9, s_X7_readClause_10, s_X7_readClause_11, s_X7_readClause_14, s_X7_readClause_15, s_X7_readClause_18, s_X7_readClause_21, s_X7_readClause_22, s_X7_readClause_25, s_X7_readClause_26, s_X7_readClause_29, s_X7_readClause_30z0, s_X7_readClause_30z1, s_X7_readClause_31, s_X7_readClause_32, s_X7_readClause_35, s_X7_readClause_36, s_X7_readClause_37, s_X7_readClause_38, s_X7_readClause_39, s_X7_readClause_40, s_X7_readClause_41, s_X7_readClause_42, s_X7_readClause_43, s_X7_readClause_47, s_X7_readClause_48, s_X7_readClause_51, s_X7_readClause_54, s_X7_readClause_55, s_X7_readClause_58, s_X7_readClause_59, s_X7_readClause_62, s_X7_readClause_64, s_X7_readClause_65, s_X7_readClause_67, s_X7_readClause_70, s_X7_readClause_72, s_X7_readClause_73, s_X7_readClause_76, s_X7_readClause_78, s_X7_readClause_79, s_X7_readClause_82, s_X7_readClause_83, s_X7_readClause_84, s_X7_readClause_87, s_X7_readClause_88, s_X7_readClause_91, s_X7_readClause_92, s_X7_readClause_94, s_X7_readClause_96, s_X7_readClause_97, s_X7_readClause_99, s_X7_readClause_102, s_X7_readClause_105, s_X7_readClause_107, s_X7_readClause_108, s_X7_readClause_109, s_X7_readClause_111, s_X7_readClause_114, s_X7_readClause_117, s_X7_readClause_119, s_X7_readClause_122, s_X7_readClause_123z0, s_X7_readClause_123z1, s_X7_readClause_124, s_X7_readClause_125, s_X7_readClause_128, s_X7_readClause_129, s_X7_readClause_131, s_X7_readClause_132, s_X7_readClause_134, s_X7_readClause_135, s_X7_readClause_138, s_X7_readClause_141, s_X7_readClause_142, s_X7_readClause_145, s_X7_readClause_146, s_X7_readClause_147, s_X7_readClause_150, s_X7_readClause_151, s_X7_readClause_152, s_X7_readClause_155, s_X7_readClause_156, s_X7_readClause_157, s_X7_readClause_160, s_X7_readClause_163, s_X7_readClause_164, s_X7_readClause_167, s_X7_readClause_170, s_X7_readClause_171, s_X7_readClause_171i, s_X7_readClause_172, s_X7_readClause_175, s_X7_readClause_176, s_X7_readClause_177, s_X7_readClause_180, s_X7_readClause_181z0, s_X7_readClause_181z1, Option.isSome_some, Option.getD_some, sm_clr_i, sm_clr_r, sm_clr_n, sm_clr_o, sm_clr_l, sm_rr_some, sm_rh_some, Option.toList_some, Option.toList_none, List.cons_append, List.nil_append, List.map_cons, List.map_nil, List.sum_cons, List.sum_nil, sm_cat_i, sm_cat_r, sm_cat_n, sm_cat_l, Nat.reduceAdd, Nat.reduceLeDiff, Nat.zero_add, Nat.add_zero, if_true, if_false, not_true_eq_false, not_false_eq_true, and_self, true_and, and_true, hf_0_0, hf_0_1, hf_0_2, hf_0_3, hf_0_4, hf_0_5, hf_0_6, hf_0_7, hf_0_8, hf_0_9, hf_0_10, hf_0_11, hf_0_12, hf_0_13, hf_0_14, hf_31_0, hf_31_1, hf_31_2, hf_33_0, hf_33_1, hf_33_2, hf_36_0, hf_36_1, hf_36_2, hf_36_3, hf_36_4, hf_36_5, hf_36_6, hf_36_7, hf_36_8, hc_0, hc_31, hc_33, hc_36, hc_40, hc_41, hc_42, hc_43, hc_45, ha_34, ha_35, ha_37, ha_38, ha_39, ha_44, hw_31_0, hw_31_1, hw_33_0, hw_36_0, hw_36_1, hw_36_5, hw_36_6, hw_36_7, hw_36_8, hw_0_4, hw_0_5, hs_34, hs_35, hs_38, hs_39, hs_44, h1, h2, v1, h3, show ¬ (1 : Int32) = 0 from by decide, n8, h5, ai_r, hj, hs_38, r3, ia_m3, hz]
          rfl
      have hfr : frX S (sR (s1 S len e) 3 (fu (gR S 3) j (vb_F (gR S 2) len e))) := frX_tr (frX_s1 S len e) (frX_R _ _ (by omega))
      by_cases v8 : vb_F (gR S 2) len e = 8
      · rw [if_pos v8]
        have hend := rc_end (xs := xs) (S := sR (s1 S len e) 3 (fu (gR S 3) j 8)) (l5 := none) (l6 := none) (v := 8) (i := nI 0) hj (by decide)
        obtain ⟨g1, g6, gR', g7, g8⟩ := en_fr (sR (s1 S len e) 3 (fu (gR S 3) j 8)) j 8
        rw [v8] at hgo hfr
        refine ⟨en_S (sR (s1 S len e) 3 (fu (gR S 3) j 8)) j 8, true, hgo.trans hend, frX_tr hfr g1, rfl, ?_, ?_, ?_, ?_, ?_, ?_, ?_⟩
        · rw [g6]; rfl
        · rw [gR']; rfl
        · intro i hi; rw [gR']; rfl
        · intro F; exact te_8 F _ _ _ _ _ _
        · intro q; exact absurd q (show ¬ (8 : Int32) = 0 by decide)
        · dsimp only; rw [g7]; rfl
        · dsimp only; rw [g8]; rfl
      · rw [if_neg v8]
        obtain ⟨S', b, e1, f1, P1⟩ := rc_st1 (xs := xs) (S := sR (s1 S len e) 3 (fu (gR S 3) j (vb_F (gR S 2) len e))) (e := tE (gR S 2) len e) (v := vb_F (gR S 2) len e) (l5 := none) (l6 := none) hl h160 rfl hE.2.1 hj v8
        refine ⟨S', b, hgo.trans e1, frX_tr hfr f1, ?_⟩
        have P1 : RP (sR (s1 S len e) 3 (fu (gR S 3) j (vb_F (gR S 2) len e))) S' j b (ps_1 (gR S 2) len (tE (gR S 2) len e) (gN S 7) (gN S 8) (vb_F (gR S 2) len e)) := P1
        generalize hr : ps_1 (gR S 2) len (tE (gR S 2) len e) (gN S 7) (gN S 8) (vb_F (gR S 2) len e) = r at P1
        cases r with
        | inl f => exact P1
        | inr q =>
          have hv := ps_v hr
          obtain ⟨p1, p2, p3, p4, p5, p6, p7, p8⟩ := P1
          exact ⟨p1, p2, by rw [p3, hv]; rfl, p4, p5, p6, p7, p8⟩
end RD

/-- the patch that the reference's rows G (cells, slopes, players, kinds) and D (worths, purses, debts, shots) tell -/
def cF (n p : Nat) (G D : Nat → Int32) : PF := (n, p, D 39, (fun c => G (1 + c)), D, (fun j => G (11 + j)), (fun j => D (9 + j)), (fun k => D (14 + k)))
/-- alike as far as their rows go -/
def pe (F F' : PF) : Prop := pf_n F = pf_n F' ∧ pf_p F = pf_p F' ∧ pf_s F = pf_s F' ∧ (∀ c, c < 9 → pf_sl F c = pf_sl F' c) ∧ (∀ c, c < 9 → pf_w F c = pf_w F' c) ∧ (∀ c, c < 5 → pf_k F c = pf_k F' c) ∧ (∀ c, c < 5 → pf_pu F c = pf_pu F' c) ∧ (∀ c, c < 25 → pf_d F c = pf_d F' c)
theorem pe_rf (F : PF) : pe F F := ⟨rfl, rfl, rfl, fun _ _ => rfl, fun _ _ => rfl, fun _ _ => rfl, fun _ _ => rfl, fun _ _ => rfl⟩
theorem pe_tr {F G H : PF} (h : pe F G) (k : pe G H) : pe F H := ⟨h.1.trans k.1, h.2.1.trans k.2.1, h.2.2.1.trans k.2.2.1, fun c hc => (h.2.2.2.1 c hc).trans (k.2.2.2.1 c hc), fun c hc => (h.2.2.2.2.1 c hc).trans (k.2.2.2.2.1 c hc), fun c hc => (h.2.2.2.2.2.1 c hc).trans (k.2.2.2.2.2.1 c hc), fun c hc => (h.2.2.2.2.2.2.1 c hc).trans (k.2.2.2.2.2.2.1 c hc), fun c hc => (h.2.2.2.2.2.2.2 c hc).trans (k.2.2.2.2.2.2.2 c hc)⟩
theorem pe_of {F F' : PF} (h : pe F F') : pf_of F = pf_of F' := by
  unfold pf_of
  rw [h.1, h.2.1, h.2.2.1, ls_ext h.2.2.2.1, ls_ext h.2.2.2.2.1, ls_ext h.2.2.2.2.2.1, ls_ext h.2.2.2.2.2.2.1, ls_ext h.2.2.2.2.2.2.2]
theorem fu_ext {α : Type} {f g : Nat → α} {n : Nat} (h : ∀ c, c < n → f c = g c) (k : Nat) (x : α) : ∀ c, c < n → fu f k x c = fu g k x c := by
  intro c hc
  unfold fu
  by_cases e : c = k
  · rw [if_pos e, if_pos e]
  · rw [if_neg e, if_neg e, h c hc]
theorem pe_te {F F' : PF} (h : pe F F') (v a b c : Int32) : pe (te_T F v a b c) (te_T F' v a b c) := by
  obtain ⟨h1, h2, h3, h4, h5, h6, h7, h8⟩ := h
  unfold te_T
  by_cases v0 : v = 0
  · rw [if_pos v0, if_pos v0]
    exact ⟨rfl, rfl, h3, fun _ _ => rfl, fun _ _ => rfl, h6, fun _ _ => rfl, fun _ _ => rfl⟩
  · rw [if_neg v0, if_neg v0]
    by_cases v1 : v = 1
    · rw [if_pos v1, if_pos v1]
      unfold ti_F
      rw [h1]
      cases hs_C (pf_n F') a with
      | false => exact ⟨h1, h2, h3, h4, h5, h6, h7, h8⟩
      | true => exact ⟨h1, h2, h3, fu_ext h4 _ _, h5, h6, h7, h8⟩
    · rw [if_neg v1, if_neg v1]
      by_cases v2 : v = 2
      · rw [if_pos v2, if_pos v2]
        unfold la_F
        rw [h1]
        cases hs_C (pf_n F') a with
        | false => exact ⟨h1, h2, h3, h4, h5, h6, h7, h8⟩
        | true => exact ⟨h1, h2, h3, h4, fu_ext h5 _ _, h6, h7, h8⟩
      · rw [if_neg v2, if_neg v2]
        by_cases v7 : v = 7
        · rw [if_pos v7, if_pos v7]
          unfold oe_F
          rw [h2]
          cases hs_P (pf_p F') a b with
          | false => exact ⟨h1, h2, h3, h4, h5, h6, h7, h8⟩
          | true => exact ⟨h1, h2, h3, h4, h5, h6, h7, fu_ext h8 _ _⟩
        · rw [if_neg v7, if_neg v7]
          by_cases v8 : v = 8
          · rw [if_pos v8, if_pos v8]
            exact ⟨h1, h2, h3, h4, h5, h6, h7, fun _ _ => rfl⟩
          · rw [if_neg v8, if_neg v8]
            unfold jo_F
            rw [h2]
            by_cases h9 : pf_p F' < 5
            · rw [if_pos h9, if_pos h9]
              refine ⟨h1, rfl, h3, h4, h5, ?_, ?_, h8⟩
              · exact fu_ext h6 _ _
              · exact fu_ext h7 _ _
            · rw [if_neg h9, if_neg h9]
              exact ⟨h1, h2, h3, h4, h5, h6, h7, h8⟩
/-- the bounds of worths, purses, debts, shots -/
def dok (n p : Nat) (D : Nat → Int32) : Prop := (∀ c, c < 9 → ∃ m : Nat, m ≤ 20 ∧ D c = nI m ∧ (n ≤ c → m = 0)) ∧ (∀ j, j < 5 → ∃ m : Nat, m ≤ 999 ∧ D (9 + j) = nI m) ∧ (∀ a b, a < 5 → b < 5 → ∃ m : Nat, m ≤ 99 ∧ D (14 + (5 * a + b)) = nI m ∧ (a = b ∨ p ≤ a ∨ p ≤ b → m = 0)) ∧ (∃ m : Nat, m ≤ 999 ∧ D 39 = nI m)
def kok (G : Nat → Int32) : Prop := ∀ j, j < 5 → ∃ m : Nat, m ≤ 3 ∧ G (11 + j) = nI m
def gk0 (n p : Nat) (G D : Nat → Int32) : Prop := 4 ≤ n ∧ n ≤ 9 ∧ p ≤ 5 ∧ G 0 = nI n ∧ G 10 = nI p ∧ kok G ∧ dok n p D ∧ D 39 = 0
theorem hsC_t {n c : Nat} (hc : c < n) (hn : n ≤ 9) : hs_C n (nI c) = true := hs_C_nI hc (by omega)
-- patch
theorem pv_0 {n p m : Nat} {G D : Nat → Int32} (h : gk0 n p G D) (hm : 4 ≤ m ∧ m ≤ 9) (x2 x3 : Int32) : pe (te_T (cF n p G D) 0 (nI m) x2 x3) (cF m 0 (cp_F (fun _ => 2) (fu (fu G 0 (nI m)) 10 0) 1 0 9) (cp_F (fun _ => 0) D 0 0 40)) ∧ gk0 m 0 (cp_F (fun _ => 2) (fu (fu G 0 (nI m)) 10 0) 1 0 9) (cp_F (fun _ => 0) D 0 0 40) := by
  obtain ⟨h1, h2, h3, h4, h5, h6, h7, h8⟩ := h
  have eG : ∀ j, 10 < j → cp_F (fun _ => 2) (fu (fu G 0 (nI m)) 10 0) 1 0 9 j = G j := by
    intro j hj
    unfold cp_F fu
    rw [if_neg (by omega), if_neg (by omega), if_neg (by omega)]
  have eS : ∀ c, c < 9 → cp_F (fun _ => (2 : Int32)) (fu (fu G 0 (nI m)) 10 0) 1 0 9 (1 + c) = 2 := by
    intro c hc
    unfold cp_F
    rw [if_pos (by omega)]
  have eD : ∀ j, j < 40 → cp_F (fun _ => (0 : Int32)) D 0 0 40 j = 0 := by
    intro j hj
    unfold cp_F
    rw [if_pos (by omega)]
  constructor
  · unfold te_T
    rw [if_pos rfl, nI_clamp (by omega)]
    refine ⟨rfl, rfl, ?_, ?_, ?_, ?_, ?_, ?_⟩
    · exact h8.trans (eD 39 (by omega)).symm
    · intro c hc; exact (eS c hc).symm
    · intro c hc; exact (eD c (by omega)).symm
    · intro c hc; exact (eG (11 + c) (by omega)).symm
    · intro c hc; exact (eD (9 + c) (by omega)).symm
    · intro c hc; exact (eD (14 + c) (by omega)).symm
  · refine ⟨hm.1, hm.2, by omega, ?_, ?_, ?_, ⟨?_, ?_, ?_, ?_⟩, eD 39 (by omega)⟩
    · unfold cp_F fu
      rw [if_neg (by omega), if_neg (by omega), if_pos rfl]
    · unfold cp_F fu
      rw [if_neg (by omega), if_pos rfl]
      rfl
    · intro j hj; rw [eG _ (by omega)]; exact h6 j hj
    · intro c hc; exact ⟨0, by omega, by rw [eD c (by omega)]; rfl, fun _ => rfl⟩
    · intro c hc; exact ⟨0, by omega, by rw [eD _ (by omega)]; rfl⟩
    · intro a b ha hb; exact ⟨0, by omega, by rw [eD _ (by omega)]; rfl, fun _ => rfl⟩
    · exact ⟨0, by omega, by rw [eD _ (by omega)]; rfl⟩
-- slope
theorem pv_1 {n p c : Nat} {G D : Nat → Int32} (h : gk0 n p G D) (hc : c < n) (x2 x3 : Int32) : pe (te_T (cF n p G D) 1 (nI c) x2 x3) (cF n p (fu G (1 + c) x2) (fu D c (D c))) ∧ gk0 n p (fu G (1 + c) x2) (fu D c (D c)) := by
  obtain ⟨h1, h2, h3, h4, h5, h6, h7, h8⟩ := h
  rw [fu_id]
  constructor
  · unfold te_T
    rw [if_neg (by decide), if_pos rfl]
    unfold ti_F
    rw [show pf_n (cF n p G D) = n from rfl, hsC_t hc h2, if_pos rfl, nI_clamp (by omega)]
    refine ⟨rfl, rfl, rfl, ?_, fun _ _ => rfl, ?_, fun _ _ => rfl, fun _ _ => rfl⟩
    · intro j hj
      show fu (fun c => G (1 + c)) c x2 j = fu G (1 + c) x2 (1 + j)
      unfold fu
      by_cases e : j = c
      · rw [if_pos e, if_pos (by omega)]
      · rw [if_neg e, if_neg (by omega)]
    · intro j hj
      show G (11 + j) = fu G (1 + c) x2 (11 + j)
      rw [fu_n (by omega)]
  · refine ⟨h1, h2, h3, ?_, ?_, ?_, h7, h8⟩
    · rw [fu_n (by omega), h4]
    · rw [fu_n (by omega), h5]
    · intro j hj; rw [fu_n (by omega)]; exact h6 j hj
-- lay
theorem pv_2 {n p c m : Nat} {G D : Nat → Int32} (h : gk0 n p G D) (hc : c < n) (hm : m ≤ 20) (x3 : Int32) : pe (te_T (cF n p G D) 2 (nI c) (nI m) x3) (cF n p (fu G (1 + c) (G (1 + c))) (fu D c (nI m))) ∧ gk0 n p (fu G (1 + c) (G (1 + c))) (fu D c (nI m)) := by
  obtain ⟨h1, h2, h3, h4, h5, h6, ⟨d1, d2, d3, d4⟩, h8⟩ := h
  rw [fu_id]
  constructor
  · unfold te_T
    rw [if_neg (by decide), if_neg (by decide), if_pos rfl]
    unfold la_F
    rw [show pf_n (cF n p G D) = n from rfl, hsC_t hc h2, if_pos rfl, nI_clamp (by omega)]
    refine ⟨rfl, rfl, ?_, fun _ _ => rfl, fun _ _ => rfl, fun _ _ => rfl, ?_, ?_⟩
    · show D 39 = fu D c _ 39
      rw [fu_n (by omega)]
    · intro j hj
      show D (9 + j) = fu D c _ (9 + j)
      rw [fu_n (by omega)]
    · intro j hj
      show D (14 + j) = fu D c _ (14 + j)
      rw [fu_n (by omega)]
  · refine ⟨h1, h2, h3, h4, h5, h6, ⟨?_, ?_, ?_, ?_⟩, ?_⟩
    · intro j hj
      by_cases e : j = c
      · subst e; exact ⟨m, hm, fu_s _ _ _, fun z => by omega⟩
      · rw [fu_n e]; exact d1 j hj
    · intro j hj; rw [fu_n (by omega)]; exact d2 j hj
    · intro a b ha hb; rw [fu_n (by omega)]; exact d3 a b ha hb
    · rw [fu_n (by omega)]; exact d4
    · rw [fu_n (by omega)]; exact h8
-- a player
theorem pv_3 {n p m kd : Nat} {G D : Nat → Int32} (h : gk0 n p G D) (hp : p < 5) (hm : m ≤ 99) (hk : kd ≤ 3) (x2 x3 : Int32) : pe (te_T (cF n p G D) (nI (3 + kd)) (nI m) x2 x3) (cF n (p + 1) (fu (fu G (11 + p) (nI kd)) 10 (nI (p + 1))) (fu D (9 + p) (nI m))) ∧ gk0 n (p + 1) (fu (fu G (11 + p) (nI kd)) 10 (nI (p + 1))) (fu D (9 + p) (nI m)) := by
  obtain ⟨h1, h2, h3, h4, h5, h6, ⟨d1, d2, d3, d4⟩, h8⟩ := h
  have ne : ∀ v : Nat, v < 20 → v ≠ 3 + kd → ¬ nI (3 + kd) = nI v := fun v hv hn e => hn ((nI_eq (by omega) (by omega)).mp e).symm
  have eG : ∀ j, j < 5 → fu (fu G (11 + p) (nI kd)) 10 (nI (p + 1)) (11 + j) = fu (fun j => G (11 + j)) p (nI kd) j := by
    intro j hj
    rw [fu_n (by omega)]
    unfold fu
    by_cases e : j = p
    · rw [if_pos e, if_pos (by omega)]
    · rw [if_neg e, if_neg (by omega)]
  constructor
  · unfold te_T
    have n0 : ¬ nI (3 + kd) = 0 := ne 0 (by omega) (by omega)
    have n1 : ¬ nI (3 + kd) = 1 := ne 1 (by omega) (by omega)
    have n2 : ¬ nI (3 + kd) = 2 := ne 2 (by omega) (by omega)
    have n7 : ¬ nI (3 + kd) = 7 := ne 7 (by omega) (by omega)
    have n8 : ¬ nI (3 + kd) = 8 := ne 8 (by omega) (by omega)
    rw [if_neg n0, if_neg n1, if_neg n2, if_neg n7, if_neg n8]
    unfold jo_F
    rw [show pf_p (cF n p G D) = p from rfl, if_pos hp, show nI (3 + kd) - 3 = nI kd by rw [show (3 : Int32) = nI 3 from rfl, pk_sub (by omega), show 3 + kd - 3 = kd by omega]]
    refine ⟨rfl, rfl, ?_, ?_, ?_, ?_, ?_, ?_⟩
    · show D 39 = fu D _ _ 39
      rw [fu_n (by omega)]
    · intro j hj
      show G (1 + j) = fu (fu G (11 + p) (nI kd)) 10 (nI (p + 1)) (1 + j)
      rw [fu_n (by omega), fu_n (by omega)]
    · intro j hj
      show D j = fu D _ _ j
      rw [fu_n (by omega)]
    · intro j hj; exact (eG j hj).symm
    · intro j hj
      show fu (fun j => D (9 + j)) p (nI m) j = fu D (9 + p) (nI m) (9 + j)
      unfold fu
      by_cases e : j = p
      · rw [if_pos e, if_pos (by omega)]
      · rw [if_neg e, if_neg (by omega)]
    · intro j hj
      show D (14 + j) = fu D _ _ (14 + j)
      rw [fu_n (by omega)]
  · refine ⟨h1, h2, by omega, ?_, fu_s _ _ _, ?_, ⟨?_, ?_, ?_, ?_⟩, ?_⟩
    · rw [fu_n (by omega), fu_n (by omega)]; exact h4
    · intro j hj
      rw [eG j hj]
      by_cases e : j = p
      · subst e; rw [fu_s]; exact ⟨kd, hk, rfl⟩
      · rw [fu_n e]; exact h6 j hj
    · intro j hj; rw [fu_n (by omega)]; exact d1 j hj
    · intro j hj
      by_cases e : j = p
      · subst e; exact ⟨m, by omega, fu_s _ _ _⟩
      · rw [fu_n (by omega)]; exact d2 j hj
    · intro a b ha hb
      rw [fu_n (by omega)]
      obtain ⟨m', q1, q2, q3⟩ := d3 a b ha hb
      exact ⟨m', q1, q2, fun z => q3 (by omega)⟩
    · rw [fu_n (by omega)]; exact d4
    · rw [fu_n (by omega)]; exact h8
-- owe
theorem pv_7 {n p a b m : Nat} {G D : Nat → Int32} (h : gk0 n p G D) (ha : a < p) (hb : b < p) (hab : a ≠ b) (hm : m ≤ 99) : pe (te_T (cF n p G D) 7 (nI a) (nI b) (nI m)) (cF n p G (fu D (14 + (5 * a + b)) (nI m))) ∧ gk0 n p G (fu D (14 + (5 * a + b)) (nI m)) := by
  obtain ⟨h1, h2, h3, h4, h5, h6, ⟨d1, d2, d3, d4⟩, h8⟩ := h
  constructor
  · unfold te_T
    rw [if_neg (by decide), if_neg (by decide), if_neg (by decide), if_pos rfl]
    unfold oe_F
    have hP : hs_P p (nI a) (nI b) = true := by
      unfold hs_P
      rw [hs_C_nI ha (by omega), hs_C_nI hb (by omega), decide_eq_true (show nI a ≠ nI b from fun e => hab ((nI_eq (by omega) (by omega)).mp e))]
      rfl
    rw [show pf_p (cF n p G D) = p from rfl, hP, if_pos rfl, ix_5, nI_clamp (by omega)]
    refine ⟨rfl, rfl, ?_, fun _ _ => rfl, ?_, fun _ _ => rfl, ?_, ?_⟩
    · show D 39 = fu D _ _ 39
      rw [fu_n (by omega)]
    · intro j hj
      show D j = fu D _ _ j
      rw [fu_n (by omega)]
    · intro j hj
      show D (9 + j) = fu D _ _ (9 + j)
      rw [fu_n (by omega)]
    · intro j hj
      show fu (fun k => D (14 + k)) (a * 5 + b) (nI m) j = fu D (14 + (5 * a + b)) (nI m) (14 + j)
      unfold fu
      by_cases e : j = a * 5 + b
      · rw [if_pos e, if_pos (by omega)]
      · rw [if_neg e, if_neg (by omega)]
  · refine ⟨h1, h2, h3, h4, h5, h6, ⟨?_, ?_, ?_, ?_⟩, ?_⟩
    · intro j hj; rw [fu_n (by omega)]; exact d1 j hj
    · intro j hj; rw [fu_n (by omega)]; exact d2 j hj
    · intro a' b' ha' hb'
      by_cases e : a' = a ∧ b' = b
      · obtain ⟨rfl, rfl⟩ := e
        exact ⟨m, hm, fu_s _ _ _, fun z => by omega⟩
      · rw [fu_n (by omega)]; exact d3 a' b' ha' hb'
    · rw [fu_n (by omega)]; exact d4
    · rw [fu_n (by omega)]; exact h8
-- even
theorem pv_8 {n p : Nat} {G D : Nat → Int32} (h : gk0 n p G D) (x1 x2 x3 : Int32) : pe (te_T (cF n p G D) 8 x1 x2 x3) (cF n p G (cp_F (fun _ => 0) D 14 0 25)) ∧ gk0 n p G (cp_F (fun _ => 0) D 14 0 25) := by
  obtain ⟨h1, h2, h3, h4, h5, h6, ⟨d1, d2, d3, d4⟩, h8⟩ := h
  have e1 : ∀ j, j < 14 ∨ 39 ≤ j → cp_F (fun _ => (0 : Int32)) D 14 0 25 j = D j := by
    intro j hj
    unfold cp_F
    rw [if_neg (by omega)]
  have e2 : ∀ j, j < 25 → cp_F (fun _ => (0 : Int32)) D 14 0 25 (14 + j) = 0 := by
    intro j hj
    unfold cp_F
    rw [if_pos (by omega)]
  constructor
  · unfold te_T
    rw [if_neg (by decide), if_neg (by decide), if_neg (by decide), if_neg (by decide), if_pos rfl]
    exact ⟨rfl, rfl, (e1 39 (by omega)).symm, fun _ _ => rfl, fun j hj => (e1 j (by omega)).symm, fun _ _ => rfl, fun j hj => (e1 (9 + j) (by omega)).symm, fun j hj => (e2 j hj).symm⟩
  · refine ⟨h1, h2, h3, h4, h5, h6, ⟨?_, ?_, ?_, ?_⟩, ?_⟩
    · intro j hj; rw [e1 j (by omega)]; exact d1 j hj
    · intro j hj; rw [e1 (9 + j) (by omega)]; exact d2 j hj
    · intro a b ha hb; exact ⟨0, by omega, by rw [e2 _ (by omega)]; rfl, fun _ => rfl⟩
    · rw [e1 39 (by omega)]; exact d4
    · rw [e1 39 (by omega)]; exact h8

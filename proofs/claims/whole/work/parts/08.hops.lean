-- inversions
theorem sm_get_inv {ci k : Nat} {st : List Value} {h : HH} {q : List Value × HH} (e : sm_get ci k st h = some q) : ∃ (i : Nat) (st0 : List Value) (fs : List Value) (v : Value), st = .ref i :: st0 ∧ h[i]? = some (.inr (.inr (ci, fs))) ∧ fs[k]? = some v ∧ q = (v :: st0, h) := by
  unfold sm_get at e
  split at e
  · split at e
    · rename_i he
      split at e
      · rename_i hc
        subst hc
        split at e
        · rename_i hv; cases e; exact ⟨_, _, _, _, rfl, he, hv, rfl⟩
        · cases e
      · cases e
    · cases e
  · cases e
theorem sm_put_inv {m : MI} {ci k : Nat} {st : List Value} {h : HH} {q : List Value × HH} (e : sm_put m ci k st h = some q) : ∃ (v : Value) (i : Nat) (st0 : List Value) (fs : List Value), st = v :: .ref i :: st0 ∧ h[i]? = some (.inr (.inr (ci, fs))) ∧ k < fs.length ∧ sm_pok (sm_ty ci k) v = true ∧ sm_fin m ci k = true ∧ q = (st0, h.set i (.inr (.inr (ci, fs.set k v)))) := by
  unfold sm_put at e
  split at e
  · split at e
    · rename_i he
      split at e
      · rename_i hc
        obtain ⟨rfl, h1, h2, h3⟩ := hc
        cases e
        exact ⟨_, _, _, _, rfl, he, h1, h2, h3, rfl⟩
      · cases e
    · cases e
  · cases e
theorem sm_ald_inv {xs : List Int32} {ty : FieldType} {st : List Value} {h : HH} {q : List Value × HH} (e : sm_ald xs ty st h = some q) : ∃ (j : Int32) (i : Nat) (st0 : List Value), st = .int j :: .ref i :: st0 ∧ ((∃ l : List Int32, h[i]? = some (.inl (ty, l)) ∧ ¬ (j < 0 ∨ l.length ≤ j.toNatClampNeg) ∧ q = (.int (l.getD j.toNatClampNeg 0) :: st0, h)) ∨ (i = sm_B + 9 ∧ ty = .int ∧ ¬ (j < 0 ∨ xs.length ≤ j.toNatClampNeg) ∧ q = (.int (xs.getD j.toNatClampNeg 0) :: st0, h))) := by
  unfold sm_ald at e
  split at e
  · split at e
    · rename_i he
      split at e
      · rename_i hc
        obtain ⟨rfl, h1⟩ := hc
        cases e
        exact ⟨_, _, _, rfl, Or.inl ⟨_, he, h1, rfl⟩⟩
      · cases e
    · split at e
      · rename_i hc
        obtain ⟨h1, h2, h3⟩ := hc
        cases e
        exact ⟨_, _, _, rfl, Or.inr ⟨h1, h2, h3, rfl⟩⟩
      · cases e
    · cases e
  · cases e
theorem sm_ast_inv {ty : FieldType} {st : List Value} {h : HH} {q : List Value × HH} (e : sm_ast ty st h = some q) : ∃ (x j : Int32) (i : Nat) (st0 : List Value) (l : List Int32), st = .int x :: .int j :: .ref i :: st0 ∧ h[i]? = some (.inl (ty, l)) ∧ ¬ (j < 0 ∨ l.length ≤ j.toNatClampNeg) ∧ q = (st0, h.set i (.inl (ty, l.set j.toNatClampNeg (sm_nar ty x)))) := by
  unfold sm_ast at e
  split at e
  · split at e
    · rename_i he
      split at e
      · rename_i hc
        obtain ⟨rfl, h1⟩ := hc
        cases e
        exact ⟨_, _, _, _, _, rfl, he, h1, rfl⟩
      · cases e
    · cases e
  · cases e
theorem sm_aald_inv {st : List Value} {h : HH} {q : List Value × HH} (e : sm_aald st h = some q) : ∃ (j : Int32) (i : Nat) (st0 : List Value) (l : List (Option Nat)), st = .int j :: .ref i :: st0 ∧ h[i]? = some (.inr (.inl l)) ∧ ¬ (j < 0 ∨ l.length ≤ j.toNatClampNeg) ∧ q = (sm_rv (l.getD j.toNatClampNeg none) :: st0, h) := by
  unfold sm_aald at e
  split at e
  · split at e
    · rename_i he
      split at e
      · rename_i hc
        cases e
        exact ⟨_, _, _, _, rfl, he, hc, rfl⟩
      · cases e
    · cases e
  · cases e
theorem sm_isp_inv {h : HH} {k : Nat} (e : sm_isp h k = true) : ∃ fs, h[k]? = some (.inr (.inr (3, fs))) := by
  unfold sm_isp at e
  split at e
  · rename_i he
    have := of_decide_eq_true e
    subst this
    exact ⟨_, he⟩
  · cases e
theorem sm_aast_inv {st : List Value} {h : HH} {q : List Value × HH} (e : sm_aast st h = some q) : ∃ (k : Nat) (j : Int32) (i : Nat) (st0 : List Value) (l : List (Option Nat)) (fs : List Value), st = .ref k :: .int j :: .ref i :: st0 ∧ h[i]? = some (.inr (.inl l)) ∧ h[k]? = some (.inr (.inr (3, fs))) ∧ ¬ (j < 0 ∨ l.length ≤ j.toNatClampNeg) ∧ q = (st0, h.set i (.inr (.inl (l.set j.toNatClampNeg (some k))))) := by
  unfold sm_aast at e
  split at e
  · split at e
    · rename_i he
      split at e
      · rename_i hc
        obtain ⟨fs, hf⟩ := sm_isp_inv hc.1
        cases e
        exact ⟨_, _, _, _, _, fs, rfl, he, hf, hc.2, rfl⟩
      · cases e
    · cases e
  · cases e
theorem sm_alen_inv {xs : List Int32} {st : List Value} {h : HH} {q : List Value × HH} (e : sm_alen xs st h = some q) : ∃ (i : Nat) (st0 : List Value), st = .ref i :: st0 ∧ ((∃ l : List Int32, h[i]? = some (.inl (.int, l)) ∧ q = (.int (Int32.ofNat l.length) :: st0, h)) ∨ (i = sm_B + 9 ∧ q = (.int (Int32.ofNat xs.length) :: st0, h))) := by
  unfold sm_alen at e
  split at e
  · split at e
    · rename_i he
      split at e
      · rename_i hc
        subst hc
        cases e
        exact ⟨_, _, rfl, Or.inl ⟨_, he, rfl⟩⟩
      · cases e
    · split at e
      · rename_i hc
        cases e
        exact ⟨_, _, rfl, Or.inr ⟨hc, rfl⟩⟩
      · cases e
    · cases e
  · cases e
theorem sm_newa_inv {t : ArrayType} {st : List Value} {h : HH} {q : List Value × HH} (e : sm_newa t st h = some q) : ∃ (n : Int32) (st0 : List Value) (ty : FieldType), st = .int n :: st0 ∧ sm_aty t = some ty ∧ ¬ n < 0 ∧ n.toNatClampNeg ≤ 100000 ∧ h.length < sm_B ∧ q = (.ref h.length :: st0, h ++ [.inl (ty, List.replicate n.toNatClampNeg 0)]) := by
  unfold sm_newa at e
  split at e
  · split at e
    · rename_i hty
      split at e
      · rename_i hc
        cases e
        exact ⟨_, _, _, rfl, hty, hc.1, hc.2.1, hc.2.2, rfl⟩
      · cases e
    · cases e
  · cases e
theorem sm_newq_inv {st : List Value} {h : HH} {q : List Value × HH} (e : sm_newq st h = some q) : ∃ (n : Int32) (st0 : List Value), st = .int n :: st0 ∧ ¬ n < 0 ∧ n.toNatClampNeg ≤ 100000 ∧ h.length < sm_B ∧ q = (.ref h.length :: st0, h ++ [.inr (.inl (List.replicate n.toNatClampNeg none))]) := by
  unfold sm_newq at e
  split at e
  · split at e
    · rename_i hc
      cases e
      exact ⟨_, _, rfl, hc.1, hc.2.1, hc.2.2, rfl⟩
    · cases e
  · cases e
theorem sm_inst_inv {d : Nat} {st : List Value} {h : HH} {q : List Value × HH} (e : sm_inst d st h = some q) : ∃ (i : Nat) (st0 : List Value) (ci : Nat) (fs : List Value) (x : Int32), st = .ref i :: st0 ∧ h[i]? = some (.inr (.inr (ci, fs))) ∧ sm_sub ci d = some x ∧ q = (.int x :: st0, h) := by
  unfold sm_inst at e
  split at e
  · split at e
    · rename_i he
      split at e
      · rename_i hx
        cases e
        exact ⟨_, _, _, _, _, rfl, he, hx, rfl⟩
      · cases e
    · cases e
  · cases e
theorem sm_sub_inv {ci d : Nat} {x : Int32} (e : sm_sub ci d = some x) : (ci = d ∧ x = 1) ∨ (((ci = 1 ∧ d = 6) ∨ (ci = 4 ∧ d = 6)) ∧ x = 1) ∨ (x = 0 ∧ ∃ q ∈ sm_no, (∃ T N, sm_CL[ci]? = some (q.1, T, N)) ∧ (∃ T N, sm_CL[d]? = some (q.2, T, N))) := by
  unfold sm_sub at e
  split at e
  · rename_i hc; cases e; exact Or.inl ⟨hc, rfl⟩
  · rename_i h1
    split at e
    · rename_i hc; cases e; exact Or.inr (Or.inl ⟨hc, rfl⟩)
    · rename_i h2
      split at e
      · rename_i hc
        cases e
        refine Or.inr (Or.inr ⟨rfl, ?_⟩)
        rcases hc with ⟨rfl | rfl | rfl | rfl, rfl | rfl | rfl | rfl⟩
        all_goals first
          | exact absurd rfl h1
          | exact absurd (by decide) h2
          | exact ⟨_, List.mem_of_getElem? (i := 0) rfl, ⟨_, _, rfl⟩, ⟨_, _, rfl⟩⟩
          | exact ⟨_, List.mem_of_getElem? (i := 1) rfl, ⟨_, _, rfl⟩, ⟨_, _, rfl⟩⟩
          | exact ⟨_, List.mem_of_getElem? (i := 2) rfl, ⟨_, _, rfl⟩, ⟨_, _, rfl⟩⟩
          | exact ⟨_, List.mem_of_getElem? (i := 3) rfl, ⟨_, _, rfl⟩, ⟨_, _, rfl⟩⟩
          | exact ⟨_, List.mem_of_getElem? (i := 4) rfl, ⟨_, _, rfl⟩, ⟨_, _, rfl⟩⟩
          | exact ⟨_, List.mem_of_getElem? (i := 5) rfl, ⟨_, _, rfl⟩, ⟨_, _, rfl⟩⟩
          | exact ⟨_, List.mem_of_getElem? (i := 6) rfl, ⟨_, _, rfl⟩, ⟨_, _, rfl⟩⟩
          | exact ⟨_, List.mem_of_getElem? (i := 7) rfl, ⟨_, _, rfl⟩, ⟨_, _, rfl⟩⟩
          | exact ⟨_, List.mem_of_getElem? (i := 8) rfl, ⟨_, _, rfl⟩, ⟨_, _, rfl⟩⟩
          | exact ⟨_, List.mem_of_getElem? (i := 9) rfl, ⟨_, _, rfl⟩, ⟨_, _, rfl⟩⟩
      · cases e
theorem sm_acp_inv {st : List Value} {h : HH} {q : List Value × HH} (e : sm_acp st h = some q) : ∃ (n dp : Int32) (j : Nat) (sp : Int32) (i : Nat) (st0 : List Value) (f g : List Int32), st = .int n :: .int dp :: .ref j :: .int sp :: .ref i :: st0 ∧ h[i]? = some (.inl (.int, f)) ∧ h[j]? = some (.inl (.int, g)) ∧ (¬ sp < 0 ∧ ¬ dp < 0 ∧ ¬ n < 0 ∧ sp.toNatClampNeg + n.toNatClampNeg ≤ f.length ∧ dp.toNatClampNeg + n.toNatClampNeg ≤ g.length ∧ (st0.map fun v => v.category).sum ≤ 8) ∧ q = (st0, h.set j (.inl (.int, sm_cpy f g sp.toNatClampNeg dp.toNatClampNeg n.toNatClampNeg))) := by
  unfold sm_acp at e
  split at e
  · split at e
    · rename_i he1 he2
      split at e
      · rename_i hc
        obtain ⟨rfl, rfl, h1⟩ := hc
        cases e
        exact ⟨_, _, _, _, _, _, _, _, rfl, he1, he2, h1, rfl⟩
      · cases e
    · cases e
  · cases e

def sm_call0 (xs : List Int32) (n : Nat) : CR := fun y as h => match sm_MT[y]? with
  | none => none
  | some k => if (sm_lin as).length ≤ mi_ml k then sm_run0 xs n y 0 (sm_loc k as) [] h else none
theorem sm_run0_succ (xs : List Int32) (n y pc : Nat) (L : LL) (st : List Value) (h : HH) : sm_run0 xs (n + 1) y pc L st h = match sm_MT[y]? with
    | none => none
    | some m => match sm_ins m pc with
      | none => none
      | some i => match sm_ret m i st with
        | some r => some (r, h)
        | none => match sm_stp xs (sm_call0 xs n) m i pc L st h with
          | some q => sm_run0 xs n y q.1 q.2.1 q.2.2.1 q.2.2.2
          | none => none := rfl
theorem sm_cal_use {C : CR} {m : MI} {y : Nat} {as rest : List Value} {h : HH} {q : List Value × HH} (e : sm_cal C m y as rest h = some q) (C' : CR) (hC : ∀ r, C y as h = some r → C' y as h = some r) : sm_cal C' m y as rest h = some q := by
  unfold sm_cal at e ⊢
  cases hk : sm_MT[y]? with
  | none => rw [hk] at e; cases e
  | some k =>
    rw [hk] at e
    dsimp only at e ⊢
    split at e
    · rename_i hc
      rw [if_pos hc]
      cases hr : C y as h with
      | none => rw [hr] at e; cases e
      | some r => rw [hr] at e; rw [hC _ hr]; exact e
    · cases e
theorem sm_vrt_use {C : CR} {m : MI} {q : Nat × MethodName × List (Nat × Nat × Nat × List Nat)} {st : List Value} {h : HH} {o : List Value × HH} (e : sm_vrt C m q st h = some o) : ∃ (y : Nat) (as : List Value), ∀ C' : CR, (∀ r, C y as h = some r → C' y as h = some r) → sm_vrt C' m q st h = some o := by
  unfold sm_vrt at e
  split at e
  · rename_i hl
    split at e
    · rename_i i rest hd
      split at e
      · rename_i c hc
        split at e
        · rename_i z hz
          refine ⟨z.2.1, .ref i :: (st.take q.1).reverse, fun C' hC => ?_⟩
          unfold sm_vrt
          rw [if_pos hl, hd]
          dsimp only
          rw [hc]
          dsimp only
          rw [hz]
          exact sm_cal_use e C' hC
        · cases e
      · cases e
    · cases e
  · cases e
theorem sm_sta_use {C : CR} {m : MI} {q : Nat × Nat × Nat × List Nat} {st : List Value} {h : HH} {o : List Value × HH} (e : sm_sta C m q st h = some o) : ∃ (y : Nat) (as : List Value), ∀ C' : CR, (∀ r, C y as h = some r → C' y as h = some r) → sm_sta C' m q st h = some o := by
  unfold sm_sta at e
  split at e
  · rename_i hl
    refine ⟨q.2.1, (st.take q.1).reverse, fun C' hC => ?_⟩
    unfold sm_sta
    rw [if_pos hl]
    exact sm_cal_use e C' hC
  · cases e
theorem sm_spc_use {C : CR} {m : MI} {q : Nat × Nat × Nat × List Nat} {st : List Value} {h : HH} {o : List Value × HH} (e : sm_spc C m q st h = some o) : ∃ (y : Nat) (as : List Value), ∀ C' : CR, (∀ r, C y as h = some r → C' y as h = some r) → sm_spc C' m q st h = some o := by
  unfold sm_spc at e
  split at e
  · rename_i hl
    split at e
    · rename_i i rest hd
      refine ⟨q.2.1, .ref i :: (st.take q.1).reverse, fun C' hC => ?_⟩
      unfold sm_spc
      rw [if_pos hl, hd]
      exact sm_cal_use e C' hC
    · cases e
  · cases e
theorem sm_inv_use {C : CR} {m : MI} {i : Instr} {st : List Value} {h : HH} {o : List Value × HH} (e : sm_inv C m i st h = some o) : ∃ (y : Nat) (as : List Value), ∀ C' : CR, (∀ r, C y as h = some r → C' y as h = some r) → sm_inv C' m i st h = some o := by
  unfold sm_inv at e ⊢
  split at e
  · rename_i idx
    split at e
    · obtain ⟨y, as, hh⟩ := sm_vrt_use e
      exact ⟨y, as, fun C' hC => hh C' hC⟩
    · exact ⟨0, [], fun _ _ => e⟩
  · rename_i idx
    split at e
    · obtain ⟨y, as, hh⟩ := sm_sta_use e
      exact ⟨y, as, fun C' hC => hh C' hC⟩
    · exact ⟨0, [], fun _ _ => e⟩
  · rename_i idx
    split at e
    · obtain ⟨y, as, hh⟩ := sm_spc_use e
      exact ⟨y, as, fun C' hC => hh C' hC⟩
    · exact ⟨0, [], fun _ _ => e⟩
  · cases e
theorem sm_stp_use {xs : List Int32} {C : CR} {m : MI} {i : Instr} {pc : Nat} {L : LL} {st : List Value} {h : HH} {o : SS} (e : sm_stp xs C m i pc L st h = some o) : ∃ (y : Nat) (as : List Value), ∀ C' : CR, (∀ r, C y as h = some r → C' y as h = some r) → sm_stp xs C' m i pc L st h = some o := by
  unfold sm_stp at e ⊢
  split at e
  · exact ⟨0, [], fun _ _ => e⟩
  · split at e
    · exact ⟨0, [], fun _ _ => e⟩
    · split at e
      · exact ⟨0, [], fun _ _ => e⟩
      · split at e
        · rename_i q hq
          obtain ⟨y, as, hh⟩ := sm_inv_use hq
          exact ⟨y, as, fun C' hC => by rw [hh C' hC]; exact e⟩
        · cases e
theorem sm_run0_mono (xs : List Int32) : ∀ (n y pc : Nat) (L : LL) (st : List Value) (h : HH) (r : Option Value × HH), sm_run0 xs n y pc L st h = some r → sm_run0 xs (n + 1) y pc L st h = some r := by
  intro n
  induction n with
  | zero => intro y pc L st h r e; cases e
  | succ n ih =>
    intro y pc L st h r e
    rw [sm_run0_succ] at e ⊢
    cases hm : sm_MT[y]? with
    | none => rw [hm] at e; cases e
    | some m =>
      rw [hm] at e
      dsimp only at e ⊢
      cases hi : sm_ins m pc with
      | none => rw [hi] at e; cases e
      | some i =>
        rw [hi] at e
        dsimp only at e ⊢
        cases hr : sm_ret m i st with
        | some v => rw [hr] at e; exact e
        | none =>
          rw [hr] at e
          dsimp only at e ⊢
          cases hs : sm_stp xs (sm_call0 xs n) m i pc L st h with
          | none => rw [hs] at e; cases e
          | some q =>
            rw [hs] at e
            obtain ⟨yy, as, hh⟩ := sm_stp_use hs
            rw [hh (sm_call0 xs (n + 1)) (fun r hr => by
              unfold sm_call0 at hr ⊢
              cases hk : sm_MT[yy]? with
              | none => rw [hk] at hr; cases hr
              | some k =>
                rw [hk] at hr
                dsimp only at hr ⊢
                split at hr
                · rename_i hc
                  rw [if_pos hc]
                  exact ih _ _ _ _ _ _ hr
                · cases hr)]
            exact ih _ _ _ _ _ _ e
theorem sm_run0_le (xs : List Int32) {n k y pc : Nat} {L : LL} {st : List Value} {h : HH} {r : Option Value × HH} (hk : n ≤ k) (e : sm_run0 xs n y pc L st h = some r) : sm_run0 xs k y pc L st h = some r := by
  induction hk with
  | refl => exact e
  | step _ ih => exact sm_run0_mono xs _ _ _ _ _ _ _ ih
theorem sm_lim (xs : List Int32) (y pc : Nat) (L : LL) (st : List Value) (h : HH) : ∃ o : Option (Option Value × HH), ∀ r, o = some r ↔ ∃ n, sm_run0 xs n y pc L st h = some r := by
  by_cases hx : ∃ (r : Option Value × HH) (n : Nat), sm_run0 xs n y pc L st h = some r
  · obtain ⟨r, n, e⟩ := hx
    refine ⟨some r, fun q => ⟨fun hq => ⟨n, by rw [e, hq]⟩, fun ⟨k, hk⟩ => ?_⟩⟩
    have h1 := sm_run0_le xs (Nat.le_max_left n k) e
    have h2 := sm_run0_le xs (Nat.le_max_right n k) hk
    rw [← h1, h2]
  · exact ⟨none, fun q => ⟨fun hq => (by cases hq), fun ⟨k, hk⟩ => absurd ⟨q, k, hk⟩ hx⟩⟩
noncomputable def sm_run (xs : List Int32) (y pc : Nat) (L : LL) (st : List Value) (h : HH) : Option (Option Value × HH) := Classical.choose (sm_lim xs y pc L st h)
theorem sm_run_iff {xs : List Int32} {y pc : Nat} {L : LL} {st : List Value} {h : HH} {r : Option Value × HH} : sm_run xs y pc L st h = some r ↔ ∃ n, sm_run0 xs n y pc L st h = some r := Classical.choose_spec (sm_lim xs y pc L st h) r
noncomputable def sm_call (xs : List Int32) : CR := fun y as h => match sm_MT[y]? with
  | none => none
  | some k => if (sm_lin as).length ≤ mi_ml k then sm_run xs y 0 (sm_loc k as) [] h else none
theorem sm_call_iff {xs : List Int32} {y : Nat} {as : List Value} {h : HH} {r : Option Value × HH} : sm_call xs y as h = some r ↔ ∃ n, sm_call0 xs n y as h = some r := by
  unfold sm_call sm_call0
  cases hk : sm_MT[y]? with
  | none => simp
  | some k =>
    dsimp only
    split
    · exact sm_run_iff
    · simp
theorem sm_call0_le (xs : List Int32) {n k y : Nat} {as : List Value} {h : HH} {r : Option Value × HH} (hk : n ≤ k) (e : sm_call0 xs n y as h = some r) : sm_call0 xs k y as h = some r := by
  unfold sm_call0 at e ⊢
  cases hm : sm_MT[y]? with
  | none => rw [hm] at e; cases e
  | some m =>
    rw [hm] at e
    dsimp only at e ⊢
    split at e
    · rename_i hc
      rw [if_pos hc]
      exact sm_run0_le xs hk e
    · cases e
theorem sm_step {xs : List Int32} {y pc : Nat} {m : MI} {i : Instr} {L : LL} {st : List Value} {h : HH} (hm : sm_MT[y]? = some m) (hi : sm_ins m pc = some i) (hr : sm_ret m i st = none) : sm_run xs y pc L st h = match sm_stp xs (sm_call xs) m i pc L st h with
    | some q => sm_run xs y q.1 q.2.1 q.2.2.1 q.2.2.2
    | none => none := by
  apply Option.ext
  intro r
  constructor
  · intro e
    obtain ⟨n, hn⟩ := sm_run_iff.mp e
    cases n with
    | zero => cases hn
    | succ n =>
      rw [sm_run0_succ, hm] at hn
      dsimp only at hn
      rw [hi] at hn
      dsimp only at hn
      rw [hr] at hn
      dsimp only at hn
      cases hs : sm_stp xs (sm_call0 xs n) m i pc L st h with
      | none => rw [hs] at hn; cases hn
      | some q =>
        rw [hs] at hn
        obtain ⟨yy, as, hh⟩ := sm_stp_use hs
        rw [hh (sm_call xs) (fun r hr => sm_call_iff.mpr ⟨n, hr⟩)]
        exact sm_run_iff.mpr ⟨n, hn⟩
  · intro e
    cases hs : sm_stp xs (sm_call xs) m i pc L st h with
    | none => rw [hs] at e; cases e
    | some q =>
      rw [hs] at e
      dsimp only at e
      obtain ⟨n, hn⟩ := sm_run_iff.mp e
      obtain ⟨yy, as, hh⟩ := sm_stp_use hs
      have hex : ∃ k, sm_stp xs (sm_call0 xs k) m i pc L st h = some q := by
        cases hc : sm_call xs yy as h with
        | none => exact ⟨0, hh _ (fun r hr => by rw [hc] at hr; cases hr)⟩
        | some v =>
          obtain ⟨k, hk⟩ := sm_call_iff.mp hc
          exact ⟨k, hh _ (fun r hr => by rw [hc] at hr; cases hr; exact hk)⟩
      obtain ⟨k, hk⟩ := hex
      refine sm_run_iff.mpr ⟨max n k + 1, ?_⟩
      rw [sm_run0_succ, hm]
      dsimp only
      rw [hi]
      dsimp only
      rw [hr]
      dsimp only
      obtain ⟨y2, as2, hh2⟩ := sm_stp_use hk
      rw [hh2 (sm_call0 xs (max n k)) (fun r hr => sm_call0_le xs (Nat.le_max_right n k) hr)]
      exact sm_run0_le xs (Nat.le_max_left n k) hn
theorem sm_return {xs : List Int32} {y pc : Nat} {m : MI} {i : Instr} {L : LL} {st : List Value} {h : HH} {r : Option Value} (hm : sm_MT[y]? = some m) (hi : sm_ins m pc = some i) (hr : sm_ret m i st = some r) : sm_run xs y pc L st h = some (r, h) := by
  refine sm_run_iff.mpr ⟨1, ?_⟩
  rw [sm_run0_succ, hm]
  dsimp only
  rw [hi]
  dsimp only
  rw [hr]
-- what is there grows, no cell's size changes
def sm_csz (e : AE) : Nat := match e with
  | .inl q => q.2.length
  | .inr (.inl l) => l.length
  | .inr (.inr q) => q.2.length
def sm_sz (h : HH) : Nat := (h.map sm_csz).sum
theorem sm_sz_set : ∀ {h : HH} {i : Nat} {e f : AE}, h[i]? = some e → sm_csz f = sm_csz e → sm_sz (h.set i f) = sm_sz h := by
  intro h
  induction h with
  | nil => intro i e f he; simp at he
  | cons a h ih =>
    intro i e f he hs
    cases i with
    | zero =>
      simp at he
      subst he
      simp [sm_sz, hs]
    | succ i =>
      simp only [List.getElem?_cons_succ] at he
      have := ih he hs
      simp only [sm_sz] at this ⊢
      simp only [List.set_cons_succ, List.map_cons, List.sum_cons, this]
theorem sm_sz_app (h : HH) (e : AE) : sm_sz (h ++ [e]) = sm_sz h + sm_csz e := by
  simp [sm_sz]
def sm_gr (h h' : HH) : Prop := h.length ≤ h'.length ∧ sm_sz h ≤ sm_sz h'
theorem sm_gr_rf (h : HH) : sm_gr h h := ⟨Nat.le_refl _, Nat.le_refl _⟩
theorem sm_gr_tr {a b c : HH} (h : sm_gr a b) (k : sm_gr b c) : sm_gr a c := ⟨Nat.le_trans h.1 k.1, Nat.le_trans h.2 k.2⟩
theorem sm_gr_set {h : HH} {i : Nat} {e f : AE} (he : h[i]? = some e) (hs : sm_csz f = sm_csz e) : sm_gr h (h.set i f) := ⟨by simp, by rw [sm_sz_set he hs]; exact Nat.le_refl _⟩
theorem sm_gr_app (h : HH) (e : AE) : sm_gr h (h ++ [e]) := ⟨by simp, by rw [sm_sz_app]; omega⟩

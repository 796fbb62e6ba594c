theorem dok_0 : dok 6 0 (fun _ => 0) := ⟨fun _ _ => ⟨0, Nat.zero_le _, rfl, fun _ => rfl⟩, fun _ _ => ⟨0, Nat.zero_le _, rfl⟩, fun _ _ _ _ => ⟨0, Nat.zero_le _, rfl, fun _ => rfl⟩, ⟨0, Nat.zero_le _, rfl⟩⟩
theorem kok_0 : kok i0_G := by
  intro j hj
  refine ⟨0, Nat.zero_le _, ?_⟩
  unfold i0_G
  rw [if_neg (show ¬ 11 + j = 0 by omega), if_neg (show ¬ 11 + j ≤ 9 by omega)]
  rfl
theorem cpl_0 : cpl S_0 := by
  refine ⟨6, 0, 0, 0, 0, 0, ⟨by omega, by omega, by omega, rfl, rfl, kok_0, dok_0, rfl⟩, dok_0, rfl, rfl, ⟨rfl, .inl rfl⟩, ⟨rfl, .inl rfl⟩, ⟨rfl, rfl, rfl, by omega, by omega, Nat.zero_le _, Nat.zero_le _, fun i hi => absurd hi (Nat.not_lt_zero i)⟩, ⟨rfl, rfl, by omega, rfl, rfl⟩, ⟨rfl, rfl, by omega, rfl⟩, rfl⟩
theorem h_0len : h_0.length = 45 := by unfold h_0; rw [List.length_map, List.length_range]
theorem lw_all (xs : List Int32) (hx : xs.length < 2 ^ 29) : ∃ S' : GS, sm_call xs n_L_law [.ref (sm_B + 9)] [] = some (some (.int 1), hp S') ∧ gQ S' ≤ 8 := by
  obtain ⟨S', C', e⟩ := lw_loop (hGrow_all xs) hx (xs.length + 6) 0 S_0 cpl_0 (by omega) (by omega)
  have e9 : sm_call xs n_X9_init [.ref 0] [.inr (.inr (9, sm_dfl 9))] = some (none, h_0) := sm_call_iff.mpr ⟨300, i_9 xs⟩
  have e10 : sm_call xs n_X10_init [.ref 45] (h_0 ++ [.inr (.inr (10, sm_dfl 10))]) = some (none, hp S_0) := sm_call_iff.mpr ⟨300, i_10 xs⟩
  refine ⟨S', ?_, cpl_q C'⟩
  have b0 : ([] : HH).length < sm_B := by decide
  have b1 : h_0.length < sm_B := by rw [h_0len]; decide
  refine Eq.trans ?_ e
  rw [c0_L_law, s_L_law_0 b0, s_L_law_3, s_L_law_4 (by decide) (by rw [List.nil_append, List.length_nil, e9]; rfl)]
  rw [List.nil_append, List.length_nil, e9]
  show sm_run xs n_L_law 7 [some (.ref (sm_B + 9)), none, none, none] [.ref 0] h_0 = _
  rw [s_L_law_7, s_L_law_8 b1, s_L_law_11, h_0len, s_L_law_12 (by decide) (by rw [e10]; rfl), e10]
  show sm_run xs n_L_law 15 [some (.ref (sm_B + 9)), some (.ref 0), none, none] [.ref 45] (hp S_0) = _
  rw [s_L_law_15, s_L_law_16, s_L_law_17]
  rfl

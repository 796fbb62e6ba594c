-- growth
theorem sm_hop_gr {xs : List Int32} {mi : MI} {i : Instr} {st : List Value} {h : HH} {o : List Value × HH} (hp : sm_hop xs mi i st h = some o) (hl : h.length ≤ sm_B) : sm_gr h o.2 ∧ o.2.length ≤ sm_B := by
  have same : o.2 = h → sm_gr h o.2 ∧ o.2.length ≤ sm_B := fun e => by rw [e]; exact ⟨sm_gr_rf h, hl⟩
  unfold sm_hop at hp
  split at hp
  · split at hp
    · obtain ⟨i, st0, fs, v, rfl, he, hv, rfl⟩ := sm_get_inv hp; exact same rfl
    · cases hp
  · split at hp
    · obtain ⟨v, i, st0, fs, rfl, he, hkl, hpk, hfi, rfl⟩ := sm_put_inv hp
      exact ⟨sm_gr_set he (by simp [sm_csz]), by simp; exact hl⟩
    · cases hp
  · obtain ⟨j, i, st0, rfl, ⟨w, he, hin, rfl⟩ | ⟨rfl, -, hin, rfl⟩⟩ := sm_ald_inv hp <;> exact same rfl
  · obtain ⟨j, i, st0, rfl, ⟨w, he, hin, rfl⟩ | ⟨rfl, -, hin, rfl⟩⟩ := sm_ald_inv hp <;> exact same rfl
  · obtain ⟨j, i, st0, rfl, ⟨w, he, hin, rfl⟩ | ⟨rfl, -, hin, rfl⟩⟩ := sm_ald_inv hp <;> exact same rfl
  · obtain ⟨x, j, i, st0, w, rfl, he, hin, rfl⟩ := sm_ast_inv hp
    exact ⟨sm_gr_set he (by simp [sm_csz]), by simp; exact hl⟩
  · obtain ⟨x, j, i, st0, w, rfl, he, hin, rfl⟩ := sm_ast_inv hp
    exact ⟨sm_gr_set he (by simp [sm_csz]), by simp; exact hl⟩
  · obtain ⟨x, j, i, st0, w, rfl, he, hin, rfl⟩ := sm_ast_inv hp
    exact ⟨sm_gr_set he (by simp [sm_csz]), by simp; exact hl⟩
  · obtain ⟨j, i, st0, w, rfl, he, hin, rfl⟩ := sm_aald_inv hp; exact same rfl
  · obtain ⟨k, j, i, st0, w, fs, rfl, he, hf, hin, rfl⟩ := sm_aast_inv hp
    exact ⟨sm_gr_set he (by simp [sm_csz]), by simp; exact hl⟩
  · obtain ⟨i, st0, rfl, ⟨w, he, rfl⟩ | ⟨rfl, rfl⟩⟩ := sm_alen_inv hp <;> exact same rfl
  · obtain ⟨n, st0, ty, rfl, hty, hn0, hn, hlt, rfl⟩ := sm_newa_inv hp
    exact ⟨sm_gr_app h _, by simp; omega⟩
  · split at hp
    · obtain ⟨n, st0, rfl, hn0, hn, hlt, rfl⟩ := sm_newq_inv hp
      exact ⟨sm_gr_app h _, by simp; omega⟩
    · cases hp
  · split at hp
    · unfold sm_new at hp
      split at hp
      · cases hp; exact ⟨sm_gr_app h _, by simp; omega⟩
      · cases hp
    · cases hp
  · split at hp
    · obtain ⟨i, st0, ci, fs, x, rfl, he, hsb, rfl⟩ := sm_inst_inv hp; exact same rfl
    · cases hp
  · split at hp
    · cases hp; exact same rfl
    · cases hp
  · split at hp
    · cases hp; exact same rfl
    · cases hp
  · cases hp
theorem sm_slen_inv {st : List Value} {h : HH} {o : List Value × HH} (e : sm_slen st h = some o) : ∃ (k : Nat) (st0 : List Value), st = .ref (sm_B + k) :: st0 ∧ k < 9 ∧ (st0.map fun v => v.category).sum ≤ 8 ∧ o = (.int (Int32.ofNat (sm_strs.getD k []).length) :: st0, h) := by
  unfold sm_slen at e
  split at e
  · rename_i i st0
    split at e
    · rename_i hc
      obtain ⟨h1, h2, h3⟩ := hc
      cases e
      refine ⟨i - sm_B, st0, ?_, h2, h3, rfl⟩
      rw [Nat.add_sub_cancel' h1]
    · cases e
  · cases e
theorem sm_sch_inv {st : List Value} {h : HH} {o : List Value × HH} (e : sm_sch st h = some o) : ∃ (j : Int32) (k : Nat) (st0 : List Value), st = .int j :: .ref (sm_B + k) :: st0 ∧ k < 9 ∧ ¬ (j < 0 ∨ (sm_strs.getD k []).length ≤ j.toNatClampNeg) ∧ (st0.map fun v => v.category).sum ≤ 8 ∧ o = (.int ((sm_strs.getD k []).getD j.toNatClampNeg 0) :: st0, h) := by
  unfold sm_sch at e
  split at e
  · rename_i j i st0
    split at e
    · rename_i hc
      obtain ⟨h1, h2, h3, h4⟩ := hc
      cases e
      refine ⟨j, i - sm_B, st0, ?_, h2, h3, h4, rfl⟩
      rw [Nat.add_sub_cancel' h1]
    · cases e
  · cases e
theorem sm_inv_gr {C : CR} {mi : MI} {i : Instr} {st : List Value} {h : HH} {o : List Value × HH} (IH : ∀ (y : Nat) (as : List Value) (h : HH) (r : Option Value) (h' : HH), h.length ≤ sm_B → C y as h = some (r, h') → sm_gr h h' ∧ h'.length ≤ sm_B) (hp : sm_inv C mi i st h = some o) (hl : h.length ≤ sm_B) : sm_gr h o.2 ∧ o.2.length ≤ sm_B := by
  have same : o.2 = h → sm_gr h o.2 ∧ o.2.length ≤ sm_B := fun e => by rw [e]; exact ⟨sm_gr_rf h, hl⟩
  unfold sm_inv at hp
  split at hp
  · split at hp
    · unfold sm_vrt at hp
      split at hp
      · split at hp
        · split at hp
          · split at hp
            · obtain ⟨k, r, h', hk, -, -, -, hC, rfl⟩ := sm_cal_inv hp
              exact IH _ _ _ _ _ hl hC
            · cases hp
          · cases hp
        · cases hp
      · cases hp
    · split at hp
      · split at hp
        · split at hp
          · obtain ⟨k, st0, rfl, -, -, rfl⟩ := sm_slen_inv hp; exact same rfl
          · obtain ⟨j, k, st0, rfl, -, -, -, rfl⟩ := sm_sch_inv hp; exact same rfl
        · cases hp
      · cases hp
  · split at hp
    · unfold sm_sta at hp
      split at hp
      · obtain ⟨k, r, h', hk, -, -, -, hC, rfl⟩ := sm_cal_inv hp
        exact IH _ _ _ _ _ hl hC
      · cases hp
    · split at hp
      · split at hp
        · obtain ⟨n, dp, j, sp, i, st0, f, g, rfl, hi, hj, -, rfl⟩ := sm_acp_inv hp
          exact ⟨sm_gr_set hj (by simp [sm_csz, sm_cpy_len]), by simp; exact hl⟩
        · cases hp
      · split at hp
        · split at hp
          · rcases sm_mat_inv hp with ⟨hk, x, y, st0, rfl, hsum, rfl⟩ | ⟨hk, x, y, st0, rfl, hsum, rfl⟩ | ⟨hk, x, st0, rfl, hsum, rfl⟩ <;> exact same rfl
          · cases hp
        · cases hp
  · split at hp
    · unfold sm_spc at hp
      split at hp
      · split at hp
        · obtain ⟨k, r, h', hk, -, -, -, hC, rfl⟩ := sm_cal_inv hp
          exact IH _ _ _ _ _ hl hC
        · cases hp
      · cases hp
    · split at hp
      · split at hp
        · unfold sm_obj at hp
          split at hp
          · split at hp
            · cases hp; exact same rfl
            · cases hp
          · cases hp
        · cases hp
      · cases hp
  · cases hp
theorem sm_run0_inv {xs : List Int32} {n y pc : Nat} {L : LL} {st : List Value} {h : HH} {r : Option Value × HH} (e : sm_run0 xs (n + 1) y pc L st h = some r) : ∃ (mi : MI) (i : Instr), sm_MT[y]? = some mi ∧ sm_ins mi pc = some i ∧ ((∃ v, sm_ret mi i st = some v ∧ r = (v, h)) ∨ (∃ q : SS, sm_stp xs (sm_call0 xs n) mi i pc L st h = some q ∧ sm_run0 xs n y q.1 q.2.1 q.2.2.1 q.2.2.2 = some r)) := by
  rw [sm_run0_succ] at e
  split at e
  · cases e
  · rename_i mi hm
    split at e
    · cases e
    · rename_i i hi
      split at e
      · rename_i v hv
        cases e
        exact ⟨mi, i, hm, hi, Or.inl ⟨v, hv, rfl⟩⟩
      · split at e
        · rename_i q hq
          exact ⟨mi, i, hm, hi, Or.inr ⟨q, hq, e⟩⟩
        · cases e
theorem sm_stp_inv {xs : List Int32} {C : CR} {mi : MI} {i : Instr} {pc : Nat} {L : LL} {st : List Value} {h : HH} {q : SS} (e : sm_stp xs C mi i pc L st h = some q) : (∃ o, sm_pur i L st = some o ∧ q = (pc + sm_ilen i, o.1, o.2, h)) ∨ (∃ o, sm_ctl i pc st = some o ∧ q = (o.1, L, o.2, h)) ∨ (∃ o, sm_hop xs mi i st h = some o ∧ q = (pc + sm_ilen i, L, o.1, o.2)) ∨ (∃ o, sm_inv C mi i st h = some o ∧ q = (pc + 3, L, o.1, o.2)) := by
  unfold sm_stp at e
  split at e
  · rename_i o ho; cases e; exact Or.inl ⟨o, ho, rfl⟩
  · split at e
    · rename_i o ho; cases e; exact Or.inr (Or.inl ⟨o, ho, rfl⟩)
    · split at e
      · rename_i o ho; cases e; exact Or.inr (Or.inr (Or.inl ⟨o, ho, rfl⟩))
      · split at e
        · rename_i o ho; cases e; exact Or.inr (Or.inr (Or.inr ⟨o, ho, rfl⟩))
        · cases e
theorem sm_call0_inv {xs : List Int32} {n y : Nat} {as : List Value} {h : HH} {r : Option Value × HH} (e : sm_call0 xs n y as h = some r) : ∃ k : MI, sm_MT[y]? = some k ∧ (sm_lin as).length ≤ mi_ml k ∧ sm_run0 xs n y 0 (sm_loc k as) [] h = some r := by
  unfold sm_call0 at e
  split at e
  · cases e
  · rename_i k hk
    split at e
    · rename_i hc; exact ⟨k, hk, hc, e⟩
    · cases e
theorem sm_run0_gr (xs : List Int32) : ∀ (n y pc : Nat) (L : LL) (st : List Value) (h : HH) (r : Option Value) (h' : HH), h.length ≤ sm_B → sm_run0 xs n y pc L st h = some (r, h') → sm_gr h h' ∧ h'.length ≤ sm_B := by
  intro n
  induction n with
  | zero => intro y pc L st h r h' _ e; cases e
  | succ n ih =>
    intro y pc L st h r h' hl e
    obtain ⟨mi, i, hm, hi, ⟨v, hv, hr⟩ | ⟨q, hq, hr⟩⟩ := sm_run0_inv e
    · cases hr; exact ⟨sm_gr_rf h, hl⟩
    · have hstep : sm_gr h q.2.2.2 ∧ q.2.2.2.length ≤ sm_B := by
        rcases sm_stp_inv hq with ⟨o, ho, rfl⟩ | ⟨o, ho, rfl⟩ | ⟨o, ho, rfl⟩ | ⟨o, ho, rfl⟩
        · exact ⟨sm_gr_rf h, hl⟩
        · exact ⟨sm_gr_rf h, hl⟩
        · exact sm_hop_gr ho hl
        · refine sm_inv_gr (fun y as h r h' hl e => ?_) ho hl
          obtain ⟨k, hk, -, e2⟩ := sm_call0_inv e
          exact ih _ _ _ _ _ _ _ hl e2
      obtain ⟨h1, h2⟩ := ih _ _ _ _ _ _ _ hstep.2 hr
      exact ⟨sm_gr_tr hstep.1 h1, h2⟩
-- String's methods: what is owed of them
def sm_StrL : Prop := ∀ (xs : List Int32) (l : Launch) (D : va_G) (b : Nat) (sK aV : Nat → Nat) (cid : FieldType → ClassId) (h : HH) (k : Nat), k < 9 → Met l yJ0_length_8abf5 (Cond.code yJ0_length_8abf5 cJ0_length_8abf5 1 (some .int) :: sm_GG) { frames := 1, cells := 0, slots := 0, locals := 40 } (sm_Pc xs b sK aV cid D [.ref (sm_B + k)] h) (sm_Qc b sK cid D (some (.int (Int32.ofNat (sm_strs.getD k []).length))) h) 0 0 (fun q => b ≤ q)
def sm_StrC : Prop := ∀ (xs : List Int32) (l : Launch) (D : va_G) (b : Nat) (sK aV : Nat → Nat) (cid : FieldType → ClassId) (h : HH) (k : Nat) (j : Int32), k < 9 → ¬ (j < 0 ∨ (sm_strs.getD k []).length ≤ j.toNatClampNeg) → Met l yJ0_charAt_5068e (Cond.code yJ0_charAt_5068e cJ0_charAt_5068e 2 (some .char) :: sm_GG) { frames := 3, cells := 0, slots := 0, locals := 90 } (sm_Pc xs b sK aV cid D [.ref (sm_B + k), .int j] h) (sm_Qc b sK cid D (some (.int ((sm_strs.getD k []).getD j.toNatClampNeg 0))) h) 0 0 (fun q => b ≤ q)

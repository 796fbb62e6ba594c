theorem gl_get {a b : Nat} {st : List Value} {h : HH} {q : List Value × HH} (e : sm_get a b st h = some q) : h.length ≤ q.2.length := by
  unfold sm_get at e
  (repeat' split at e) <;> first | (cases e; done) | (cases e; exact Nat.le_refl _) | (cases e; simp only [List.length_set, List.length_append]; omega)
theorem gl_put {m : MI} {a b : Nat} {st : List Value} {h : HH} {q : List Value × HH} (e : sm_put m a b st h = some q) : h.length ≤ q.2.length := by
  unfold sm_put at e
  (repeat' split at e) <;> first | (cases e; done) | (cases e; exact Nat.le_refl _) | (cases e; simp only [List.length_set, List.length_append]; omega)
theorem gl_ald {xs : List Int32} {ty : FieldType} {st : List Value} {h : HH} {q : List Value × HH} (e : sm_ald xs ty st h = some q) : h.length ≤ q.2.length := by
  unfold sm_ald at e
  (repeat' split at e) <;> first | (cases e; done) | (cases e; exact Nat.le_refl _) | (cases e; simp only [List.length_set, List.length_append]; omega)
theorem gl_ast {ty : FieldType} {st : List Value} {h : HH} {q : List Value × HH} (e : sm_ast ty st h = some q) : h.length ≤ q.2.length := by
  unfold sm_ast at e
  (repeat' split at e) <;> first | (cases e; done) | (cases e; exact Nat.le_refl _) | (cases e; simp only [List.length_set, List.length_append]; omega)
theorem gl_aald  {st : List Value} {h : HH} {q : List Value × HH} (e : sm_aald st h = some q) : h.length ≤ q.2.length := by
  unfold sm_aald at e
  (repeat' split at e) <;> first | (cases e; done) | (cases e; exact Nat.le_refl _) | (cases e; simp only [List.length_set, List.length_append]; omega)
theorem gl_aast  {st : List Value} {h : HH} {q : List Value × HH} (e : sm_aast st h = some q) : h.length ≤ q.2.length := by
  unfold sm_aast at e
  (repeat' split at e) <;> first | (cases e; done) | (cases e; exact Nat.le_refl _) | (cases e; simp only [List.length_set, List.length_append]; omega)
theorem gl_alen {xs : List Int32} {st : List Value} {h : HH} {q : List Value × HH} (e : sm_alen xs st h = some q) : h.length ≤ q.2.length := by
  unfold sm_alen at e
  (repeat' split at e) <;> first | (cases e; done) | (cases e; exact Nat.le_refl _) | (cases e; simp only [List.length_set, List.length_append]; omega)
theorem gl_newa {t : ArrayType} {st : List Value} {h : HH} {q : List Value × HH} (e : sm_newa t st h = some q) : h.length ≤ q.2.length := by
  unfold sm_newa at e
  (repeat' split at e) <;> first | (cases e; done) | (cases e; exact Nat.le_refl _) | (cases e; simp only [List.length_set, List.length_append]; omega)
theorem gl_newq  {st : List Value} {h : HH} {q : List Value × HH} (e : sm_newq st h = some q) : h.length ≤ q.2.length := by
  unfold sm_newq at e
  (repeat' split at e) <;> first | (cases e; done) | (cases e; exact Nat.le_refl _) | (cases e; simp only [List.length_set, List.length_append]; omega)
theorem gl_new {ci : Nat} {st : List Value} {h : HH} {q : List Value × HH} (e : sm_new ci st h = some q) : h.length ≤ q.2.length := by
  unfold sm_new at e
  (repeat' split at e) <;> first | (cases e; done) | (cases e; exact Nat.le_refl _) | (cases e; simp only [List.length_set, List.length_append]; omega)
theorem gl_inst {d : Nat} {st : List Value} {h : HH} {q : List Value × HH} (e : sm_inst d st h = some q) : h.length ≤ q.2.length := by
  unfold sm_inst at e
  (repeat' split at e) <;> first | (cases e; done) | (cases e; exact Nat.le_refl _) | (cases e; simp only [List.length_set, List.length_append]; omega)
theorem gl_acp  {st : List Value} {h : HH} {q : List Value × HH} (e : sm_acp st h = some q) : h.length ≤ q.2.length := by
  unfold sm_acp at e
  (repeat' split at e) <;> first | (cases e; done) | (cases e; exact Nat.le_refl _) | (cases e; simp only [List.length_set, List.length_append]; omega)
theorem gl_obj  {st : List Value} {h : HH} {q : List Value × HH} (e : sm_obj st h = some q) : h.length ≤ q.2.length := by
  unfold sm_obj at e
  (repeat' split at e) <;> first | (cases e; done) | (cases e; exact Nat.le_refl _) | (cases e; simp only [List.length_set, List.length_append]; omega)
theorem gl_slen  {st : List Value} {h : HH} {q : List Value × HH} (e : sm_slen st h = some q) : h.length ≤ q.2.length := by
  unfold sm_slen at e
  (repeat' split at e) <;> first | (cases e; done) | (cases e; exact Nat.le_refl _) | (cases e; simp only [List.length_set, List.length_append]; omega)
theorem gl_sch  {st : List Value} {h : HH} {q : List Value × HH} (e : sm_sch st h = some q) : h.length ≤ q.2.length := by
  unfold sm_sch at e
  (repeat' split at e) <;> first | (cases e; done) | (cases e; exact Nat.le_refl _) | (cases e; simp only [List.length_set, List.length_append]; omega)
theorem gl_mat {k : Nat} {st : List Value} {h : HH} {q : List Value × HH} (e : sm_mat k st h = some q) : h.length ≤ q.2.length := by
  unfold sm_mat at e
  (repeat' split at e) <;> first | (cases e; done) | (cases e; exact Nat.le_refl _) | (cases e; simp only [List.length_set, List.length_append]; omega)
theorem gl_hop {xs : List Int32} {m : MI} {i : Instr} {st : List Value} {h : HH} {q : List Value × HH} (e : sm_hop xs m i st h = some q) : h.length ≤ q.2.length := by
  unfold sm_hop at e
  split at e <;> first | exact gl_get e | exact gl_put e | exact gl_ald e | exact gl_ast e | exact gl_aald e | exact gl_aast e | exact gl_alen e | exact gl_newa e | exact gl_newq e | exact gl_new e | exact gl_inst e | (cases e; done) | (split at e <;> first | exact gl_get e | exact gl_put e | exact gl_ald e | exact gl_ast e | exact gl_aald e | exact gl_aast e | exact gl_alen e | exact gl_newa e | exact gl_newq e | exact gl_new e | exact gl_inst e | (cases e; done) | (cases e; exact Nat.le_refl _))
def cGrow (C : CR) : Prop := ∀ (y : Nat) (as : List Value) (h h' : HH) (r : Option Value), C y as h = some (r, h') → h.length ≤ h'.length
theorem gl_cal {C : CR} (hC : cGrow C) {m : MI} {y : Nat} {as rest : List Value} {h : HH} {q : List Value × HH} (e : sm_cal C m y as rest h = some q) : h.length ≤ q.2.length := by
  unfold sm_cal at e
  split at e
  · split at e
    · split at e
      · next r h' hc => cases e; exact hC _ _ _ _ _ hc
      · cases e
    · cases e
  · cases e
theorem gl_vrt {C : CR} (hC : cGrow C) {m : MI} {w : Nat × MethodName × List (Nat × Nat × Nat × List Nat)} {st : List Value} {h : HH} {q : List Value × HH} (e : sm_vrt C m w st h = some q) : h.length ≤ q.2.length := by
  unfold sm_vrt at e
  (repeat' split at e) <;> first | (cases e; done) | exact gl_cal hC e
theorem gl_sta {C : CR} (hC : cGrow C) {m : MI} {w : Nat × Nat × Nat × List Nat} {st : List Value} {h : HH} {q : List Value × HH} (e : sm_sta C m w st h = some q) : h.length ≤ q.2.length := by
  unfold sm_sta at e
  (repeat' split at e) <;> first | (cases e; done) | exact gl_cal hC e
theorem gl_spc {C : CR} (hC : cGrow C) {m : MI} {w : Nat × Nat × Nat × List Nat} {st : List Value} {h : HH} {q : List Value × HH} (e : sm_spc C m w st h = some q) : h.length ≤ q.2.length := by
  unfold sm_spc at e
  (repeat' split at e) <;> first | (cases e; done) | exact gl_cal hC e
theorem gl_inv {C : CR} (hC : cGrow C) {m : MI} {i : Instr} {st : List Value} {h : HH} {q : List Value × HH} (e : sm_inv C m i st h = some q) : h.length ≤ q.2.length := by
  unfold sm_inv at e
  (repeat' split at e) <;> first | (cases e; done) | exact gl_vrt hC e | exact gl_sta hC e | exact gl_spc hC e | exact gl_slen e | exact gl_sch e | exact gl_acp e | exact gl_mat e | exact gl_obj e
theorem gl_stp {xs : List Int32} {C : CR} (hC : cGrow C) {m : MI} {i : Instr} {pc : Nat} {L : LL} {st : List Value} {h : HH} {q : SS} (e : sm_stp xs C m i pc L st h = some q) : h.length ≤ q.2.2.2.length := by
  unfold sm_stp at e
  (repeat' split at e) <;> first | (cases e; done) | (cases e; exact Nat.le_refl _) | (rename_i w hw; cases e; exact gl_hop hw) | (rename_i w hw; cases e; exact gl_inv hC hw)
theorem gl_run {xs : List Int32} : ∀ (n y pc : Nat) (L : LL) (st : List Value) (h : HH) (r : Option Value × HH), sm_run0 xs n y pc L st h = some r → h.length ≤ r.2.length := by
  intro n
  induction n with
  | zero => intro y pc L st h r e; cases e
  | succ n ih =>
    intro y pc L st h r e
    have hC : cGrow (sm_call0 xs n) := by
      intro y as h h' r e
      unfold sm_call0 at e
      split at e
      · cases e
      · split at e
        · exact ih _ _ _ _ _ _ e
        · cases e
    obtain ⟨mi, i, -, -, hc⟩ := sm_run0_inv e
    rcases hc with ⟨v, -, rfl⟩ | ⟨q, h1, h2⟩
    · exact Nat.le_refl _
    · exact Nat.le_trans (gl_stp hC h1) (ih _ _ _ _ _ _ h2)
theorem hGrow_all (xs : List Int32) : hGrow xs := by
  intro y as h h' r e
  unfold sm_call at e
  split at e
  · cases e
  · split at e
    · obtain ⟨n, e⟩ := sm_run_iff.mp e
      exact gl_run n _ _ _ _ _ _ e
    · cases e

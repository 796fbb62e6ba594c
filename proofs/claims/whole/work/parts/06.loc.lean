def sm_cr (b : Nat) (sK : Nat → Nat) (k : Nat) : Nat := if k < sm_B then b + k else sK (k - sm_B)
def sm_cv (b : Nat) (sK : Nat → Nat) (v : Value) : Value := match v with
  | .ref k => .ref (sm_cr b sK k)
  | w => w
theorem sm_cv_cat (b : Nat) (sK : Nat → Nat) (v : Value) : (sm_cv b sK v).category = v.category := by cases v <;> rfl
theorem sm_cat_sum (b : Nat) (sK : Nat → Nat) (l : List Value) : ((l.map (sm_cv b sK)).map fun v => v.category).sum = (l.map fun v => v.category).sum := by
  induction l with
  | nil => rfl
  | cons a l ih => simp only [List.map_cons, List.sum_cons, sm_cv_cat, ih]
def sm_lr (b : Nat) (sK : Nat → Nat) (ls : Array Slot) (nL : Nat) (L : LL) : Prop := ls.size = nL ∧ L.length = nL ∧ lv_wf ls ∧ ∀ (i : Nat) (v : Value), L[i]? = some (some v) → ls[i]? = some (.val (sm_cv b sK v))
def sm_lvl (b : Nat) (sK : Nat → Nat) (L : LL) : List (Nat × Value) := L.zipIdx.filterMap (fun q => q.1.map (fun v => (q.2, sm_cv b sK v)))
theorem sm_lvl_mem {b : Nat} {sK : Nat → Nat} {L : LL} {q : Nat × Value} : q ∈ sm_lvl b sK L ↔ ∃ v, L[q.1]? = some (some v) ∧ q.2 = sm_cv b sK v := by
  unfold sm_lvl
  rw [List.mem_filterMap]
  constructor
  · rintro ⟨⟨o, i⟩, hm, hq⟩
    cases o with
    | none => cases hq
    | some v =>
      cases hq
      exact ⟨v, (List.mem_zipIdx_iff_getElem?.mp hm), rfl⟩
  · rintro ⟨v, h1, h2⟩
    refine ⟨(some v, q.1), List.mem_zipIdx_iff_getElem?.mpr h1, ?_⟩
    show some (q.1, sm_cv b sK v) = some q
    rw [← h2]
theorem sm_lr_has {b : Nat} {sK : Nat → Nat} {ls : Array Slot} {nL : Nat} {L : LL} (h : sm_lr b sK ls nL L) : lv_has ls nL (sm_lvl b sK L) := by
  refine ⟨h.1, h.2.2.1, fun q hq => ?_⟩
  obtain ⟨v, h1, h2⟩ := sm_lvl_mem.mp hq
  rw [h2]
  exact h.2.2.2 _ _ h1
theorem sm_set1_len (L : LL) (i : Nat) (v : Value) : (sm_set1 L i v).length = L.length := by
  cases i <;> simp [sm_set1]
theorem sm_set1_get {L : LL} {i j : Nat} {v w : Value} (h : (sm_set1 L i v)[j]? = some (some w)) : (j = i ∧ w = v) ∨ (j ≠ i ∧ L[j]? = some (some w) ∧ ¬ (j + 1 = i ∧ w.category = 2)) := by
  cases i with
  | zero =>
    simp only [sm_set1, List.getElem?_set] at h
    by_cases hj : 0 = j
    · rw [if_pos hj] at h
      split at h
      · cases h; exact Or.inl ⟨hj.symm, rfl⟩
      · cases h
    · rw [if_neg hj] at h
      exact Or.inr ⟨fun q => hj q.symm, h, fun q => by omega⟩
  | succ k =>
    simp only [sm_set1, List.getElem?_set] at h
    by_cases hj : k + 1 = j
    · rw [if_pos hj] at h
      split at h
      · cases h; exact Or.inl ⟨hj.symm, rfl⟩
      · cases h
    · rw [if_neg hj] at h
      by_cases hk : k = j
      · rw [if_pos hk] at h
        split at h
        · rename_i hlt
          have h2 : sm_clr (L.getD k none) = some w := Option.some.inj h
          unfold sm_clr at h2
          split at h2
          · rename_i u hu
            split at h2
            · cases h2
            · rename_i hc
              cases h2
              refine Or.inr ⟨fun q => hj q.symm, ?_, fun q => hc q.2⟩
              subst hk
              rw [List.getD_eq_getElem?_getD] at hu
              cases hg : L[k]? with
              | none => rw [hg] at hu; cases hu
              | some z => rw [hg] at hu; simp only [Option.getD_some] at hu; rw [hu]
          · cases h2
        · cases h
      · rw [if_neg hk] at h
        exact Or.inr ⟨fun q => hj q.symm, h, fun q => hk (by omega)⟩
theorem sm_lr_st1 {b : Nat} {sK : Nat → Nat} {ls ls' : Array Slot} {nL i : Nat} {L : LL} {v : Value} (h : sm_lr b sK ls nL L) (h' : lv_has ls' nL ((i, sm_cv b sK v) :: (sm_lvl b sK L).filter (fun q => !(q.1 == i) && !(q.1 + 1 == i && q.2.category == 2)))) : sm_lr b sK ls' nL (sm_set1 L i v) := by
  refine ⟨h'.1, by rw [sm_set1_len]; exact h.2.1, h'.2.1, fun j w hj => ?_⟩
  rcases sm_set1_get hj with ⟨rfl, rfl⟩ | ⟨h1, h2, h3⟩
  · exact h'.2.2 _ List.mem_cons_self
  · refine h'.2.2 (j, sm_cv b sK w) (List.mem_cons_of_mem _ (List.mem_filter.mpr ⟨sm_lvl_mem.mpr ⟨w, h2, rfl⟩, ?_⟩))
    simp only [Bool.and_eq_true, Bool.not_eq_true', beq_eq_false_iff_ne, ne_eq, Bool.and_eq_false_iff]
    refine ⟨h1, ?_⟩
    by_cases hk : j + 1 = i
    · refine Or.inr ?_
      rw [sm_cv_cat]
      exact fun q => h3 ⟨hk, q⟩
    · exact Or.inl hk
theorem sm_lr_st2 {b : Nat} {sK : Nat → Nat} {ls ls' : Array Slot} {nL i : Nat} {L : LL} {v : Value} (h : sm_lr b sK ls nL L) (h' : lv_has ls' nL ((i, sm_cv b sK v) :: (sm_lvl b sK L).filter (fun q => !(q.1 == i) && (!(q.1 == i + 1) && !(q.1 + 1 == i && q.2.category == 2))))) : sm_lr b sK ls' nL (sm_set2 L i v) := by
  refine ⟨h'.1, by unfold sm_set2; rw [List.length_set, sm_set1_len]; exact h.2.1, h'.2.1, fun j w hj => ?_⟩
  unfold sm_set2 at hj
  rw [List.getElem?_set] at hj
  by_cases hji : i + 1 = j
  · rw [if_pos hji] at hj
    split at hj <;> cases hj
  rw [if_neg hji] at hj
  rcases sm_set1_get hj with ⟨rfl, rfl⟩ | ⟨h1, h2, h3⟩
  · exact h'.2.2 _ List.mem_cons_self
  · refine h'.2.2 (j, sm_cv b sK w) (List.mem_cons_of_mem _ (List.mem_filter.mpr ⟨sm_lvl_mem.mpr ⟨w, h2, rfl⟩, ?_⟩))
    simp only [Bool.and_eq_true, Bool.not_eq_true', beq_eq_false_iff_ne, ne_eq, Bool.and_eq_false_iff]
    refine ⟨h1, fun q => hji q.symm, ?_⟩
    by_cases hk : j + 1 = i
    · refine Or.inr ?_
      rw [sm_cv_cat]
      exact fun q => h3 ⟨hk, q⟩
    · exact Or.inl hk
-- inversions
theorem sm_ldI_inv {L : LL} {k : Nat} {st : List Value} {q : LL × List Value} (h : sm_ldI L k st = some q) : ∃ x, L[k]? = some (some (.int x)) ∧ q = (L, .int x :: st) := by
  unfold sm_ldI at h
  split at h
  · rename_i x hx; cases h; exact ⟨x, hx, rfl⟩
  · cases h
theorem sm_ldL_inv {L : LL} {k : Nat} {st : List Value} {q : LL × List Value} (h : sm_ldL L k st = some q) : ∃ x, L[k]? = some (some (.long x)) ∧ q = (L, .long x :: st) := by
  unfold sm_ldL at h
  split at h
  · rename_i x hx; cases h; exact ⟨x, hx, rfl⟩
  · cases h
theorem sm_ldA_inv {L : LL} {k : Nat} {st : List Value} {q : LL × List Value} (h : sm_ldA L k st = some q) : (∃ x, L[k]? = some (some (.ref x)) ∧ q = (L, .ref x :: st)) ∨ (L[k]? = some (some .null) ∧ q = (L, .null :: st)) := by
  unfold sm_ldA at h
  split at h
  · rename_i x hx; cases h; exact Or.inl ⟨x, hx, rfl⟩
  · rename_i hx; cases h; exact Or.inr ⟨hx, rfl⟩
  · cases h
theorem sm_stI_inv {L : LL} {k : Nat} {st : List Value} {q : LL × List Value} (h : sm_stI L k st = some q) : ∃ x st0, st = .int x :: st0 ∧ k < L.length ∧ q = (sm_set1 L k (.int x), st0) := by
  unfold sm_stI at h
  split at h
  · split at h
    · rename_i hk; cases h; exact ⟨_, _, rfl, hk, rfl⟩
    · cases h
  · cases h
theorem sm_stL_inv {L : LL} {k : Nat} {st : List Value} {q : LL × List Value} (h : sm_stL L k st = some q) : ∃ x st0, st = .long x :: st0 ∧ k + 1 < L.length ∧ q = (sm_set2 L k (.long x), st0) := by
  unfold sm_stL at h
  split at h
  · split at h
    · rename_i hk; cases h; exact ⟨_, _, rfl, hk, rfl⟩
    · cases h
  · cases h
theorem sm_stA_inv {L : LL} {k : Nat} {st : List Value} {q : LL × List Value} (h : sm_stA L k st = some q) : (∃ x st0, st = .ref x :: st0 ∧ k < L.length ∧ q = (sm_set1 L k (.ref x), st0)) ∨ (∃ st0, st = .null :: st0 ∧ k < L.length ∧ q = (sm_set1 L k .null, st0)) := by
  unfold sm_stA at h
  split at h
  · split at h
    · rename_i hk; cases h; exact Or.inl ⟨_, _, rfl, hk, rfl⟩
    · cases h
  · split at h
    · rename_i hk; cases h; exact Or.inr ⟨_, rfl, hk, rfl⟩
    · cases h
  · cases h
theorem sm_i1_inv {f : Int32 → Int32} {L : LL} {st : List Value} {q : LL × List Value} (h : sm_i1 f L st = some q) : ∃ x st0, st = .int x :: st0 ∧ q = (L, .int (f x) :: st0) := by
  unfold sm_i1 at h
  split at h
  · cases h; exact ⟨_, _, rfl, rfl⟩
  · cases h
theorem sm_i2_inv {f : Int32 → Int32 → Int32} {L : LL} {st : List Value} {q : LL × List Value} (h : sm_i2 f L st = some q) : ∃ x y st0, st = .int y :: .int x :: st0 ∧ q = (L, .int (f x y) :: st0) := by
  unfold sm_i2 at h
  split at h
  · cases h; exact ⟨_, _, _, rfl, rfl⟩
  · cases h
theorem sm_i2z_inv {f : Int32 → Int32 → Int32} {L : LL} {st : List Value} {q : LL × List Value} (h : sm_i2z f L st = some q) : ∃ x y st0, st = .int y :: .int x :: st0 ∧ ¬ y = 0 ∧ q = (L, .int (f x y) :: st0) := by
  unfold sm_i2z at h
  split at h
  · split at h
    · cases h
    · rename_i hy; cases h; exact ⟨_, _, _, rfl, hy, rfl⟩
  · cases h
theorem sm_l1_inv {f : Int64 → Int64} {L : LL} {st : List Value} {q : LL × List Value} (h : sm_l1 f L st = some q) : ∃ x st0, st = .long x :: st0 ∧ q = (L, .long (f x) :: st0) := by
  unfold sm_l1 at h
  split at h
  · cases h; exact ⟨_, _, rfl, rfl⟩
  · cases h
theorem sm_l2_inv {f : Int64 → Int64 → Int64} {L : LL} {st : List Value} {q : LL × List Value} (h : sm_l2 f L st = some q) : ∃ x y st0, st = .long y :: .long x :: st0 ∧ q = (L, .long (f x y) :: st0) := by
  unfold sm_l2 at h
  split at h
  · cases h; exact ⟨_, _, _, rfl, rfl⟩
  · cases h
theorem sm_l2z_inv {f : Int64 → Int64 → Int64} {L : LL} {st : List Value} {q : LL × List Value} (h : sm_l2z f L st = some q) : ∃ x y st0, st = .long y :: .long x :: st0 ∧ ¬ y = 0 ∧ q = (L, .long (f x y) :: st0) := by
  unfold sm_l2z at h
  split at h
  · split at h
    · cases h
    · rename_i hy; cases h; exact ⟨_, _, _, rfl, hy, rfl⟩
  · cases h
theorem sm_l2i_inv {f : Int64 → Int64 → Int32} {L : LL} {st : List Value} {q : LL × List Value} (h : sm_l2i f L st = some q) : ∃ x y st0, st = .long y :: .long x :: st0 ∧ q = (L, .int (f x y) :: st0) := by
  unfold sm_l2i at h
  split at h
  · cases h; exact ⟨_, _, _, rfl, rfl⟩
  · cases h
theorem sm_cil_inv {L : LL} {st : List Value} {q : LL × List Value} (h : sm_cil L st = some q) : ∃ x st0, st = .int x :: st0 ∧ q = (L, .long x.toInt64 :: st0) := by
  unfold sm_cil at h
  split at h
  · cases h; exact ⟨_, _, rfl, rfl⟩
  · cases h
theorem sm_cli_inv {L : LL} {st : List Value} {q : LL × List Value} (h : sm_cli L st = some q) : ∃ x st0, st = .long x :: st0 ∧ q = (L, .int x.toInt32 :: st0) := by
  unfold sm_cli at h
  split at h
  · cases h; exact ⟨_, _, rfl, rfl⟩
  · cases h
theorem sm_dup_inv {L : LL} {st : List Value} {q : LL × List Value} (h : sm_dup L st = some q) : ∃ v st0, st = v :: st0 ∧ v.category = 1 ∧ q = (L, v :: v :: st0) := by
  unfold sm_dup at h
  split at h
  · split at h
    · rename_i hk; cases h; exact ⟨_, _, rfl, hk, rfl⟩
    · cases h
  · cases h
theorem sm_dup2_inv {L : LL} {st : List Value} {q : LL × List Value} (h : sm_dup2 L st = some q) : ∃ v w st0, st = v :: w :: st0 ∧ v.category = 1 ∧ w.category = 1 ∧ q = (L, v :: w :: v :: w :: st0) := by
  unfold sm_dup2 at h
  split at h
  · split at h
    · rename_i hk; cases h; exact ⟨_, _, _, rfl, hk.1, hk.2, rfl⟩
    · cases h
  · cases h
theorem sm_iinc_inv {L : LL} {k : Nat} {n : Int} {st : List Value} {q : LL × List Value} (h : sm_iinc L k n st = some q) : ∃ x, L[k]? = some (some (.int x)) ∧ q = (sm_set1 L k (.int (x + Int32.ofInt n)), st) := by
  unfold sm_iinc at h
  split at h
  · rename_i x hx; cases h; exact ⟨x, hx, rfl⟩
  · cases h
section SNDP
variable {p : Program} {l : Launch} {e : Env} {R : Room} {s : State} {m : MethodId} {args : Array Value} {below : List Frame} {meth : Method} {c : Code} {H : Heap} {locs : List Loc} {cells slots : Nat} {Q : State → Prop} {cc : ByteArray} {pc nL : Nat} {ls : Array Slot}
set_option maxHeartbeats 4000000 in
theorem sm_pur_snd (hx : p.tables.exec = Jvm.exec) (hb : c.code = cc) {b : Nat} {sK : Nat → Nat} {i : Instr} {L L' : LL} {st st' : List Value} (hp : sm_pur i L st = some (L', st')) (hd : decode cc pc = .ok (i, sm_ilen i)) (hl : sm_lr b sK ls nL L)
    (kk : ∀ ls' : Array Slot, sm_lr b sK ls' nL L' → W p l e R s m args below meth c H locs cells slots Q (F0 m (pc + sm_ilen i) ls' (st'.map (sm_cv b sK)))) : W p l e R s m args below meth c H locs cells slots Q (F0 m pc ls (st.map (sm_cv b sK))) := by
  cases i
  case iconst n => cases hp; exact lv_iconst hx hb hd rfl (kk ls hl)
  case bipush n => cases hp; exact lv_bipush hx hb hd rfl (kk ls hl)
  case sipush n => cases hp; exact lv_sipush hx hb hd rfl (kk ls hl)
  case lconst n => cases hp; exact lv_lconst hx hb hd rfl (kk ls hl)
  case iload k => obtain ⟨x, h1, h2⟩ := sm_ldI_inv hp; cases h2; exact lv_iload hx hb hd (hl.2.2.2 _ _ h1) (kk ls hl)
  case iload_n k => obtain ⟨x, h1, h2⟩ := sm_ldI_inv hp; cases h2; exact lv_iload_n hx hb hd rfl (hl.2.2.2 _ _ h1) (kk ls hl)
  case lload k => obtain ⟨x, h1, h2⟩ := sm_ldL_inv hp; cases h2; exact lv_lload hx hb hd (hl.2.2.2 _ _ h1) (kk ls hl)
  case lload_n k => obtain ⟨x, h1, h2⟩ := sm_ldL_inv hp; cases h2; exact lv_lload_n hx hb hd rfl (hl.2.2.2 _ _ h1) (kk ls hl)
  case aload k =>
    rcases sm_ldA_inv hp with ⟨x, h1, h2⟩ | ⟨h1, h2⟩
    · cases h2; exact lv_aload hx hb hd (hl.2.2.2 _ _ h1) (kk ls hl)
    · cases h2; exact lv_aloadN hx hb hd (hl.2.2.2 _ _ h1) (kk ls hl)
  case aload_n k =>
    rcases sm_ldA_inv hp with ⟨x, h1, h2⟩ | ⟨h1, h2⟩
    · cases h2; exact lv_aload_n hx hb hd rfl (hl.2.2.2 _ _ h1) (kk ls hl)
    · cases h2; exact lv_aload_nN hx hb hd rfl (hl.2.2.2 _ _ h1) (kk ls hl)
  case istore k => obtain ⟨x, st0, rfl, h1, h2⟩ := sm_stI_inv hp; cases h2; exact lv_istore hx hb hd (sm_lr_has hl) (by rw [← hl.2.1]; exact h1) rfl (fun ls' h' => kk ls' (sm_lr_st1 hl h'))
  case istore_n k => obtain ⟨x, st0, rfl, h1, h2⟩ := sm_stI_inv hp; cases h2; exact lv_istore_n hx hb hd rfl (sm_lr_has hl) (by rw [← hl.2.1]; exact h1) rfl (fun ls' h' => kk ls' (sm_lr_st1 hl h'))
  case lstore k => obtain ⟨x, st0, rfl, h1, h2⟩ := sm_stL_inv hp; cases h2; exact lv_lstore hx hb hd (sm_lr_has hl) (by rw [← hl.2.1]; exact h1) rfl (fun ls' h' => kk ls' (sm_lr_st2 hl h'))
  case lstore_n k => obtain ⟨x, st0, rfl, h1, h2⟩ := sm_stL_inv hp; cases h2; exact lv_lstore_n hx hb hd rfl (sm_lr_has hl) (by rw [← hl.2.1]; exact h1) rfl (fun ls' h' => kk ls' (sm_lr_st2 hl h'))
  case astore k =>
    rcases sm_stA_inv hp with ⟨x, st0, rfl, h1, h2⟩ | ⟨st0, rfl, h1, h2⟩
    · cases h2; exact lv_astore hx hb hd (sm_lr_has hl) (by rw [← hl.2.1]; exact h1) rfl (fun ls' h' => kk ls' (sm_lr_st1 (v := .ref x) hl h'))
    · cases h2; exact lv_astoreN hx hb hd (sm_lr_has hl) (by rw [← hl.2.1]; exact h1) rfl (fun ls' h' => kk ls' (sm_lr_st1 (v := .null) hl h'))
  case astore_n k =>
    rcases sm_stA_inv hp with ⟨x, st0, rfl, h1, h2⟩ | ⟨st0, rfl, h1, h2⟩
    · cases h2; exact lv_astore_n hx hb hd rfl (sm_lr_has hl) (by rw [← hl.2.1]; exact h1) rfl (fun ls' h' => kk ls' (sm_lr_st1 (v := .ref x) hl h'))
    · cases h2; exact lv_astore_nN hx hb hd rfl (sm_lr_has hl) (by rw [← hl.2.1]; exact h1) rfl (fun ls' h' => kk ls' (sm_lr_st1 (v := .null) hl h'))
  case iinc k n =>
    obtain ⟨x, h1, h2⟩ := sm_iinc_inv hp
    cases h2
    have hlt : k < L.length := (List.getElem?_eq_some_iff.mp h1).1
    have hm : (k, Value.int x) ∈ sm_lvl b sK L := sm_lvl_mem.mpr ⟨.int x, h1, rfl⟩
    obtain ⟨j, hj⟩ := List.mem_iff_getElem?.mp hm
    exact lv_iinc hx hb hd (sm_lr_has hl) hj rfl (by rw [← hl.2.1]; exact hlt) rfl (fun ls' h' => kk ls' (sm_lr_st1 hl h'))
  case iadd => obtain ⟨x, y, st0, rfl, h2⟩ := sm_i2_inv hp; cases h2; exact lv_iadd hx hb hd (kk ls hl)
  case isub => obtain ⟨x, y, st0, rfl, h2⟩ := sm_i2_inv hp; cases h2; exact lv_isub hx hb hd (kk ls hl)
  case imul => obtain ⟨x, y, st0, rfl, h2⟩ := sm_i2_inv hp; cases h2; exact lv_imul hx hb hd (kk ls hl)
  case iand => obtain ⟨x, y, st0, rfl, h2⟩ := sm_i2_inv hp; cases h2; exact lv_iand hx hb hd (kk ls hl)
  case ior => obtain ⟨x, y, st0, rfl, h2⟩ := sm_i2_inv hp; cases h2; exact lv_ior hx hb hd (kk ls hl)
  case ixor => obtain ⟨x, y, st0, rfl, h2⟩ := sm_i2_inv hp; cases h2; exact lv_ixor hx hb hd (kk ls hl)
  case ishl => obtain ⟨x, y, st0, rfl, h2⟩ := sm_i2_inv hp; cases h2; exact lv_ishl hx hb hd (kk ls hl)
  case ishr => obtain ⟨x, y, st0, rfl, h2⟩ := sm_i2_inv hp; cases h2; exact lv_ishr hx hb hd (kk ls hl)
  case idiv => obtain ⟨x, y, st0, rfl, h1, h2⟩ := sm_i2z_inv hp; cases h2; exact lv_idiv hx hb hd h1 (kk ls hl)
  case irem => obtain ⟨x, y, st0, rfl, h1, h2⟩ := sm_i2z_inv hp; cases h2; exact lv_irem hx hb hd h1 (kk ls hl)
  case ineg => obtain ⟨x, st0, rfl, h2⟩ := sm_i1_inv hp; cases h2; exact lv_ineg hx hb hd (kk ls hl)
  case i2c => obtain ⟨x, st0, rfl, h2⟩ := sm_i1_inv hp; cases h2; exact lv_i2c hx hb hd rfl (kk ls hl)
  case ladd => obtain ⟨x, y, st0, rfl, h2⟩ := sm_l2_inv hp; cases h2; exact lv_ladd hx hb hd (kk ls hl)
  case lsub => obtain ⟨x, y, st0, rfl, h2⟩ := sm_l2_inv hp; cases h2; exact lv_lsub hx hb hd (kk ls hl)
  case lmul => obtain ⟨x, y, st0, rfl, h2⟩ := sm_l2_inv hp; cases h2; exact lv_lmul hx hb hd (kk ls hl)
  case ldiv => obtain ⟨x, y, st0, rfl, h1, h2⟩ := sm_l2z_inv hp; cases h2; exact lv_ldiv hx hb hd h1 (kk ls hl)
  case lrem => obtain ⟨x, y, st0, rfl, h1, h2⟩ := sm_l2z_inv hp; cases h2; exact lv_lrem hx hb hd h1 (kk ls hl)
  case lneg => obtain ⟨x, st0, rfl, h2⟩ := sm_l1_inv hp; cases h2; exact lv_lneg hx hb hd (kk ls hl)
  case lcmp => obtain ⟨x, y, st0, rfl, h2⟩ := sm_l2i_inv hp; cases h2; exact W.lcmp hx hb hd (kk ls hl)
  case i2l => obtain ⟨x, st0, rfl, h2⟩ := sm_cil_inv hp; cases h2; exact lv_i2l hx hb hd rfl (kk ls hl)
  case l2i => obtain ⟨x, st0, rfl, h2⟩ := sm_cli_inv hp; cases h2; exact lv_l2i hx hb hd rfl (kk ls hl)
  case dup => obtain ⟨v, st0, rfl, h1, h2⟩ := sm_dup_inv hp; cases h2; exact lv_dup hx hb hd (by rw [sm_cv_cat]; exact h1) (kk ls hl)
  case dup2 => obtain ⟨v, w, st0, rfl, h1, h3, h2⟩ := sm_dup2_inv hp; cases h2; exact lv_dup2_11 hx hb hd (by rw [sm_cv_cat]; exact h1) (by rw [sm_cv_cat]; exact h3) (kk ls hl)
  all_goals cases hp
theorem sm_tgt_eq {pc t : Nat} {off : Int} (h : sm_tgt pc off = some t) : (pc : Int) + off = (t : Int) := by
  unfold sm_tgt at h
  split at h
  · rename_i k hk; cases h; exact hk
  · cases h
theorem sm_go_inv {pc : Nat} {off : Int} {st : List Value} {q : Nat × List Value} (h : sm_go pc off st = some q) : ∃ t : Nat, (pc : Int) + off = (t : Int) ∧ q = (t, st) := by
  unfold sm_go at h
  split at h
  · rename_i t ht; cases h; exact ⟨t, sm_tgt_eq ht, rfl⟩
  · cases h
theorem sm_br_inv {b : Bool} {pc : Nat} {off : Int} {st : List Value} {q : Nat × List Value} (h : sm_br b pc off st = some q) : ∃ t : Nat, (pc : Int) + off = (t : Int) ∧ ((b = true ∧ q = (t, st)) ∨ (b = false ∧ q = (pc + 3, st))) := by
  unfold sm_br at h
  split at h
  · rename_i t ht
    cases b
    · cases h; exact ⟨t, sm_tgt_eq ht, Or.inr ⟨rfl, rfl⟩⟩
    · cases h; exact ⟨t, sm_tgt_eq ht, Or.inl ⟨rfl, rfl⟩⟩
  · cases h
theorem sm_if_inv {cd : Jvm.ClassFile.Cond} {pc : Nat} {off : Int} {st : List Value} {q : Nat × List Value} (h : sm_if cd pc off st = some q) : ∃ (x : Int32) (st0 : List Value) (t : Nat), st = .int x :: st0 ∧ (pc : Int) + off = (t : Int) ∧ ((sm_icb cd x 0 = true ∧ q = (t, st0)) ∨ (sm_icb cd x 0 = false ∧ q = (pc + 3, st0))) := by
  unfold sm_if at h
  split at h
  · obtain ⟨t, h1, h2⟩ := sm_br_inv h; exact ⟨_, _, t, rfl, h1, h2⟩
  · cases h
theorem sm_icmp_inv {cd : Jvm.ClassFile.Cond} {pc : Nat} {off : Int} {st : List Value} {q : Nat × List Value} (h : sm_icmp cd pc off st = some q) : ∃ (x y : Int32) (st0 : List Value) (t : Nat), st = .int y :: .int x :: st0 ∧ (pc : Int) + off = (t : Int) ∧ ((sm_icb cd x y = true ∧ q = (t, st0)) ∨ (sm_icb cd x y = false ∧ q = (pc + 3, st0))) := by
  unfold sm_icmp at h
  split at h
  · obtain ⟨t, h1, h2⟩ := sm_br_inv h; exact ⟨_, _, _, t, rfl, h1, h2⟩
  · cases h
set_option maxHeartbeats 4000000 in
theorem sm_ctl_snd (hx : p.tables.exec = Jvm.exec) (hb : c.code = cc) {b : Nat} {sK : Nat → Nat} {i : Instr} {pc' n : Nat} {st st' : List Value} (hp : sm_ctl i pc st = some (pc', st')) (hd : decode cc pc = .ok (i, n)) (hn : sm_sw i = true ∨ n = sm_ilen i)
    (kk : W p l e R s m args below meth c H locs cells slots Q (F0 m pc' ls (st'.map (sm_cv b sK)))) : W p l e R s m args below meth c H locs cells slots Q (F0 m pc ls (st.map (sm_cv b sK))) := by
  cases i
  case goto off =>
    have hn : n = 3 := hn.resolve_left (fun h => by cases h)
    subst hn
    obtain ⟨t, h1, h2⟩ := sm_go_inv hp; cases h2; exact lv_goto hx hb hd h1 kk
  case ifCond cnd off =>
    have hn : n = 3 := hn.resolve_left (fun h => by cases h)
    subst hn
    obtain ⟨x, st0, t, rfl, h1, h2⟩ := sm_if_inv hp
    cases cnd
    · rcases h2 with ⟨h2, h3⟩ | ⟨h2, h3⟩
      · cases h3; exact lv_if_eq hx hb hd h1 (fun _ => kk) (fun q => absurd (of_decide_eq_true h2) q)
      · cases h3; exact lv_if_eq hx hb hd h1 (fun q => absurd q (of_decide_eq_false h2)) (fun _ => kk)
    · rcases h2 with ⟨h2, h3⟩ | ⟨h2, h3⟩
      · cases h3; exact lv_if_ne hx hb hd h1 (fun _ => kk) (fun q => absurd q (of_decide_eq_true h2))
      · cases h3; exact lv_if_ne hx hb hd h1 (fun q => absurd q (of_decide_eq_false h2)) (fun _ => kk)
    · rcases h2 with ⟨h2, h3⟩ | ⟨h2, h3⟩
      · cases h3; exact lv_if_lt hx hb hd h1 (fun _ => kk) (fun q => absurd (of_decide_eq_true h2) q)
      · cases h3; exact lv_if_lt hx hb hd h1 (fun q => absurd q (of_decide_eq_false h2)) (fun _ => kk)
    · rcases h2 with ⟨h2, h3⟩ | ⟨h2, h3⟩
      · cases h3; exact lv_if_ge hx hb hd h1 (fun _ => kk) (fun q => absurd (of_decide_eq_true h2) q)
      · cases h3; exact lv_if_ge hx hb hd h1 (fun q => absurd q (of_decide_eq_false h2)) (fun _ => kk)
    · rcases h2 with ⟨h2, h3⟩ | ⟨h2, h3⟩
      · cases h3; exact lv_if_gt hx hb hd h1 (fun _ => kk) (fun q => absurd (of_decide_eq_true h2) q)
      · cases h3; exact lv_if_gt hx hb hd h1 (fun q => absurd q (of_decide_eq_false h2)) (fun _ => kk)
    · rcases h2 with ⟨h2, h3⟩ | ⟨h2, h3⟩
      · cases h3; exact lv_if_le hx hb hd h1 (fun _ => kk) (fun q => absurd (of_decide_eq_true h2) q)
      · cases h3; exact lv_if_le hx hb hd h1 (fun q => absurd q (of_decide_eq_false h2)) (fun _ => kk)
  case if_icmp cnd off =>
    have hn : n = 3 := hn.resolve_left (fun h => by cases h)
    subst hn
    obtain ⟨x, y, st0, t, rfl, h1, h2⟩ := sm_icmp_inv hp
    cases cnd
    · rcases h2 with ⟨h2, h3⟩ | ⟨h2, h3⟩
      · cases h3; exact lv_icmp_eq hx hb hd h1 (fun _ => kk) (fun q => absurd (of_decide_eq_true h2) q)
      · cases h3; exact lv_icmp_eq hx hb hd h1 (fun q => absurd q (of_decide_eq_false h2)) (fun _ => kk)
    · rcases h2 with ⟨h2, h3⟩ | ⟨h2, h3⟩
      · cases h3; exact lv_icmp_ne hx hb hd h1 (fun _ => kk) (fun q => absurd q (of_decide_eq_true h2))
      · cases h3; exact lv_icmp_ne hx hb hd h1 (fun q => absurd q (of_decide_eq_false h2)) (fun _ => kk)
    · rcases h2 with ⟨h2, h3⟩ | ⟨h2, h3⟩
      · cases h3; exact lv_icmp_lt hx hb hd h1 (fun _ => kk) (fun q => absurd (of_decide_eq_true h2) q)
      · cases h3; exact lv_icmp_lt hx hb hd h1 (fun q => absurd q (of_decide_eq_false h2)) (fun _ => kk)
    · rcases h2 with ⟨h2, h3⟩ | ⟨h2, h3⟩
      · cases h3; exact lv_icmp_ge hx hb hd h1 (fun _ => kk) (fun q => absurd (of_decide_eq_true h2) q)
      · cases h3; exact lv_icmp_ge hx hb hd h1 (fun q => absurd q (of_decide_eq_false h2)) (fun _ => kk)
    · rcases h2 with ⟨h2, h3⟩ | ⟨h2, h3⟩
      · cases h3; exact lv_icmp_gt hx hb hd h1 (fun _ => kk) (fun q => absurd (of_decide_eq_true h2) q)
      · cases h3; exact lv_icmp_gt hx hb hd h1 (fun q => absurd q (of_decide_eq_false h2)) (fun _ => kk)
    · rcases h2 with ⟨h2, h3⟩ | ⟨h2, h3⟩
      · cases h3; exact lv_icmp_le hx hb hd h1 (fun _ => kk) (fun q => absurd (of_decide_eq_true h2) q)
      · cases h3; exact lv_icmp_le hx hb hd h1 (fun q => absurd q (of_decide_eq_false h2)) (fun _ => kk)
  case ifnull off =>
    have hn : n = 3 := hn.resolve_left (fun h => by cases h)
    subst hn
    have hp : sm_nul true pc off st = some (pc', st') := hp
    unfold sm_nul at hp
    split at hp
    · obtain ⟨t, h1, ⟨h2, h3⟩ | ⟨h2, h3⟩⟩ := sm_br_inv hp
      · cases h3; exact lv_ifnullN hx hb hd h1 kk
      · cases h2
    · obtain ⟨t, h1, ⟨h2, h3⟩ | ⟨h2, h3⟩⟩ := sm_br_inv hp
      · cases h2
      · cases h3; exact lv_ifnull hx hb hd kk
    · cases hp
  case ifnonnull off =>
    have hn : n = 3 := hn.resolve_left (fun h => by cases h)
    subst hn
    have hp : sm_nul false pc off st = some (pc', st') := hp
    unfold sm_nul at hp
    split at hp
    · obtain ⟨t, h1, ⟨h2, h3⟩ | ⟨h2, h3⟩⟩ := sm_br_inv hp
      · cases h2
      · cases h3; exact lv_ifnonnullN hx hb hd kk
    · obtain ⟨t, h1, ⟨h2, h3⟩ | ⟨h2, h3⟩⟩ := sm_br_inv hp
      · cases h3; exact lv_ifnonnull hx hb hd h1 kk
      · cases h2
    · cases hp
  case tableswitch d lo hi offs =>
    have hp : sm_tsw d lo hi offs pc st = some (pc', st') := hp
    unfold sm_tsw at hp
    split at hp
    · split at hp
      · rename_i hc
        obtain ⟨t, h1, h2⟩ := sm_go_inv hp; cases h2
        exact lv_tableOut hx hb hd hc h1 kk
      · rename_i hc
        split at hp
        · rename_i off ho
          obtain ⟨t, h1, h2⟩ := sm_go_inv hp; cases h2
          exact lv_tableIn hx hb hd (fun q => hc (Or.inl q)) (fun q => hc (Or.inr q)) ho h1 kk
        · cases hp
    · cases hp
  case lookupswitch d ps =>
    have hp : sm_lsw d ps pc st = some (pc', st') := hp
    unfold sm_lsw at hp
    split at hp
    · split at hp
      · rename_i hc
        obtain ⟨t, h1, h2⟩ := sm_go_inv hp; cases h2
        exact lv_lookup hx hb hd hc rfl h1 kk
      · cases hp
    · cases hp
  all_goals cases hp
end SNDP

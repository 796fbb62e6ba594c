-- one row an instruction kind: how a run goes on
def sm_fld (h : HH) (i ci k : Nat) : Option Value := match h[i]? with
  | some (.inr (.inr (c, fs))) => if c = ci then fs[k]? else none
  | _ => none
def sm_fset (h : HH) (i k : Nat) (v : Value) : HH := match h[i]? with
  | some (.inr (.inr (c, fs))) => h.set i (.inr (.inr (c, fs.set k v)))
  | _ => h
def sm_arr (h : HH) (a : Nat) (ty : FieldType) : Option (List Int32) := match h[a]? with
  | some (.inl (t, l)) => if t = ty then some l else none
  | _ => none
def sm_inr (o : Option (List Int32)) (j : Int32) : Bool := match o with
  | some l => decide (¬ (j < 0 ∨ l.length ≤ j.toNatClampNeg))
  | none => false
def sm_el (o : Option (List Int32)) (j : Int32) : Int32 := match o with
  | some l => l.getD j.toNatClampNeg 0
  | none => 0
def sm_aset (h : HH) (a : Nat) (ty : FieldType) (o : Option (List Int32)) (j x : Int32) : HH := match o with
  | some l => h.set a (.inl (ty, l.set j.toNatClampNeg (sm_nar ty x)))
  | none => h
def sm_qrr (h : HH) (a : Nat) : Option (List (Option Nat)) := match h[a]? with
  | some (.inr (.inl l)) => some l
  | _ => none
def sm_inq (o : Option (List (Option Nat))) (j : Int32) : Bool := match o with
  | some l => decide (¬ (j < 0 ∨ l.length ≤ j.toNatClampNeg))
  | none => false
def sm_elq (o : Option (List (Option Nat))) (j : Int32) : Value := match o with
  | some l => sm_rv (l.getD j.toNatClampNeg none)
  | none => .null
def sm_qset (h : HH) (a : Nat) (o : Option (List (Option Nat))) (j : Int32) (k : Nat) : HH := match o with
  | some l => h.set a (.inr (.inl (l.set j.toNatClampNeg (some k))))
  | none => h
def sm_rr (o : Option (Option Value × HH)) : Option Value := match o with
  | some q => q.1
  | none => none
def sm_rh (o : Option (Option Value × HH)) : HH := match o with
  | some q => q.2
  | none => []
theorem sm_rr_some (q : Option Value × HH) : sm_rr (some q) = q.1 := rfl
theorem sm_rh_some (q : Option Value × HH) : sm_rh (some q) = q.2 := rfl
theorem sm_clr_i (x : Int32) : sm_clr (some (.int x)) = some (.int x) := rfl
theorem sm_clr_r (x : Nat) : sm_clr (some (.ref x)) = some (.ref x) := rfl
theorem sm_clr_n : sm_clr (some .null) = some .null := rfl
theorem sm_clr_o : sm_clr none = none := rfl
theorem sm_clr_l (x : Int64) : sm_clr (some (.long x)) = none := rfl
section ST
variable {xs : List Int32} {y pc : Nat} {m : MI} {L : LL} {st : List Value} {h : HH}
theorem sx_pur (i : Instr) {pc' : Nat} {L' : LL} {st' : List Value} (hm : sm_MT[y]? = some m) (hi : sm_ins m pc = some i) (hr : sm_ret m i st = none) (hn : pc + sm_ilen i = pc') (hp : sm_pur i L st = some (L', st')) : sm_run xs y pc L st h = sm_run xs y pc' L' st' h := by
  subst hn
  rw [sm_step hm hi hr]
  unfold sm_stp
  rw [hp]
theorem sx_ctl {i : Instr} {pc' : Nat} {st' : List Value} (hm : sm_MT[y]? = some m) (hi : sm_ins m pc = some i) (hr : sm_ret m i st = none) (hp : sm_pur i L st = none) (hc : sm_ctl i pc st = some (pc', st')) : sm_run xs y pc L st h = sm_run xs y pc' L st' h := by
  rw [sm_step hm hi hr]
  unfold sm_stp
  rw [hp]
  dsimp only
  rw [hc]
theorem sx_hop {i : Instr} {st' : List Value} {h' : HH} (hm : sm_MT[y]? = some m) (hi : sm_ins m pc = some i) (hr : sm_ret m i st = none) (hp : sm_pur i L st = none) (hc : sm_ctl i pc st = none) (hh : sm_hop xs m i st h = some (st', h')) : sm_run xs y pc L st h = sm_run xs y (pc + sm_ilen i) L st' h' := by
  rw [sm_step hm hi hr]
  unfold sm_stp
  rw [hp]
  dsimp only
  rw [hc]
  dsimp only
  rw [hh]
theorem sx_inv {i : Instr} {st' : List Value} {h' : HH} (hm : sm_MT[y]? = some m) (hi : sm_ins m pc = some i) (hr : sm_ret m i st = none) (hp : sm_pur i L st = none) (hc : sm_ctl i pc st = none) (hh : sm_hop xs m i st h = none) (hv : sm_inv (sm_call xs) m i st h = some (st', h')) : sm_run xs y pc L st h = sm_run xs y (pc + 3) L st' h' := by
  rw [sm_step hm hi hr]
  unfold sm_stp
  rw [hp]
  dsimp only
  rw [hc]
  dsimp only
  rw [hh]
  dsimp only
  rw [hv]
-- branches
theorem sx_br {c : Jvm.ClassFile.Cond} {off : Int} {t : Nat} {x z : Int32} {P : Prop} {dP : Decidable P} (hP : sm_icb c x z = decide P) (ht : sm_tgt pc off = some t) : sm_br (sm_icb c x z) pc off st = some (if P then t else pc + 3, st) := by
  unfold sm_br
  rw [ht, hP]
  by_cases h : P
  · rw [decide_eq_true h, if_pos h]; rfl
  · rw [decide_eq_false h, if_neg h]; rfl
theorem sx_ite {P : Prop} {dP : Decidable P} {a b : Nat} : sm_run xs y (if P then a else b) L st h = if P then sm_run xs y a L st h else sm_run xs y b L st h := by
  by_cases hp : P
  · rw [if_pos hp, if_pos hp]
  · rw [if_neg hp, if_neg hp]
theorem sx_if {c : Jvm.ClassFile.Cond} {off : Int} {t : Nat} {x : Int32} (hm : sm_MT[y]? = some m) (hi : sm_ins m pc = some (.ifCond c off)) (ht : sm_tgt pc off = some t) {P : Prop} {dP : Decidable P} (hP : sm_icb c x 0 = decide P) : sm_run xs y pc L (.int x :: st) h = if P then sm_run xs y t L st h else sm_run xs y (pc + 3) L st h := by
  rw [← sx_ite]
  exact sx_ctl hm hi rfl rfl (sx_br (dP := dP) hP ht)
theorem sx_icmp {c : Jvm.ClassFile.Cond} {off : Int} {t : Nat} {x z : Int32} (hm : sm_MT[y]? = some m) (hi : sm_ins m pc = some (.if_icmp c off)) (ht : sm_tgt pc off = some t) {P : Prop} {dP : Decidable P} (hP : sm_icb c x z = decide P) : sm_run xs y pc L (.int z :: .int x :: st) h = if P then sm_run xs y t L st h else sm_run xs y (pc + 3) L st h := by
  rw [← sx_ite]
  exact sx_ctl hm hi rfl rfl (sx_br (dP := dP) hP ht)
-- fields
theorem sx_get {idx i : Nat} {q : Nat × Nat × Nat} (hm : sm_MT[y]? = some m) (hi : sm_ins m pc = some (.getfield idx)) (hq : sm_key sm_FT (mi_cp m) idx = some q) (hf : (sm_fld h i q.1 q.2.1).isSome = true) : sm_run xs y pc L (.ref i :: st) h = sm_run xs y (pc + 3) L ((sm_fld h i q.1 q.2.1).getD .null :: st) h := by
  refine sx_hop hm hi rfl rfl rfl ?_
  show (match sm_key sm_FT (mi_cp m) idx with | some q => sm_get q.1 q.2.1 (.ref i :: st) h | none => none) = _
  rw [hq]
  unfold sm_fld at hf ⊢
  unfold sm_get
  dsimp only
  split at hf
  · rename_i c fs he
    rw [he]
    dsimp only
    split at hf
    · rename_i hc
      rw [if_pos hc, if_pos hc]
      cases hk : fs[q.2.1]? with
      | none => rw [hk] at hf; cases hf
      | some v => rfl
    · cases hf
  · cases hf
def sm_pko (m : MI) (h : HH) (i ci k : Nat) (v : Value) : Bool := (sm_fld h i ci k).isSome && (sm_pok (sm_ty ci k) v && sm_fin m ci k)
theorem sx_put {idx i : Nat} {v : Value} {q : Nat × Nat × Nat} (hm : sm_MT[y]? = some m) (hi : sm_ins m pc = some (.putfield idx)) (hq : sm_key sm_FT (mi_cp m) idx = some q) (hfin : sm_fin m q.1 q.2.1 = true) (hpo : sm_pok (sm_ty q.1 q.2.1) v = true) (hf : (sm_fld h i q.1 q.2.1).isSome = true) : sm_run xs y pc L (v :: .ref i :: st) h = sm_run xs y (pc + 3) L st (sm_fset h i q.2.1 v) := by
  refine sx_hop hm hi rfl rfl rfl ?_
  show (match sm_key sm_FT (mi_cp m) idx with | some q => sm_put m q.1 q.2.1 (v :: .ref i :: st) h | none => none) = _
  rw [hq]
  unfold sm_fld at hf
  unfold sm_put sm_fset
  dsimp only
  split at hf
  · rename_i c fs he
    rw [he]
    dsimp only
    split at hf
    · rename_i hc
      have hk : q.2.1 < fs.length := by
        cases hk : fs[q.2.1]? with
        | none => rw [hk] at hf; cases hf
        | some v => exact (List.getElem?_eq_some_iff.mp hk).1
      rw [if_pos ⟨hc, hk, hpo, hfin⟩]
    · cases hf
  · cases hf
-- arrays
theorem sx_ald {i : Instr} {ty : FieldType} {j : Int32} {a : Nat} (hm : sm_MT[y]? = some m) (hi : sm_ins m pc = some i) (hr : ∀ st, sm_ret m i st = none) (hp : ∀ st, sm_pur i L st = none) (hc : ∀ st, sm_ctl i pc st = none) (hx : ∀ st, sm_hop xs m i st h = sm_ald xs ty st h) (hl : sm_ilen i = 1) (hin : sm_inr (sm_arr h a ty) j = true) : sm_run xs y pc L (.int j :: .ref a :: st) h = sm_run xs y (pc + 1) L (.int (sm_el (sm_arr h a ty) j) :: st) h := by
  have h1 : sm_ald xs ty (.int j :: .ref a :: st) h = some (.int (sm_el (sm_arr h a ty) j) :: st, h) := by
    unfold sm_arr at hin ⊢
    unfold sm_ald
    dsimp only
    split at hin
    · rename_i t l he
      rw [he]
      dsimp only
      split at hin
      · rename_i ht
        have hin := of_decide_eq_true hin
        rw [if_pos ⟨ht, hin⟩, if_pos ht]
        rfl
      · cases hin
    · cases hin
  have h2 := sx_hop (xs := xs) (L := L) hm hi (hr _) (hp _) (hc _) ((hx _).trans h1)
  rw [hl] at h2
  exact h2
theorem sx_sald {j : Int32} (hm : sm_MT[y]? = some m) (hi : sm_ins m pc = some .iaload) (hh : h[sm_B + 9]? = none) (hin : sm_inr (some xs) j = true) : sm_run xs y pc L (.int j :: .ref (sm_B + 9) :: st) h = sm_run xs y (pc + 1) L (.int (sm_el (some xs) j) :: st) h := by
  refine sx_hop hm hi rfl rfl rfl ?_
  show sm_ald xs .int (.int j :: .ref (sm_B + 9) :: st) h = _
  unfold sm_ald
  dsimp only
  rw [hh]
  dsimp only
  rw [if_pos ⟨rfl, rfl, of_decide_eq_true hin⟩]
  rfl
theorem sx_slen (hm : sm_MT[y]? = some m) (hi : sm_ins m pc = some .arraylength) (hh : h[sm_B + 9]? = none) : sm_run xs y pc L (.ref (sm_B + 9) :: st) h = sm_run xs y (pc + 1) L (.int (Int32.ofNat xs.length) :: st) h := by
  refine sx_hop hm hi rfl rfl rfl ?_
  show sm_alen xs (.ref (sm_B + 9) :: st) h = _
  unfold sm_alen
  dsimp only
  rw [hh]
  dsimp only
  rw [if_pos rfl]
theorem sx_ast {i : Instr} {ty : FieldType} {j x : Int32} {a : Nat} (hm : sm_MT[y]? = some m) (hi : sm_ins m pc = some i) (hr : ∀ st, sm_ret m i st = none) (hp : ∀ st, sm_pur i L st = none) (hc : ∀ st, sm_ctl i pc st = none) (hx : ∀ st, sm_hop xs m i st h = sm_ast ty st h) (hl : sm_ilen i = 1) (hin : sm_inr (sm_arr h a ty) j = true) : sm_run xs y pc L (.int x :: .int j :: .ref a :: st) h = sm_run xs y (pc + 1) L st (sm_aset h a ty (sm_arr h a ty) j x) := by
  have h1 : sm_ast ty (.int x :: .int j :: .ref a :: st) h = some (st, sm_aset h a ty (sm_arr h a ty) j x) := by
    unfold sm_arr at hin ⊢
    unfold sm_ast
    dsimp only
    split at hin
    · rename_i t l he
      rw [he]
      dsimp only
      split at hin
      · rename_i ht
        have hin := of_decide_eq_true hin
        rw [if_pos ⟨ht, hin⟩, if_pos ht]
        subst ht
        rfl
      · cases hin
    · cases hin
  have h2 := sx_hop (xs := xs) (L := L) hm hi (hr _) (hp _) (hc _) ((hx _).trans h1)
  rw [hl] at h2
  exact h2
theorem sx_alen {a : Nat} (hm : sm_MT[y]? = some m) (hi : sm_ins m pc = some .arraylength) (hin : (sm_arr h a .int).isSome = true) : sm_run xs y pc L (.ref a :: st) h = sm_run xs y (pc + 1) L (.int (Int32.ofNat ((sm_arr h a .int).getD []).length) :: st) h := by
  refine sx_hop hm hi rfl rfl rfl ?_
  show sm_alen xs (.ref a :: st) h = _
  unfold sm_arr at hin ⊢
  unfold sm_alen
  dsimp only
  split at hin
  · rename_i t l he
    rw [he]
    dsimp only
    split at hin
    · rename_i ht
      rw [if_pos ht, if_pos ht]
      rfl
    · cases hin
  · cases hin
theorem sx_aald {j : Int32} {a : Nat} (hm : sm_MT[y]? = some m) (hi : sm_ins m pc = some .aaload) (hin : sm_inq (sm_qrr h a) j = true) : sm_run xs y pc L (.int j :: .ref a :: st) h = sm_run xs y (pc + 1) L (sm_elq (sm_qrr h a) j :: st) h := by
  refine sx_hop hm hi rfl rfl rfl ?_
  show sm_aald (.int j :: .ref a :: st) h = _
  unfold sm_qrr at hin ⊢
  unfold sm_aald
  dsimp only
  split at hin
  · rename_i l he
    rw [he]
    dsimp only
    rw [if_pos (of_decide_eq_true hin)]
    rfl
  · cases hin
theorem sx_aast {j : Int32} {a k : Nat} (hm : sm_MT[y]? = some m) (hi : sm_ins m pc = some .aastore) (hk : sm_cls h k = some 3) (hin : sm_inq (sm_qrr h a) j = true) : sm_run xs y pc L (.ref k :: .int j :: .ref a :: st) h = sm_run xs y (pc + 1) L st (sm_qset h a (sm_qrr h a) j k) := by
  refine sx_hop hm hi rfl rfl rfl ?_
  show sm_aast (.ref k :: .int j :: .ref a :: st) h = _
  have hk2 : sm_isp h k = true := by
    obtain ⟨fs, he⟩ := sm_cls_inv hk
    unfold sm_isp
    rw [he]
    rfl
  unfold sm_qrr at hin ⊢
  unfold sm_aast
  dsimp only
  split at hin
  · rename_i l he
    rw [he]
    dsimp only
    rw [if_pos ⟨hk2, of_decide_eq_true hin⟩]
    rfl
  · cases hin
theorem sx_newa {t : ArrayType} {ty : FieldType} {n : Int32} (hm : sm_MT[y]? = some m) (hi : sm_ins m pc = some (.newarray t)) (ht : sm_aty t = some ty) (hn : ¬ n < 0 ∧ n.toNatClampNeg ≤ 100000) (hl : h.length < sm_B) : sm_run xs y pc L (.int n :: st) h = sm_run xs y (pc + 2) L (.ref h.length :: st) (h ++ [.inl (ty, List.replicate n.toNatClampNeg 0)]) := by
  refine sx_hop hm hi rfl rfl rfl ?_
  show sm_newa t (.int n :: st) h = _
  unfold sm_newa
  dsimp only
  rw [ht]
  dsimp only
  rw [if_pos ⟨hn.1, hn.2, hl⟩]
theorem sx_newq {idx : Nat} {q : List Nat} {n : Int32} (hm : sm_MT[y]? = some m) (hi : sm_ins m pc = some (.anewarray idx)) (hq : sm_key sm_QL (mi_cp m) idx = some q) (hn : ¬ n < 0 ∧ n.toNatClampNeg ≤ 100000) (hl : h.length < sm_B) : sm_run xs y pc L (.int n :: st) h = sm_run xs y (pc + 3) L (.ref h.length :: st) (h ++ [.inr (.inl (List.replicate n.toNatClampNeg none))]) := by
  refine sx_hop hm hi rfl rfl rfl ?_
  show (match sm_key sm_QL (mi_cp m) idx with | some _ => sm_newq (.int n :: st) h | none => none) = _
  rw [hq]
  show sm_newq (.int n :: st) h = _
  unfold sm_newq
  dsimp only
  rw [if_pos ⟨hn.1, hn.2, hl⟩]
theorem sx_new {idx : Nat} {q : Nat × List Nat} (hm : sm_MT[y]? = some m) (hi : sm_ins m pc = some (.new idx)) (hq : sm_key sm_NL (mi_cp m) idx = some q) (hl : h.length < sm_B) : sm_run xs y pc L st h = sm_run xs y (pc + 3) L (.ref h.length :: st) (h ++ [.inr (.inr (q.1, sm_dfl q.1))]) := by
  refine sx_hop hm hi rfl rfl rfl ?_
  show (match sm_key sm_NL (mi_cp m) idx with | some q => sm_new q.1 st h | none => none) = _
  rw [hq]
  show sm_new q.1 st h = _
  unfold sm_new
  rw [if_pos hl]
theorem sx_inst {idx i ci : Nat} {q : Nat × List Nat} {x : Int32} (hm : sm_MT[y]? = some m) (hi : sm_ins m pc = some (.instanceof idx)) (hq : sm_key sm_IL (mi_cp m) idx = some q) (hs : sm_sub ci q.1 = some x) (hc : sm_cls h i = some ci) : sm_run xs y pc L (.ref i :: st) h = sm_run xs y (pc + 3) L (.int x :: st) h := by
  refine sx_hop hm hi rfl rfl rfl ?_
  show (match sm_key sm_IL (mi_cp m) idx with | some q => sm_inst q.1 (.ref i :: st) h | none => none) = _
  rw [hq]
  show sm_inst q.1 (.ref i :: st) h = _
  obtain ⟨fs, he⟩ := sm_cls_inv hc
  unfold sm_inst
  dsimp only
  rw [he]
  dsimp only
  rw [hs]
theorem sx_ldc {idx : Nat} {q : Nat × List Nat} (hm : sm_MT[y]? = some m) (hi : sm_ins m pc = some (.ldc idx)) (hq : sm_key sm_ST (mi_cp m) idx = some q) : sm_run xs y pc L st h = sm_run xs y (pc + 2) L (.ref (sm_B + q.1) :: st) h := by
  refine sx_hop hm hi rfl rfl rfl ?_
  show (match sm_key sm_ST (mi_cp m) idx with | some q => some (Value.ref (sm_B + q.1) :: st, h) | none => none) = _
  rw [hq]
theorem sx_ldc2 {idx : Nat} {q : Int64 × List Nat} (hm : sm_MT[y]? = some m) (hi : sm_ins m pc = some (.ldc2_w idx)) (hq : sm_key sm_LT (mi_cp m) idx = some q) : sm_run xs y pc L st h = sm_run xs y (pc + 3) L (.long q.1 :: st) h := by
  refine sx_hop hm hi rfl rfl rfl ?_
  show (match sm_key sm_LT (mi_cp m) idx with | some q => some (Value.long q.1 :: st, h) | none => none) = _
  rw [hq]
-- calls
theorem sx_cal {z : Nat} {k : MI} {as rest : List Value} (hk : sm_MT[z]? = some k) (hr : mi_fr k + 1 ≤ mi_fr m ∧ 8 + (mi_ml k + 11) + mi_lo k ≤ mi_lo m) (hs : (rest.map fun v => v.category).sum ≤ 8) (hc : (sm_call xs z as h).isSome = true) : sm_cal (sm_call xs) m z as rest h = some ((sm_rr (sm_call xs z as h)).toList ++ rest, sm_rh (sm_call xs z as h)) := by
  unfold sm_cal
  rw [hk]
  dsimp only
  rw [if_pos ⟨hr.1, hr.2, hs⟩]
  cases hq : sm_call xs z as h with
  | none => rw [hq] at hc; cases hc
  | some q => rfl
theorem sx_vrt {idx i ci : Nat} {q : Nat × MethodName × List (Nat × Nat × Nat × List Nat)} {en : Nat × Nat × Nat × List Nat} {k : MI} {as rest st : List Value} (hm : sm_MT[y]? = some m) (hi : sm_ins m pc = some (.invokevirtual idx)) (hq : sm_key sm_VL (mi_cp m) idx = some q) (hen : q.2.2.find? (fun e => e.1 == ci) = some en) (hk : sm_MT[en.2.1]? = some k) (hr : mi_fr k + 1 ≤ mi_fr m ∧ 8 + (mi_ml k + 11) + mi_lo k ≤ mi_lo m) (hst : q.1 ≤ st.length ∧ st.drop q.1 = .ref i :: rest ∧ .ref i :: (st.take q.1).reverse = as) (hs : (rest.map fun v => v.category).sum ≤ 8) (hcl : sm_cls h i = some ci) (hc : (sm_call xs en.2.1 as h).isSome = true) : sm_run xs y pc L st h = sm_run xs y (pc + 3) L ((sm_rr (sm_call xs en.2.1 as h)).toList ++ rest) (sm_rh (sm_call xs en.2.1 as h)) := by
  refine sx_inv hm hi rfl rfl rfl rfl ?_
  show (match sm_key sm_VL (mi_cp m) idx with | some q => sm_vrt (sm_call xs) m q st h | none => _) = _
  rw [hq]
  show sm_vrt (sm_call xs) m q st h = _
  unfold sm_vrt
  rw [if_pos hst.1, hst.2.1]
  dsimp only
  rw [hcl]
  dsimp only
  rw [hen]
  dsimp only
  rw [hst.2.2]
  exact sx_cal hk hr hs hc
theorem sx_sta {idx : Nat} {q : Nat × Nat × Nat × List Nat} {k : MI} {as rest st : List Value} (hm : sm_MT[y]? = some m) (hi : sm_ins m pc = some (.invokestatic idx)) (hq : sm_key sm_SL (mi_cp m) idx = some q) (hk : sm_MT[q.2.1]? = some k) (hr : mi_fr k + 1 ≤ mi_fr m ∧ 8 + (mi_ml k + 11) + mi_lo k ≤ mi_lo m) (hst : q.1 ≤ st.length ∧ st.drop q.1 = rest ∧ (st.take q.1).reverse = as) (hs : (rest.map fun v => v.category).sum ≤ 8) (hc : (sm_call xs q.2.1 as h).isSome = true) : sm_run xs y pc L st h = sm_run xs y (pc + 3) L ((sm_rr (sm_call xs q.2.1 as h)).toList ++ rest) (sm_rh (sm_call xs q.2.1 as h)) := by
  refine sx_inv hm hi rfl rfl rfl rfl ?_
  show (match sm_key sm_SL (mi_cp m) idx with | some q => sm_sta (sm_call xs) m q st h | none => _) = _
  rw [hq]
  show sm_sta (sm_call xs) m q st h = _
  unfold sm_sta
  rw [if_pos hst.1, hst.2.1, hst.2.2]
  exact sx_cal hk hr hs hc
theorem sx_spc {idx i : Nat} {q : Nat × Nat × Nat × List Nat} {k : MI} {as rest st : List Value} (hm : sm_MT[y]? = some m) (hi : sm_ins m pc = some (.invokespecial idx)) (hq : sm_key sm_PL (mi_cp m) idx = some q) (hk : sm_MT[q.2.1]? = some k) (hr : mi_fr k + 1 ≤ mi_fr m ∧ 8 + (mi_ml k + 11) + mi_lo k ≤ mi_lo m) (hst : q.1 ≤ st.length ∧ st.drop q.1 = .ref i :: rest ∧ .ref i :: (st.take q.1).reverse = as) (hs : (rest.map fun v => v.category).sum ≤ 8) (hc : (sm_call xs q.2.1 as h).isSome = true) : sm_run xs y pc L st h = sm_run xs y (pc + 3) L ((sm_rr (sm_call xs q.2.1 as h)).toList ++ rest) (sm_rh (sm_call xs q.2.1 as h)) := by
  refine sx_inv hm hi rfl rfl rfl rfl ?_
  show (match sm_key sm_PL (mi_cp m) idx with | some q => sm_spc (sm_call xs) m q st h | none => _) = _
  rw [hq]
  show sm_spc (sm_call xs) m q st h = _
  unfold sm_spc
  rw [if_pos hst.1, hst.2.1]
  dsimp only
  rw [hst.2.2]
  exact sx_cal hk hr hs hc
theorem sx_obj {idx i : Nat} {q : List Nat} (hm : sm_MT[y]? = some m) (hi : sm_ins m pc = some (.invokespecial idx)) (h0 : sm_key sm_PL (mi_cp m) idx = none) (hq : sm_key sm_OI (mi_cp m) idx = some q) (hr : 1 ≤ mi_fr m ∧ 60 ≤ mi_lo m) (hs : (st.map fun v => v.category).sum ≤ 8) : sm_run xs y pc L (.ref i :: st) h = sm_run xs y (pc + 3) L st h := by
  refine sx_inv hm hi rfl rfl rfl rfl ?_
  unfold sm_inv
  dsimp only
  rw [h0]
  dsimp only
  rw [hq]
  dsimp only
  rw [if_pos hr]
  unfold sm_obj
  dsimp only
  rw [if_pos hs]
theorem sx_acp {idx i j : Nat} {q : List Nat} {n dp sp : Int32} (hm : sm_MT[y]? = some m) (hi : sm_ins m pc = some (.invokestatic idx)) (h0 : sm_key sm_SL (mi_cp m) idx = none) (hq : sm_key sm_AC (mi_cp m) idx = some q) (hr : 1 ≤ mi_fr m ∧ 60 ≤ mi_lo m) {f g : List Int32} (hf : h[i]? = some (.inl (.int, f))) (hg : h[j]? = some (.inl (.int, g))) (hc : ¬ sp < 0 ∧ ¬ dp < 0 ∧ ¬ n < 0 ∧ sp.toNatClampNeg + n.toNatClampNeg ≤ f.length ∧ dp.toNatClampNeg + n.toNatClampNeg ≤ g.length ∧ (st.map fun v => v.category).sum ≤ 8) : sm_run xs y pc L (.int n :: .int dp :: .ref j :: .int sp :: .ref i :: st) h = sm_run xs y (pc + 3) L st (h.set j (.inl (.int, sm_cpy f g sp.toNatClampNeg dp.toNatClampNeg n.toNatClampNeg))) := by
  refine sx_inv hm hi rfl rfl rfl rfl ?_
  unfold sm_inv
  dsimp only
  rw [h0]
  dsimp only
  rw [hq]
  dsimp only
  rw [if_pos hr]
  unfold sm_acp
  dsimp only
  rw [hf, hg]
  dsimp only
  rw [if_pos ⟨rfl, rfl, hc⟩]
def sm_cpo (f g : Option (List Int32)) (sp dp n : Int32) : Bool := match f, g with
  | some f, some g => decide (¬ sp < 0 ∧ ¬ dp < 0 ∧ ¬ n < 0 ∧ sp.toNatClampNeg + n.toNatClampNeg ≤ f.length ∧ dp.toNatClampNeg + n.toNatClampNeg ≤ g.length)
  | _, _ => false
theorem sm_arr_inv {a : Nat} {ty : FieldType} {l : List Int32} (e : sm_arr h a ty = some l) : h[a]? = some (.inl (ty, l)) := by
  unfold sm_arr at e
  split at e
  · rename_i t l' he
    split at e
    · rename_i ht; cases e; rw [he, ht]
    · cases e
  · cases e
theorem sx_acpA {idx i j : Nat} {q : List Nat} {n dp sp : Int32} (hm : sm_MT[y]? = some m) (hi : sm_ins m pc = some (.invokestatic idx)) (h0 : sm_key sm_SL (mi_cp m) idx = none) (hq : sm_key sm_AC (mi_cp m) idx = some q) (hr : 1 ≤ mi_fr m ∧ 60 ≤ mi_lo m) (hs : (st.map fun v => v.category).sum ≤ 8) (hc : sm_cpo (sm_arr h i .int) (sm_arr h j .int) sp dp n = true) : sm_run xs y pc L (.int n :: .int dp :: .ref j :: .int sp :: .ref i :: st) h = sm_run xs y (pc + 3) L st (h.set j (.inl (.int, sm_cpy ((sm_arr h i .int).getD []) ((sm_arr h j .int).getD []) sp.toNatClampNeg dp.toNatClampNeg n.toNatClampNeg))) := by
  cases hf : sm_arr h i .int with
  | none => rw [hf] at hc; cases hc
  | some f =>
    cases hg : sm_arr h j .int with
    | none => rw [hf, hg] at hc; cases hc
    | some g =>
      rw [hf, hg] at hc
      have hc := of_decide_eq_true hc
      exact sx_acp hm hi h0 hq hr (sm_arr_inv hf) (sm_arr_inv hg) ⟨hc.1, hc.2.1, hc.2.2.1, hc.2.2.2.1, hc.2.2.2.2, hs⟩
theorem sx_mat {idx : Nat} {q : Nat × List Nat} {st' : List Value} (hm : sm_MT[y]? = some m) (hi : sm_ins m pc = some (.invokestatic idx)) (h0 : sm_key sm_SL (mi_cp m) idx = none) (h1 : sm_key sm_AC (mi_cp m) idx = none) (hq : sm_key sm_MA (mi_cp m) idx = some q) (hr : 1 ≤ mi_fr m ∧ 60 ≤ mi_lo m) (hs : sm_mat q.1 st h = some (st', h)) : sm_run xs y pc L st h = sm_run xs y (pc + 3) L st' h := by
  refine sx_inv hm hi rfl rfl rfl rfl ?_
  unfold sm_inv
  dsimp only
  rw [h0]
  dsimp only
  rw [h1]
  dsimp only
  rw [hq]
  dsimp only
  rw [if_pos hr]
  exact hs
theorem sx_str {idx : Nat} {q : Nat × List Nat} {st' : List Value} (hm : sm_MT[y]? = some m) (hi : sm_ins m pc = some (.invokevirtual idx)) (h0 : sm_key sm_VL (mi_cp m) idx = none) (hq : sm_key sm_SM (mi_cp m) idx = some q) (hr : 4 ≤ mi_fr m ∧ 120 ≤ mi_lo m) (hs : (if q.1 = 0 then sm_slen st h else sm_sch st h) = some (st', h)) : sm_run xs y pc L st h = sm_run xs y (pc + 3) L st' h := by
  refine sx_inv hm hi rfl rfl rfl rfl ?_
  unfold sm_inv
  dsimp only
  rw [h0]
  dsimp only
  rw [hq]
  dsimp only
  rw [if_pos hr]
  exact hs
theorem sx_call {as : List Value} {k : MI} {L0 : LL} (hm : sm_MT[y]? = some k) (hl : (sm_lin as).length ≤ mi_ml k) (hL : sm_loc k as = L0) : sm_call xs y as h = sm_run xs y 0 L0 [] h := by
  unfold sm_call
  rw [hm]
  dsimp only
  rw [if_pos hl, hL]
end ST

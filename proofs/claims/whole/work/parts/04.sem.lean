/-! THE ABSTRACT MACHINE: what this claim's instructions do, over a heap that is a list of cells (references are places in it; sm_B + k: the k-th String constant; sm_B + 9: the law's script) -/
def sm_B : Nat := 1000
abbrev AE : Type := (FieldType × List Int32) ⊕ (List (Option Nat) ⊕ (Nat × List Value))
abbrev HH : Type := List AE
abbrev LL : Type := List (Option Value)
def mi_nm (m : MI) : MethodName := m.1
def mi_cd (m : MI) : ByteArray := m.2.1
def mi_ml (m : MI) : Nat := m.2.2.1
def mi_rt (m : MI) : Option FieldType := m.2.2.2.1
def mi_cp (m : MI) : Nat := m.2.2.2.2.1
def mi_fr (m : MI) : Nat := m.2.2.2.2.2.1
def mi_lo (m : MI) : Nat := m.2.2.2.2.2.2.1
def mi_pg (m : MI) : List (Nat × Instr) := m.2.2.2.2.2.2.2
def sm_ins (m : MI) (pc : Nat) : Option Instr := ((mi_pg m).find? (fun q => q.1 == pc)).map (fun q => q.2)
def sm_sw : Instr → Bool
  | .tableswitch _ _ _ _ => true
  | .lookupswitch _ _ => true
  | _ => false
def sm_ilen : Instr → Nat
  | .bipush _ => 2
  | .iload _ => 2
  | .aload _ => 2
  | .lload _ => 2
  | .istore _ => 2
  | .astore _ => 2
  | .lstore _ => 2
  | .ldc _ => 2
  | .newarray _ => 2
  | .sipush _ => 3
  | .iinc _ _ => 3
  | .ifCond _ _ => 3
  | .if_icmp _ _ => 3
  | .goto _ => 3
  | .ifnull _ => 3
  | .ifnonnull _ => 3
  | .getfield _ => 3
  | .putfield _ => 3
  | .invokevirtual _ => 3
  | .invokespecial _ => 3
  | .invokestatic _ => 3
  | .new _ => 3
  | .anewarray _ => 3
  | .instanceof _ => 3
  | .ldc2_w _ => 3
  | _ => 1
def sm_tgt (pc : Nat) (off : Int) : Option Nat := match (pc : Int) + off with
  | .ofNat t => some t
  | .negSucc _ => none
-- locals
def sm_clr (v : Option Value) : Option Value := match v with
  | some w => if w.category = 2 then none else some w
  | none => none
def sm_set1 (L : LL) (i : Nat) (v : Value) : LL := match i with
  | 0 => L.set 0 (some v)
  | j + 1 => (L.set j (sm_clr (L.getD j none))).set (j + 1) (some v)
def sm_set2 (L : LL) (i : Nat) (v : Value) : LL := (sm_set1 L i v).set (i + 1) none
def sm_ldI (L : LL) (k : Nat) (st : List Value) : Option (LL × List Value) := match L[k]? with
  | some (some (.int x)) => some (L, .int x :: st)
  | _ => none
def sm_ldL (L : LL) (k : Nat) (st : List Value) : Option (LL × List Value) := match L[k]? with
  | some (some (.long x)) => some (L, .long x :: st)
  | _ => none
def sm_ldA (L : LL) (k : Nat) (st : List Value) : Option (LL × List Value) := match L[k]? with
  | some (some (.ref x)) => some (L, .ref x :: st)
  | some (some .null) => some (L, .null :: st)
  | _ => none
def sm_stI (L : LL) (k : Nat) (st : List Value) : Option (LL × List Value) := match st with
  | .int x :: st => if k < L.length then some (sm_set1 L k (.int x), st) else none
  | _ => none
def sm_stA (L : LL) (k : Nat) (st : List Value) : Option (LL × List Value) := match st with
  | .ref x :: st => if k < L.length then some (sm_set1 L k (.ref x), st) else none
  | .null :: st => if k < L.length then some (sm_set1 L k .null, st) else none
  | _ => none
def sm_stL (L : LL) (k : Nat) (st : List Value) : Option (LL × List Value) := match st with
  | .long x :: st => if k + 1 < L.length then some (sm_set2 L k (.long x), st) else none
  | _ => none
-- the stack
def sm_i1 (f : Int32 → Int32) (L : LL) (st : List Value) : Option (LL × List Value) := match st with
  | .int x :: st => some (L, .int (f x) :: st)
  | _ => none
def sm_i2 (f : Int32 → Int32 → Int32) (L : LL) (st : List Value) : Option (LL × List Value) := match st with
  | .int y :: .int x :: st => some (L, .int (f x y) :: st)
  | _ => none
def sm_i2z (f : Int32 → Int32 → Int32) (L : LL) (st : List Value) : Option (LL × List Value) := match st with
  | .int y :: .int x :: st => if y = 0 then none else some (L, .int (f x y) :: st)
  | _ => none
def sm_l1 (f : Int64 → Int64) (L : LL) (st : List Value) : Option (LL × List Value) := match st with
  | .long x :: st => some (L, .long (f x) :: st)
  | _ => none
def sm_l2 (f : Int64 → Int64 → Int64) (L : LL) (st : List Value) : Option (LL × List Value) := match st with
  | .long y :: .long x :: st => some (L, .long (f x y) :: st)
  | _ => none
def sm_l2z (f : Int64 → Int64 → Int64) (L : LL) (st : List Value) : Option (LL × List Value) := match st with
  | .long y :: .long x :: st => if y = 0 then none else some (L, .long (f x y) :: st)
  | _ => none
def sm_l2i (f : Int64 → Int64 → Int32) (L : LL) (st : List Value) : Option (LL × List Value) := match st with
  | .long y :: .long x :: st => some (L, .int (f x y) :: st)
  | _ => none
def sm_cil (L : LL) (st : List Value) : Option (LL × List Value) := match st with
  | .int x :: st => some (L, .long x.toInt64 :: st)
  | _ => none
def sm_cli (L : LL) (st : List Value) : Option (LL × List Value) := match st with
  | .long x :: st => some (L, .int x.toInt32 :: st)
  | _ => none
def sm_dup (L : LL) (st : List Value) : Option (LL × List Value) := match st with
  | v :: st => if v.category = 1 then some (L, v :: v :: st) else none
  | _ => none
def sm_dup2 (L : LL) (st : List Value) : Option (LL × List Value) := match st with
  | v :: w :: st => if v.category = 1 ∧ w.category = 1 then some (L, v :: w :: v :: w :: st) else none
  | _ => none
def sm_iinc (L : LL) (k : Nat) (n : Int) (st : List Value) : Option (LL × List Value) := match L[k]? with
  | some (some (.int x)) => some (sm_set1 L k (.int (x + Int32.ofInt n)), st)
  | _ => none
def sm_pur (i : Instr) (L : LL) (st : List Value) : Option (LL × List Value) := match i with
  | .iconst n => some (L, .int (Int32.ofInt n) :: st)
  | .bipush n => some (L, .int (Int8.ofInt n).toInt32 :: st)
  | .sipush n => some (L, .int (Int16.ofInt n).toInt32 :: st)
  | .lconst n => some (L, .long (Int64.ofNat (n : Nat)) :: st)
  | .iload k => sm_ldI L k st
  | .iload_n k => sm_ldI L (k : Nat) st
  | .lload k => sm_ldL L k st
  | .lload_n k => sm_ldL L (k : Nat) st
  | .aload k => sm_ldA L k st
  | .aload_n k => sm_ldA L (k : Nat) st
  | .istore k => sm_stI L k st
  | .istore_n k => sm_stI L (k : Nat) st
  | .lstore k => sm_stL L k st
  | .lstore_n k => sm_stL L (k : Nat) st
  | .astore k => sm_stA L k st
  | .astore_n k => sm_stA L (k : Nat) st
  | .iinc k n => sm_iinc L k n st
  | .iadd => sm_i2 (fun x y => x + y) L st
  | .isub => sm_i2 (fun x y => x - y) L st
  | .imul => sm_i2 (fun x y => x * y) L st
  | .iand => sm_i2 (fun x y => x &&& y) L st
  | .ior => sm_i2 (fun x y => x ||| y) L st
  | .ixor => sm_i2 (fun x y => x ^^^ y) L st
  | .ishl => sm_i2 (fun x y => x <<< (y &&& 31)) L st
  | .ishr => sm_i2 (fun x y => x >>> (y &&& 31)) L st
  | .idiv => sm_i2z (fun x y => x / y) L st
  | .irem => sm_i2z (fun x y => x - x / y * y) L st
  | .ineg => sm_i1 (fun x => -x) L st
  | .i2c => sm_i1 (fun x => (x.toUInt32 % 65536).toInt32) L st
  | .ladd => sm_l2 (fun x y => x + y) L st
  | .lsub => sm_l2 (fun x y => x - y) L st
  | .lmul => sm_l2 (fun x y => x * y) L st
  | .ldiv => sm_l2z (fun x y => x / y) L st
  | .lrem => sm_l2z (fun x y => x - x / y * y) L st
  | .lneg => sm_l1 (fun x => -x) L st
  | .lcmp => sm_l2i lg_cmp L st
  | .i2l => sm_cil L st
  | .l2i => sm_cli L st
  | .dup => sm_dup L st
  | .dup2 => sm_dup2 L st
  | _ => none
-- jumps
def sm_icb (c : Jvm.ClassFile.Cond) (x y : Int32) : Bool := match c with
  | .eq => decide (x = y)
  | .ne => decide (¬ x = y)
  | .lt => decide (x < y)
  | .ge => decide (y ≤ x)
  | .gt => decide (y < x)
  | .le => decide (x ≤ y)
def sm_go (pc : Nat) (off : Int) (st : List Value) : Option (Nat × List Value) := match sm_tgt pc off with
  | some t => some (t, st)
  | none => none
def sm_br (b : Bool) (pc : Nat) (off : Int) (st : List Value) : Option (Nat × List Value) := match sm_tgt pc off with
  | some t => some (bif b then t else pc + 3, st)
  | none => none
def sm_if (c : Jvm.ClassFile.Cond) (pc : Nat) (off : Int) (st : List Value) : Option (Nat × List Value) := match st with
  | .int x :: st => sm_br (sm_icb c x 0) pc off st
  | _ => none
def sm_icmp (c : Jvm.ClassFile.Cond) (pc : Nat) (off : Int) (st : List Value) : Option (Nat × List Value) := match st with
  | .int y :: .int x :: st => sm_br (sm_icb c x y) pc off st
  | _ => none
def sm_nul (b : Bool) (pc : Nat) (off : Int) (st : List Value) : Option (Nat × List Value) := match st with
  | .null :: st => sm_br b pc off st
  | .ref _ :: st => sm_br (!b) pc off st
  | _ => none
def sm_tsw (d lo hi : Int) (offs : Array Int) (pc : Nat) (st : List Value) : Option (Nat × List Value) := match st with
  | .int x :: st => if x.toInt < lo ∨ hi < x.toInt then sm_go pc d st else match offs[(x.toInt - lo).toNat]? with
    | some off => sm_go pc off st
    | none => none
  | _ => none
def sm_lsw (d : Int) (ps : Array (Int × Int)) (pc : Nat) (st : List Value) : Option (Nat × List Value) := match st with
  | .int x :: st => if (ps.toList.zip (ps.toList.drop 1)).all (fun (a, next) => a.1 < next.1) = true then sm_go pc (Op.lookupswitch.offset ps.toList d x.toInt) st else none
  | _ => none
def sm_ctl (i : Instr) (pc : Nat) (st : List Value) : Option (Nat × List Value) := match i with
  | .goto off => sm_go pc off st
  | .ifCond c off => sm_if c pc off st
  | .if_icmp c off => sm_icmp c pc off st
  | .ifnull off => sm_nul true pc off st
  | .ifnonnull off => sm_nul false pc off st
  | .tableswitch d lo hi offs => sm_tsw d lo hi offs pc st
  | .lookupswitch d ps => sm_lsw d ps pc st
  | _ => none
-- the heap
def sm_key {α : Type} (l : List (Nat × Nat × α)) (cp idx : Nat) : Option α := (l.find? (fun q => q.1 == cp && q.2.1 == idx)).map (fun q => q.2.2)
def sm_ty (ci k : Nat) : FieldType := (sm_tyl.getD ci (fun _ => .int)) k
def sm_fl (ci k : Nat) : String × String × String × Bool := match sm_CL[ci]? with
  | some q => q.2.1 k
  | none => ("", "", "", false)
def sm_nf (ci : Nat) : Nat := match sm_CL[ci]? with
  | some q => q.2.2
  | none => 0
def sm_dfl (ci : Nat) : List Value := (List.range (sm_nf ci)).map (fun k => defaultValue (sm_ty ci k))
def sm_pok (t : FieldType) (v : Value) : Bool := match t, v with
  | .int, .int _ => true
  | .boolean, .int x => decide (x = 0) || decide (x = 1)
  | .object _, .ref _ => true
  | .object _, .null => true
  | .array _, .ref _ => true
  | .array _, .null => true
  | _, _ => false
def sm_fin (m : MI) (ci k : Nat) : Bool := !(sm_fl ci k).2.2.2 || (decide ((mi_nm m).name = "<init>") && decide ((sm_fl ci k).1 = sm_cpn (mi_cp m)))
def sm_get (ci k : Nat) (st : List Value) (h : HH) : Option (List Value × HH) := match st with
  | .ref i :: st => match h[i]? with
    | some (.inr (.inr (c, fs))) => if c = ci then (match fs[k]? with
      | some v => some (v :: st, h)
      | none => none) else none
    | _ => none
  | _ => none
def sm_put (m : MI) (ci k : Nat) (st : List Value) (h : HH) : Option (List Value × HH) := match st with
  | v :: .ref i :: st => match h[i]? with
    | some (.inr (.inr (c, fs))) => if c = ci ∧ k < fs.length ∧ sm_pok (sm_ty ci k) v = true ∧ sm_fin m ci k = true then some (st, h.set i (.inr (.inr (c, fs.set k v)))) else none
    | _ => none
  | _ => none
def sm_ald (xs : List Int32) (ty : FieldType) (st : List Value) (h : HH) : Option (List Value × HH) := match st with
  | .int j :: .ref i :: st => match h[i]? with
    | some (.inl (t, l)) => if t = ty ∧ ¬ (j < 0 ∨ l.length ≤ j.toNatClampNeg) then some (.int (l.getD j.toNatClampNeg 0) :: st, h) else none
    | none => if i = sm_B + 9 ∧ ty = .int ∧ ¬ (j < 0 ∨ xs.length ≤ j.toNatClampNeg) then some (.int (xs.getD j.toNatClampNeg 0) :: st, h) else none
    | _ => none
  | _ => none
def sm_nar (ty : FieldType) (x : Int32) : Int32 := match ty with
  | .int => x
  | t => vp_nar t x
def sm_ast (ty : FieldType) (st : List Value) (h : HH) : Option (List Value × HH) := match st with
  | .int x :: .int j :: .ref i :: st => match h[i]? with
    | some (.inl (t, l)) => if t = ty ∧ ¬ (j < 0 ∨ l.length ≤ j.toNatClampNeg) then some (st, h.set i (.inl (t, l.set j.toNatClampNeg (sm_nar ty x)))) else none
    | _ => none
  | _ => none
def sm_rv (r : Option Nat) : Value := match r with
  | none => .null
  | some a => .ref a
def sm_aald (st : List Value) (h : HH) : Option (List Value × HH) := match st with
  | .int j :: .ref i :: st => match h[i]? with
    | some (.inr (.inl l)) => if ¬ (j < 0 ∨ l.length ≤ j.toNatClampNeg) then some (sm_rv (l.getD j.toNatClampNeg none) :: st, h) else none
    | _ => none
  | _ => none
def sm_isp (h : HH) (k : Nat) : Bool := match h[k]? with
  | some (.inr (.inr (c, _))) => decide (c = 3)
  | _ => false
def sm_aast (st : List Value) (h : HH) : Option (List Value × HH) := match st with
  | .ref k :: .int j :: .ref i :: st => match h[i]? with
    | some (.inr (.inl l)) => if sm_isp h k = true ∧ ¬ (j < 0 ∨ l.length ≤ j.toNatClampNeg) then some (st, h.set i (.inr (.inl (l.set j.toNatClampNeg (some k))))) else none
    | _ => none
  | _ => none
def sm_alen (xs : List Int32) (st : List Value) (h : HH) : Option (List Value × HH) := match st with
  | .ref i :: st => match h[i]? with
    | some (.inl (t, l)) => if t = .int then some (.int (Int32.ofNat l.length) :: st, h) else none
    | none => if i = sm_B + 9 then some (.int (Int32.ofNat xs.length) :: st, h) else none
    | _ => none
  | _ => none
def sm_aty (t : ArrayType) : Option FieldType := match t with
  | .int => some .int
  | .char => some .char
  | .boolean => some .boolean
  | _ => none
def sm_newa (t : ArrayType) (st : List Value) (h : HH) : Option (List Value × HH) := match st with
  | .int n :: st => match sm_aty t with
    | some ty => if ¬ n < 0 ∧ n.toNatClampNeg ≤ 100000 ∧ h.length < sm_B then some (.ref h.length :: st, h ++ [.inl (ty, List.replicate n.toNatClampNeg 0)]) else none
    | none => none
  | _ => none
def sm_newq (st : List Value) (h : HH) : Option (List Value × HH) := match st with
  | .int n :: st => if ¬ n < 0 ∧ n.toNatClampNeg ≤ 100000 ∧ h.length < sm_B then some (.ref h.length :: st, h ++ [.inr (.inl (List.replicate n.toNatClampNeg none))]) else none
  | _ => none
def sm_new (ci : Nat) (st : List Value) (h : HH) : Option (List Value × HH) :=
  if h.length < sm_B then some (.ref h.length :: st, h ++ [.inr (.inr (ci, sm_dfl ci))]) else none
def sm_sub (c d : Nat) : Option Int32 :=
  if c = d then some 1 else if (c = 1 ∧ d = 6) ∨ (c = 4 ∧ d = 6) then some 1 else if (c = 0 ∨ c = 1 ∨ c = 4 ∨ c = 6) ∧ (d = 0 ∨ d = 1 ∨ d = 4 ∨ d = 6) then some 0 else none
def sm_inst (d : Nat) (st : List Value) (h : HH) : Option (List Value × HH) := match st with
  | .ref i :: st => match h[i]? with
    | some (.inr (.inr (c, _))) => match sm_sub c d with
      | some x => some (.int x :: st, h)
      | none => none
    | _ => none
  | _ => none
def sm_cpy (f g : List Int32) (sp dp n : Nat) : List Int32 := g.mapIdx (fun k y => if dp ≤ k ∧ k < dp + n then f.getD (sp + (k - dp)) 0 else y)
def sm_acp (st : List Value) (h : HH) : Option (List Value × HH) := match st with
  | .int n :: .int dp :: .ref j :: .int sp :: .ref i :: st => match h[i]?, h[j]? with
    | some (.inl (t, f)), some (.inl (u, g)) => if t = .int ∧ u = .int ∧ ¬ sp < 0 ∧ ¬ dp < 0 ∧ ¬ n < 0 ∧ sp.toNatClampNeg + n.toNatClampNeg ≤ f.length ∧ dp.toNatClampNeg + n.toNatClampNeg ≤ g.length ∧ (st.map fun v => v.category).sum ≤ 8 then some (st, h.set j (.inl (u, sm_cpy f g sp.toNatClampNeg dp.toNatClampNeg n.toNatClampNeg))) else none
    | _, _ => none
  | _ => none
def sm_hop (xs : List Int32) (m : MI) (i : Instr) (st : List Value) (h : HH) : Option (List Value × HH) := match i with
  | .getfield idx => match sm_key sm_FT (mi_cp m) idx with
    | some q => sm_get q.1 q.2.1 st h
    | none => none
  | .putfield idx => match sm_key sm_FT (mi_cp m) idx with
    | some q => sm_put m q.1 q.2.1 st h
    | none => none
  | .iaload => sm_ald xs .int st h
  | .caload => sm_ald xs .char st h
  | .baload => sm_ald xs .boolean st h
  | .iastore => sm_ast .int st h
  | .castore => sm_ast .char st h
  | .bastore => sm_ast .boolean st h
  | .aaload => sm_aald st h
  | .aastore => sm_aast st h
  | .arraylength => sm_alen xs st h
  | .newarray t => sm_newa t st h
  | .anewarray idx => match sm_key sm_QL (mi_cp m) idx with
    | some _ => sm_newq st h
    | none => none
  | .new idx => match sm_key sm_NL (mi_cp m) idx with
    | some q => sm_new q.1 st h
    | none => none
  | .instanceof idx => match sm_key sm_IL (mi_cp m) idx with
    | some q => sm_inst q.1 st h
    | none => none
  | .ldc idx => match sm_key sm_ST (mi_cp m) idx with
    | some q => some (.ref (sm_B + q.1) :: st, h)
    | none => none
  | .ldc2_w idx => match sm_key sm_LT (mi_cp m) idx with
    | some q => some (.long q.1 :: st, h)
    | none => none
  | _ => none
-- calls
abbrev CR : Type := Nat → List Value → HH → Option (Option Value × HH)
def sm_cal (C : CR) (m : MI) (y : Nat) (as rest : List Value) (h : HH) : Option (List Value × HH) := match sm_MT[y]? with
  | some k => if mi_fr k + 1 ≤ mi_fr m ∧ 8 + (mi_ml k + 11) + mi_lo k ≤ mi_lo m ∧ (rest.map fun v => v.category).sum ≤ 8 then (match C y as h with
    | some (r, h') => some (r.toList ++ rest, h')
    | none => none) else none
  | none => none
def sm_cls (h : HH) (i : Nat) : Option Nat := match h[i]? with
  | some (.inr (.inr (c, _))) => some c
  | _ => none
def sm_vrt (C : CR) (m : MI) (q : Nat × MethodName × List (Nat × Nat × Nat × List Nat)) (st : List Value) (h : HH) : Option (List Value × HH) :=
  if q.1 ≤ st.length then (match st.drop q.1 with
  | .ref i :: rest => match sm_cls h i with
    | some c => match q.2.2.find? (fun e => e.1 == c) with
      | some e => sm_cal C m e.2.1 (.ref i :: (st.take q.1).reverse) rest h
      | none => none
    | none => none
  | _ => none) else none
def sm_sta (C : CR) (m : MI) (q : Nat × Nat × Nat × List Nat) (st : List Value) (h : HH) : Option (List Value × HH) :=
  if q.1 ≤ st.length then sm_cal C m q.2.1 (st.take q.1).reverse (st.drop q.1) h else none
def sm_spc (C : CR) (m : MI) (q : Nat × Nat × Nat × List Nat) (st : List Value) (h : HH) : Option (List Value × HH) :=
  if q.1 ≤ st.length then (match st.drop q.1 with
  | .ref i :: rest => sm_cal C m q.2.1 (.ref i :: (st.take q.1).reverse) rest h
  | _ => none) else none
def sm_obj (st : List Value) (h : HH) : Option (List Value × HH) := match st with
  | .ref _ :: st => if (st.map fun v => v.category).sum ≤ 8 then some (st, h) else none
  | _ => none
def sm_slen (st : List Value) (h : HH) : Option (List Value × HH) := match st with
  | .ref i :: st => if sm_B ≤ i ∧ i - sm_B < sm_strs.length ∧ (st.map fun v => v.category).sum ≤ 8 then some (.int (Int32.ofNat (sm_strs.getD (i - sm_B) []).length) :: st, h) else none
  | _ => none
def sm_sch (st : List Value) (h : HH) : Option (List Value × HH) := match st with
  | .int j :: .ref i :: st => if sm_B ≤ i ∧ i - sm_B < sm_strs.length ∧ ¬ (j < 0 ∨ (sm_strs.getD (i - sm_B) []).length ≤ j.toNatClampNeg) ∧ (st.map fun v => v.category).sum ≤ 8 then some (.int ((sm_strs.getD (i - sm_B) []).getD j.toNatClampNeg 0) :: st, h) else none
  | _ => none
def sm_mat (k : Nat) (st : List Value) (h : HH) : Option (List Value × HH) := match k, st with
  | 0, .int y :: .int x :: st => if (st.map fun v => v.category).sum ≤ 8 then some (.int (if x < y then y else x) :: st, h) else none
  | 1, .int y :: .int x :: st => if (st.map fun v => v.category).sum ≤ 8 then some (.int (if y < x then y else x) :: st, h) else none
  | 2, .long x :: st => if (st.map fun v => v.category).sum ≤ 8 then some (.long (if 0 < x then x else -x) :: st, h) else none
  | _, _ => none
def sm_inv (C : CR) (m : MI) (i : Instr) (st : List Value) (h : HH) : Option (List Value × HH) := match i with
  | .invokevirtual idx => match sm_key sm_VL (mi_cp m) idx with
    | some q => sm_vrt C m q st h
    | none => match sm_key sm_SM (mi_cp m) idx with
      | some q => if 4 ≤ mi_fr m ∧ 120 ≤ mi_lo m then (if q.1 = 0 then sm_slen st h else sm_sch st h) else none
      | none => none
  | .invokestatic idx => match sm_key sm_SL (mi_cp m) idx with
    | some q => sm_sta C m q st h
    | none => match sm_key sm_AC (mi_cp m) idx with
      | some _ => if 1 ≤ mi_fr m ∧ 60 ≤ mi_lo m then sm_acp st h else none
      | none => match sm_key sm_MA (mi_cp m) idx with
        | some q => if 1 ≤ mi_fr m ∧ 60 ≤ mi_lo m then sm_mat q.1 st h else none
        | none => none
  | .invokespecial idx => match sm_key sm_PL (mi_cp m) idx with
    | some q => sm_spc C m q st h
    | none => match sm_key sm_OI (mi_cp m) idx with
      | some _ => if 1 ≤ mi_fr m ∧ 60 ≤ mi_lo m then sm_obj st h else none
      | none => none
  | _ => none
-- returns
def sm_ret (m : MI) (i : Instr) (st : List Value) : Option (Option Value) := match i with
  | .return_ => match mi_rt m, st with
    | none, [] => some none
    | _, _ => none
  | .ireturn => match mi_rt m, st with
    | some .int, [.int v] => some (some (.int v))
    | some .boolean, [.int v] => if v = 0 ∨ v = 1 then some (some (.int v)) else none
    | _, _ => none
  | .lreturn => match mi_rt m, st with
    | some .long, [.long v] => some (some (.long v))
    | _, _ => none
  | .areturn => match mi_rt m, st with
    | some (.object _), [.ref v] => some (some (.ref v))
    | _, _ => none
  | _ => none
abbrev SS : Type := Nat × LL × List Value × HH
def sm_stp (xs : List Int32) (C : CR) (m : MI) (i : Instr) (pc : Nat) (L : LL) (st : List Value) (h : HH) : Option SS := match sm_pur i L st with
  | some q => some (pc + sm_ilen i, q.1, q.2, h)
  | none => match sm_ctl i pc st with
    | some q => some (q.1, L, q.2, h)
    | none => match sm_hop xs m i st h with
      | some q => some (pc + sm_ilen i, L, q.1, q.2)
      | none => match sm_inv C m i st h with
        | some q => some (pc + 3, L, q.1, q.2)
        | none => none
def sm_lin (as : List Value) : LL := as.flatMap (fun v => if v.category = 2 then [some v, none] else [some v])
def sm_loc (m : MI) (as : List Value) : LL := sm_lin as ++ List.replicate (mi_ml m - (sm_lin as).length) none
def sm_run0 (xs : List Int32) : Nat → Nat → Nat → LL → List Value → HH → Option (Option Value × HH)
  | 0, _, _, _, _, _ => none
  | n + 1, y, pc, L, st, h => match sm_MT[y]? with
    | none => none
    | some m => match sm_ins m pc with
      | none => none
      | some i => match sm_ret m i st with
        | some r => some (r, h)
        | none => match sm_stp xs (fun y as h => match sm_MT[y]? with
            | none => none
            | some k => if (sm_lin as).length ≤ mi_ml k then sm_run0 xs n y 0 (sm_loc k as) [] h else none) m i pc L st h with
          | some q => sm_run0 xs n y q.1 q.2.1 q.2.2.1 q.2.2.2
          | none => none

def sm_GG : List Cond := lw_tbl.filter goodWord
def sm_at (k : Nat) (w : Cond) : Bool := decide (lw_tbl[k]? = some w) && goodWord w
theorem sm_at_mem {k : Nat} {w : Cond} (h : sm_at k w = true) : w ∈ sm_GG := by
  unfold sm_at at h
  rw [Bool.and_eq_true] at h
  exact List.mem_filter.mpr ⟨List.mem_of_getElem? (of_decide_eq_true h.1), h.2⟩
theorem sm_key_mem {α : Type} {l : List (Nat × Nat × α)} {cp idx : Nat} {a : α} (h : sm_key l cp idx = some a) : (cp, idx, a) ∈ l := by
  unfold sm_key at h
  cases hf : l.find? (fun q => q.1 == cp && q.2.1 == idx) with
  | none => rw [hf] at h; cases h
  | some q =>
    rw [hf] at h
    cases h
    have h1 := List.find?_some hf
    have h2 := List.mem_of_find?_eq_some hf
    simp only [Bool.and_eq_true, beq_iff_eq] at h1
    obtain ⟨x, y, z⟩ := q
    obtain ⟨rfl, rfl⟩ := h1
    exact h2
-- classes
theorem sm_in0 : ∀ w ∈ u_ws RX0 TX0 0, w ∈ sm_GG := by decide +kernel
theorem sm_in1 : ∀ w ∈ u_ws RX1 TX1 0, w ∈ sm_GG := by decide +kernel
theorem sm_in2 : ∀ w ∈ u_ws RX2 TX2 3, w ∈ sm_GG := by decide +kernel
theorem sm_in3 : ∀ w ∈ u_ws RX3 TX3 8, w ∈ sm_GG := by decide +kernel
theorem sm_in4 : ∀ w ∈ u_ws RX4 TX4 0, w ∈ sm_GG := by decide +kernel
theorem sm_in5 : ∀ w ∈ u_ws RX5 TX5 3, w ∈ sm_GG := by decide +kernel
theorem sm_in6 : ∀ w ∈ u_ws RX6 TX6 0, w ∈ sm_GG := by decide +kernel
theorem sm_in7 : ∀ w ∈ u_ws RX7 TX7 9, w ∈ sm_GG := by decide +kernel
theorem sm_in8 : ∀ w ∈ u_ws RX8 TX8 0, w ∈ sm_GG := by decide +kernel
theorem sm_in9 : ∀ w ∈ u_ws RX9 TX9 15, w ∈ sm_GG := by decide +kernel
theorem sm_in10 : ∀ w ∈ u_ws RX10 TX10 22, w ∈ sm_GG := by decide +kernel
theorem sm_CL_ok : ∀ (ci : Nat) (C : String) (T : u_T) (N : Nat), sm_CL[ci]? = some (C, T, N) → (∀ w ∈ u_ws C T N, w ∈ sm_GG) ∧ (∀ k, k < N → parseFieldDescriptor (T k).2.2.1 = some (sm_ty ci k)) ∧ (∀ a, a < N → ∀ b, b < N → a ≠ b → (T a).2.1 ≠ (T b).2.1) := by
  intro ci C T N h
  match ci, h with
  | 0, h => cases h; exact ⟨sm_in0, tyX0_ok, nmX0⟩
  | 1, h => cases h; exact ⟨sm_in1, tyX1_ok, nmX1⟩
  | 2, h => cases h; exact ⟨sm_in2, tyX2_ok, nmX2⟩
  | 3, h => cases h; exact ⟨sm_in3, tyX3_ok, nmX3⟩
  | 4, h => cases h; exact ⟨sm_in4, tyX4_ok, nmX4⟩
  | 5, h => cases h; exact ⟨sm_in5, tyX5_ok, nmX5⟩
  | 6, h => cases h; exact ⟨sm_in6, tyX6_ok, nmX6⟩
  | 7, h => cases h; exact ⟨sm_in7, tyX7_ok, nmX7⟩
  | 8, h => cases h; exact ⟨sm_in6, fun k hk => absurd hk (Nat.not_lt_zero k), nmX6⟩
  | 9, h => cases h; exact ⟨sm_in9, tyX9_ok, nmX9⟩
  | 10, h => cases h; exact ⟨sm_in10, tyX10_ok, nmX10⟩
  | k + 11, h => simp [sm_CL] at h
def sm_FTc (q : Nat × Nat × Nat × Nat × Nat) : Bool := match sm_CL[q.2.2.1]? with
  | some r => decide (q.2.2.2.1 < r.2.2) && sm_at q.2.2.2.2 (.fieldLink (sm_cpn q.1) q.2.1 (r.2.1 q.2.2.2.1).1 (r.2.1 q.2.2.2.1).2.1 (r.2.1 q.2.2.2.1).2.2.1)
  | none => false
theorem sm_FT_all : sm_FT.all sm_FTc = true := by decide +kernel
theorem sm_FT_ok {cp idx : Nat} {q : Nat × Nat × Nat} (h : sm_key sm_FT cp idx = some q) : ∃ (C : String) (T : u_T) (N : Nat), sm_CL[q.1]? = some (C, T, N) ∧ q.2.1 < N ∧ Cond.fieldLink (sm_cpn cp) idx (T q.2.1).1 (T q.2.1).2.1 (T q.2.1).2.2.1 ∈ sm_GG := by
  have h1 := List.all_eq_true.mp sm_FT_all _ (sm_key_mem h)
  unfold sm_FTc at h1
  dsimp only at h1
  split at h1
  · rename_i r hr
    obtain ⟨C, T, N⟩ := r
    rw [Bool.and_eq_true] at h1
    exact ⟨C, T, N, hr, of_decide_eq_true h1.1, sm_at_mem h1.2⟩
  · cases h1
def sm_NLc (q : Nat × Nat × Nat × List Nat) : Bool := match sm_CL[q.2.2.1]?, q.2.2.2 with
  | some r, [i, j, k] => sm_at i (.classLink (sm_cpn q.1) q.2.1 r.1) && (sm_at j (.instantiable r.1 r.2.2) && sm_at k (.initialized r.1))
  | _, _ => false
theorem sm_NL_all : sm_NL.all sm_NLc = true := by decide +kernel
theorem sm_NL_ok {cp idx : Nat} {q : Nat × List Nat} (h : sm_key sm_NL cp idx = some q) : ∃ (C : String) (T : u_T) (N : Nat), sm_CL[q.1]? = some (C, T, N) ∧ Cond.classLink (sm_cpn cp) idx C ∈ sm_GG ∧ Cond.instantiable C N ∈ sm_GG ∧ Cond.initialized C ∈ sm_GG := by
  have h1 := List.all_eq_true.mp sm_NL_all _ (sm_key_mem h)
  unfold sm_NLc at h1
  dsimp only at h1
  split at h1
  · rename_i r i j k hr hq
    obtain ⟨C, T, N⟩ := r
    rw [Bool.and_eq_true, Bool.and_eq_true] at h1
    exact ⟨C, T, N, hr, sm_at_mem h1.1, sm_at_mem h1.2.1, sm_at_mem h1.2.2⟩
  · cases h1
def sm_ILc (q : Nat × Nat × Nat × List Nat) : Bool := match sm_CL[q.2.2.1]?, q.2.2.2 with
  | some r, [i] => sm_at i (.classLink (sm_cpn q.1) q.2.1 r.1)
  | _, _ => false
theorem sm_IL_all : sm_IL.all sm_ILc = true := by decide +kernel
theorem sm_IL_ok {cp idx : Nat} {q : Nat × List Nat} (h : sm_key sm_IL cp idx = some q) : ∃ (C : String) (T : u_T) (N : Nat), sm_CL[q.1]? = some (C, T, N) ∧ Cond.classLink (sm_cpn cp) idx C ∈ sm_GG := by
  have h1 := List.all_eq_true.mp sm_IL_all _ (sm_key_mem h)
  unfold sm_ILc at h1
  dsimp only at h1
  split at h1
  · rename_i r i hr hq
    obtain ⟨C, T, N⟩ := r
    exact ⟨C, T, N, hr, sm_at_mem h1⟩
  · cases h1
def sm_QLc (q : Nat × Nat × List Nat) : Bool := match q.2.2 with
  | [i] => sm_at i (.classLink (sm_cpn q.1) q.2.1 "ForKeeps$Patch")
  | _ => false
theorem sm_QL_all : sm_QL.all sm_QLc = true := by decide +kernel
theorem sm_QL_ok {cp idx : Nat} {q : List Nat} (h : sm_key sm_QL cp idx = some q) : Cond.classLink (sm_cpn cp) idx "ForKeeps$Patch" ∈ sm_GG := by
  have h1 := List.all_eq_true.mp sm_QL_all _ (sm_key_mem h)
  unfold sm_QLc at h1
  dsimp only at h1
  split at h1
  · exact sm_at_mem h1
  · cases h1
def sm_LTc (q : Nat × Nat × Int64 × List Nat) : Bool := match q.2.2.2 with
  | [i] => sm_at i (.constantLong (sm_cpn q.1) q.2.1 q.2.2.1)
  | _ => false
theorem sm_LT_all : sm_LT.all sm_LTc = true := by decide +kernel
theorem sm_LT_ok {cp idx : Nat} {q : Int64 × List Nat} (h : sm_key sm_LT cp idx = some q) : Cond.constantLong (sm_cpn cp) idx q.1 ∈ sm_GG := by
  have h1 := List.all_eq_true.mp sm_LT_all _ (sm_key_mem h)
  unfold sm_LTc at h1
  dsimp only at h1
  split at h1
  · exact sm_at_mem h1
  · cases h1
theorem sm_ac_int : Cond.arrayClass .int ∈ sm_GG := by decide +kernel
theorem sm_ac_char : Cond.arrayClass .char ∈ sm_GG := by decide +kernel
theorem sm_ac_boolean : Cond.arrayClass .boolean ∈ sm_GG := by decide +kernel
theorem sm_ca16 : Cond.castable RX1 RX6 ∈ lw_tbl := by decide +kernel
theorem sm_ca46 : Cond.castable RX4 RX6 ∈ lw_tbl := by decide +kernel
-- the heap's picture
def sm_ce (b : Nat) (sK : Nat → Nat) (cid : FieldType → ClassId) (e : AE) : va_E := match e with
  | .inl q => .inl (cid q.1, q.2.length, .inl (fun j => q.2.getD j 0))
  | .inr (.inl l) => .inl (cid (.object "ForKeeps$Patch"), l.length, .inr (.inr (.inr (.inr (fun j => (l.getD j none).map (sm_cr b sK))))))
  | .inr (.inr q) => .inr (q.1, q.2.map (sm_cv b sK))
def sm_ws (b : Nat) (sK : Nat → Nat) (cid : FieldType → ClassId) (h : HH) : va_W := h.mapIdx (fun k e => (b + k, sm_ce b sK cid e))
theorem sm_ws_get {b : Nat} {sK : Nat → Nat} {cid : FieldType → ClassId} {h : HH} {k : Nat} {e : AE} (he : h[k]? = some e) : (sm_ws b sK cid h)[k]? = some (b + k, sm_ce b sK cid e) := by
  unfold sm_ws
  rw [List.getElem?_mapIdx, he]
  rfl
theorem sm_ws_inv {b : Nat} {sK : Nat → Nat} {cid : FieldType → ClassId} {h : HH} {k : Nat} {q : Nat × va_E} (he : (sm_ws b sK cid h)[k]? = some q) : k < h.length ∧ q.1 = b + k := by
  unfold sm_ws at he
  rw [List.getElem?_mapIdx] at he
  cases hk : h[k]? with
  | none => rw [hk] at he; cases he
  | some e => rw [hk] at he; cases he; exact ⟨(List.getElem?_eq_some_iff.mp hk).1, rfl⟩
theorem sm_ws_set (b : Nat) (sK : Nat → Nat) (cid : FieldType → ClassId) (h : HH) (k : Nat) (e : AE) : (sm_ws b sK cid h).set k (b + k, sm_ce b sK cid e) = sm_ws b sK cid (h.set k e) := by
  unfold sm_ws
  rw [List.mapIdx_set]
theorem sm_ws_app (b : Nat) (sK : Nat → Nat) (cid : FieldType → ClassId) (h : HH) (e : AE) : sm_ws b sK cid (h ++ [e]) = sm_ws b sK cid h ++ [(b + h.length, sm_ce b sK cid e)] := by
  unfold sm_ws
  rw [List.mapIdx_append]
  simp
theorem sm_ws_D (b : Nat) (sK : Nat → Nat) (cid : FieldType → ClassId) (h : HH) : va_D (fun q => b ≤ q) (sm_ws b sK cid h) := by
  refine ⟨fun i j p q hi hj hpq => ?_, fun k q hk => ?_⟩
  · have h1 := (sm_ws_inv hi).2
    have h2 := (sm_ws_inv hj).2
    omega
  · have h1 := (sm_ws_inv hk).2
    show b ≤ q.1
    omega
def sm_tys (cid : FieldType → ClassId) : List (ClassId × FieldType) := [(cid .int, .int), (cid .char, .char), (cid .boolean, .boolean), (cid (.object "ForKeeps$Patch"), .object "ForKeeps$Patch")]
def sm_no : List (String × String) := [(RX0, RX1), (RX0, RX4), (RX0, RX6), (RX1, RX0), (RX1, RX4), (RX4, RX0), (RX4, RX1), (RX6, RX0), (RX6, RX1), (RX6, RX4)]
def sm_txt (k : Nat) : String := (["patch", "slope", "lay", "steady", "shaky", "lucky", "bank", "owe", "even"] : List String).getD k ""
def sm_slens : List Nat := sm_strs.map List.length
def sm_Ev (xs : List Int32) (b : Nat) (sK aV : Nat → Nat) (cid : FieldType → ClassId) (D : va_G) (U : State) : Prop :=
  va_K D sm_CL (sm_tys cid) U ∧ (∀ w ∈ sm_nest, va_Nw w U) ∧ va_AO "ForKeeps$Patch" U ∧ va_Nw (.declares ⟨"ForKeeps$Thumb", "share", "(I)I"⟩) U ∧ (∀ q ∈ sm_no, va_Nc q.1 q.2 U) ∧ (va_Nw (.castable RX1 RX6) U ∧ va_Nw (.castable RX4 RX6) U) ∧ (∀ q ∈ sm_ST, vk_R (sm_cpn q.1) q.2.1 (sm_txt q.2.2.1) (sK q.2.2.1) U) ∧
  vk_S 9 sm_slens sm_strs sK aV (fun q => b ≤ q) U U.heap ∧ va_X (sK 9) xs.length (fun j => xs.getD j 0) U U.heap ∧ (va_Z "java/lang/String" "COMPACT_STRINGS" "Z" (.int 1) (fun q => b ≤ q) U U.heap ∧ va_Zq "jdk/internal/util/Preconditions" "SIOOBE_FORMATTER" "Ljava/util/function/BiFunction;" (fun q => b ≤ q) U U.heap) ∧ sK 9 < b ∧ b ≤ U.heap.size
theorem sm_pok_ok {b : Nat} {sK : Nat → Nat} {t : FieldType} {v : Value} (h : sm_pok t v = true) : narrow t (sm_cv b sK v) = sm_cv b sK v ∧ fits t (sm_cv b sK v) = true := by
  unfold sm_pok at h
  split at h
  · exact ⟨rfl, rfl⟩
  · simp only [Bool.or_eq_true, decide_eq_true_eq] at h
    rcases h with rfl | rfl <;> exact ⟨rfl, rfl⟩
  · exact ⟨rfl, rfl⟩
  · exact ⟨rfl, rfl⟩
  · exact ⟨rfl, rfl⟩
  · exact ⟨rfl, rfl⟩
  · cases h
theorem sm_upd {l : List Int32} {j : Nat} (hj : j < l.length) (x : Int32) : upd (fun q => l.getD q 0) j x = fun q => (l.set j x).getD q 0 := by
  funext q
  unfold upd
  simp only [List.getD_eq_getElem?_getD, List.getElem?_set]
  by_cases hq : q = j
  · subst hq; simp [hj]
  · rw [if_neg hq, if_neg (fun h => hq h.symm)]
theorem sm_vup {l : List (Option Nat)} {j : Nat} (hj : j < l.length) (b : Nat) (sK : Nat → Nat) (k : Nat) : va_up (fun q => (l.getD q none).map (sm_cr b sK)) j (some (sm_cr b sK k)) = fun q => ((l.set j (some k)).getD q none).map (sm_cr b sK) := by
  funext q
  unfold va_up
  simp only [List.getD_eq_getElem?_getD, List.getElem?_set]
  by_cases hq : q = j
  · subst hq; simp [hj]
  · rw [if_neg hq, if_neg (fun h => hq h.symm)]
theorem sm_cr_lt {b : Nat} {sK : Nat → Nat} {k : Nat} (h : k < sm_B) : sm_cr b sK k = b + k := if_pos h
theorem sm_cr_hi (b : Nat) (sK : Nat → Nat) (k : Nat) : sm_cr b sK (sm_B + k) = sK k := by
  unfold sm_cr
  rw [if_neg (Nat.not_lt.mpr (Nat.le_add_right sm_B k)), Nat.add_sub_cancel_left]
theorem sm_get_lt {h : HH} {i : Nat} {e : AE} (he : h[i]? = some e) (hl : h.length ≤ sm_B) : i < sm_B := Nat.lt_of_lt_of_le (List.getElem?_eq_some_iff.mp he).1 hl

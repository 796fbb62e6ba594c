-- what the start gives: the surroundings of the law's run
def e_tm (i : Nat) : Term := .string "ForKeeps$Text" (89 + 2 * i)
def e_F : List Cond := flatC (Jvm.Cond.and given_1 narrow_1)
theorem e_ex : ∀ i, i < 9 → Cond.exactly (e_tm i) "java/lang/String" ∈ e_F := by decide +kernel
theorem e_co : ∀ i, i < 9 → Cond.eq (.field (e_tm i) "java/lang/String" "coder" "B") (.int 0) ∈ e_F := by decide +kernel
theorem e_ar : ∀ i, i < 9 → Cond.arrayOf (.field (e_tm i) "java/lang/String" "value" "[B") .byte ∈ e_F := by decide +kernel
theorem e_le : ∀ i, i < 9 → Cond.eq (.length (.field (e_tm i) "java/lang/String" "value" "[B")) (.int (Int32.ofNat (sm_slens.getD i 0))) ∈ e_F := by decide +kernel
theorem e_el : ∀ i, i < 9 → ∀ j, j < sm_slens.getD i 0 → Cond.eq (.elem (.field (e_tm i) "java/lang/String" "value" "[B") (.int (Int32.ofNat j))) (.int ((sm_strs.getD i []).getD j 0)) ∈ e_F := by decide +kernel
theorem e_ne : ∀ i, i < 9 → ∀ j, j < 9 → i ≠ j → Cond.not (Cond.eq (e_tm i) (e_tm j)) ∈ e_F ∨ Cond.not (Cond.eq (e_tm j) (e_tm i)) ∈ e_F := by decide +kernel
theorem e_31 : ∀ i, i < 9 → sm_slens.getD i 0 < 2 ^ 31 := by decide +kernel
theorem e_no : ∀ q ∈ sm_no, Cond.not (.castable q.1 q.2) ∈ e_F := by decide +kernel
theorem e_zc : Cond.eq (.static "java/lang/String" "COMPACT_STRINGS" "Z") (.int 1) ∈ e_F := by decide +kernel
theorem e_zq : Cond.isRef (.static "jdk/internal/util/Preconditions" "SIOOBE_FORMATTER" "Ljava/util/function/BiFunction;") ∈ e_F := by decide +kernel
theorem e_nt : ∀ w ∈ sm_nest, w.onTables = true := by decide +kernel
theorem e_ST : ∀ q ∈ sm_ST, q.2.2.1 < 9 ∧ q.2.1 = 89 + 2 * q.2.2.1 ∧ sm_cpn q.1 = "ForKeeps$Text" ∧ Cond.stringRef (sm_cpn q.1) q.2.1 (sm_txt q.2.2.1) ∈ lw_tbl := by decide +kernel
theorem e_i0 : Cond.instantiable RX0 0 ∈ lw_tbl := List.mem_of_getElem? (i := 211) (by decide +kernel)
theorem e_i1 : Cond.instantiable RX1 0 ∈ lw_tbl := List.mem_of_getElem? (i := 204) (by decide +kernel)
theorem e_i2 : Cond.instantiable RX2 3 ∈ lw_tbl := List.mem_of_getElem? (i := 114) (by decide +kernel)
theorem e_i3 : Cond.instantiable RX3 8 ∈ lw_tbl := List.mem_of_getElem? (i := 71) (by decide +kernel)
theorem e_i4 : Cond.instantiable RX4 0 ∈ lw_tbl := List.mem_of_getElem? (i := 197) (by decide +kernel)
theorem e_i5 : Cond.instantiable RX5 3 ∈ lw_tbl := List.mem_of_getElem? (i := 133) (by decide +kernel)
theorem e_i6 : Cond.instantiable RX6 0 ∈ lw_tbl := List.mem_of_getElem? (i := 187) (by decide +kernel)
theorem e_i7 : Cond.instantiable RX7 9 ∈ lw_tbl := List.mem_of_getElem? (i := 150) (by decide +kernel)
theorem e_i9 : Cond.instantiable RX9 15 ∈ lw_tbl := List.mem_of_getElem? (i := 63) (by decide +kernel)
theorem e_i10 : Cond.instantiable RX10 22 ∈ lw_tbl := List.mem_of_getElem? (i := 702) (by decide +kernel)
theorem e_ao : Cond.arrayOver (.object "ForKeeps$Patch") ∈ lw_tbl := List.mem_of_getElem? (i := 120) (by decide +kernel)
theorem e_de : Cond.declares ⟨"ForKeeps$Thumb", "share", "(I)I"⟩ ∈ lw_tbl := List.mem_of_getElem? (i := 479) (by decide +kernel)
theorem e_l0 : Cond.laysStatic "java/lang/String" "COMPACT_STRINGS" "Z" ∈ lw_tbl := List.mem_of_getElem? (i := 323) (by decide +kernel)
theorem e_l1 : Cond.laysStatic "jdk/internal/util/Preconditions" "SIOOBE_FORMATTER" "Ljava/util/function/BiFunction;" ∈ lw_tbl := List.mem_of_getElem? (i := 339) (by decide +kernel)
theorem e_n0 : Cond.initialized "java/lang/String" ∈ lw_tbl := List.mem_of_getElem? (i := 56) (by decide +kernel)
theorem e_n1 : Cond.initialized "jdk/internal/util/Preconditions" ∈ lw_tbl := List.mem_of_getElem? (i := 58) (by decide +kernel)
theorem e_arr {args : Array Value} {s : State} {ty : FieldType} (h : (Cond.arrayClass ty).before args s = true) : ∃ cA : ClassId, s.vm.findClass ("[" ++ ty.toString) = some cA ∧ ArrOfT s cA ty := by
  obtain ⟨cA, kA, comp, h1, h2, h3⟩ := Cond.arrayClass_spec (args := args) (first := s) (o := none) (s := s) (idx := []) h
  exact ⟨cA, h1, fun n z => ⟨fun k h => (by cases h), kA, h2, comp, h3⟩⟩
def e_cid (cI cC cZ cP : ClassId) (t : FieldType) : ClassId := match t with
  | .int => cI
  | .char => cC
  | .boolean => cZ
  | _ => cP
theorem e_D {s : State} {b : Nat} (hts : ∀ w ∈ lw_tbl, w.before #[Value.ref b] s = true) : ∃ D : va_G, ∀ (c : Nat) (q : vw_C), sm_CL[c]? = some q → u_Kn s q.1 q.2.1 q.2.2 (D.1 c) (D.2 c) := by
  have hg : ∀ w ∈ sm_GG, w.before #[Value.ref b] s = true := fun w hw => hts w (List.mem_filter.mp hw).1
  obtain ⟨k0, i0, K0⟩ := u_known (C := RX0) (T := TX0) (N := 0) (n := 0) hg sm_in0 (hts _ e_i0)
  obtain ⟨k1, i1, K1⟩ := u_known (C := RX1) (T := TX1) (N := 0) (n := 0) hg sm_in1 (hts _ e_i1)
  obtain ⟨k2, i2, K2⟩ := u_known (C := RX2) (T := TX2) (N := 3) (n := 3) hg sm_in2 (hts _ e_i2)
  obtain ⟨k3, i3, K3⟩ := u_known (C := RX3) (T := TX3) (N := 8) (n := 8) hg sm_in3 (hts _ e_i3)
  obtain ⟨k4, i4, K4⟩ := u_known (C := RX4) (T := TX4) (N := 0) (n := 0) hg sm_in4 (hts _ e_i4)
  obtain ⟨k5, i5, K5⟩ := u_known (C := RX5) (T := TX5) (N := 3) (n := 3) hg sm_in5 (hts _ e_i5)
  obtain ⟨k6, i6, K6⟩ := u_known (C := RX6) (T := TX6) (N := 0) (n := 0) hg sm_in6 (hts _ e_i6)
  obtain ⟨k7, i7, K7⟩ := u_known (C := RX7) (T := TX7) (N := 9) (n := 9) hg sm_in7 (hts _ e_i7)
  obtain ⟨k9, i9, K9⟩ := u_known (C := RX9) (T := TX9) (N := 15) (n := 15) hg sm_in9 (hts _ e_i9)
  obtain ⟨k10, i10, K10⟩ := u_known (C := RX10) (T := TX10) (N := 22) (n := 22) hg sm_in10 (hts _ e_i10)
  refine ⟨(fun c => ([k0, k1, k2, k3, k4, k5, k6, k7, k6, k9, k10] : List ClassId).getD c k0, fun c => ([i0, i1, i2, i3, i4, i5, i6, i7, i6, i9, i10] : List (Nat → Nat)).getD c i0), ?_⟩
  intro c q hq
  match c, hq with
  | 0, hq => cases hq; exact K0
  | 1, hq => cases hq; exact K1
  | 2, hq => cases hq; exact K2
  | 3, hq => cases hq; exact K3
  | 4, hq => cases hq; exact K4
  | 5, hq => cases hq; exact K5
  | 6, hq => cases hq; exact K6
  | 7, hq => cases hq; exact K7
  | 8, hq => cases hq; exact K6
  | 9, hq => cases hq; exact K9
  | 10, hq => cases hq; exact K10
  | k + 11, hq => simp [sm_CL] at hq
theorem e_ty {s : State} {b : Nat} (hts : ∀ w ∈ lw_tbl, w.before #[Value.ref b] s = true) : ∃ cid : FieldType → ClassId, ∀ (k : Nat) (q : ClassId × FieldType), (sm_tys cid)[k]? = some q → ArrOfT s q.1 q.2 ∧ va_RA s q.1 q.2 := by
  have hg : ∀ w ∈ sm_GG, w.before #[Value.ref b] s = true := fun w hw => hts w (List.mem_filter.mp hw).1
  obtain ⟨cI, nI', aI⟩ := e_arr (hg _ sm_ac_int)
  obtain ⟨cC, nC, aC⟩ := e_arr (hg _ sm_ac_char)
  obtain ⟨cZ, nZ, aZ⟩ := e_arr (hg _ sm_ac_boolean)
  have hAO : va_AO "ForKeeps$Patch" s := va_AO.of (hts _ e_ao)
  obtain ⟨comp, cP, kP, p1, p2, p3, p4, p5⟩ := Cond.arrayOver_spec hAO
  refine ⟨e_cid cI cC cZ cP, ?_⟩
  intro k q hq
  match k, hq with
  | 0, hq => cases hq; exact ⟨aI, nI'⟩
  | 1, hq => cases hq; exact ⟨aC, nC⟩
  | 2, hq => cases hq; exact ⟨aZ, nZ⟩
  | 3, hq => cases hq; exact ⟨fun n z => ⟨fun k h => (by cases h), kP, p3, comp, p4⟩, kP, comp, p3, p4, p1, p5⟩
  | k + 4, hq => simp [sm_tys] at hq
theorem e_Ev {s : State} {b L : Nat} {xs : Nat → Int32} (hts : ∀ w ∈ lw_tbl, w.before #[Value.ref b] s = true) (hX : va_X b L xs s s.heap) (hbl : b < s.heap.size) (hgv : (Jvm.Cond.and given_1 narrow_1).before #[Value.ref b] s = true) : ∃ (D : va_G) (cid : FieldType → ClassId) (sK aV : Nat → Nat), sK 9 = b ∧ sm_Ev ((List.range L).map xs) s.heap.size sK aV cid D s := by
  have hs : ∀ c ∈ e_F, c.before #[Value.ref b] s = true := flat_of_before _ hgv
  have hA : ∀ a : Nat, a < s.heap.size → ¬ (fun q : Nat => s.heap.size ≤ q) a := fun a h => Nat.not_le.mpr h
  obtain ⟨D, hD⟩ := e_D hts
  obtain ⟨cid, hT⟩ := e_ty hts
  obtain ⟨adK, aV, hV, hev⟩ := vk_Sof (args := #[Value.ref b]) (s := s) (N := 9) (tm := e_tm) (len := sm_slens) (byt := sm_strs) (A := fun q => s.heap.size ≤ q) e_31 (fun i hi => hs _ (e_ex i hi)) (fun i hi => hs _ (e_co i hi)) (fun i hi => hs _ (e_ar i hi)) (fun i hi => hs _ (e_le i hi)) (fun i hi j hj => hs _ (e_el i hi j hj)) (fun i j hi hj hij => (e_ne i hi j hj hij).imp (hs _) (hs _)) hA
  obtain ⟨sK, sE, s9⟩ : ∃ sK : Nat → Nat, (∀ i, i < 9 → sK i = adK i) ∧ sK 9 = b := ⟨fun i => if i < 9 then adK i else b, fun i hi => if_pos hi, if_neg (Nat.lt_irrefl 9)⟩
  refine ⟨D, cid, sK, aV, s9, ⟨hD, hT⟩, fun w hw => va_Nw.of (e_nt w hw) (hts _ (sm_nest_in w hw)), va_AO.of (hts _ e_ao), va_Nw.of rfl (hts _ e_de), fun q hq => va_Nc.of (hs _ (e_no q hq)), ⟨va_Nw.of rfl (hts _ sm_ca16), va_Nw.of rfl (hts _ sm_ca46)⟩, fun q hq => ?_, ⟨fun i hi => ?_, fun i j hi hj e => ?_⟩, ?_, ⟨va_Zof (hts _ e_l0) (hts _ e_n0) (va_eqt (hs _ e_zc)) hA, va_Zqof (hts _ e_l1) (hts _ e_n1) (hs _ e_zq) hA⟩, by rw [s9]; exact hbl, Nat.le_refl _⟩
  · obtain ⟨h1, h2, h3, h4⟩ := e_ST q hq
    refine vk_R.of (hts _ h4) ?_
    rw [sE _ h1, h3, h2]
    exact hev _ h1
  · rw [sE i hi]
    exact hV.1 i hi
  · exact hV.2 i j hi hj (by rw [← sE i hi, ← sE j hj]; exact e)
  · rw [s9]
    obtain ⟨scr, x1, x2, x3, x4, x5⟩ := hX
    refine ⟨scr, x1, x2, x3, by rw [x4, List.length_map, List.length_range], fun j hj => ?_⟩
    rw [List.length_map, List.length_range] at hj
    rw [x5 j hj]
    show some (Value.int (xs j)) = some (Value.int (((List.range L).map xs).getD j 0))
    rw [List.getD_eq_getElem?_getD, List.getElem?_map, List.getElem?_range hj]
    rfl

-- String's own methods at the nine constants
def st_P (xs : List Int32) (b : Nat) (sK aV : Nat → Nat) (cid : FieldType → ClassId) (D : va_G) (A : List Value) (h : HH) : Array Value → State → Prop := va_Pc A (fun U => va_P D sm_CL (sm_ws b sK cid h) U.heap ∧ U.heap.size = b + h.length ∧ h.length ≤ sm_B ∧ sm_Ev xs b sK aV cid D U)
def st_Q (b : Nat) (sK : Nat → Nat) (cid : FieldType → ClassId) (D : va_G) (r : Option Value) (h : HH) : Array Value → State → Outcome → State → Prop := fun _ st oc t => oc = .returned r ∧ va_P D sm_CL (sm_ws b sK cid h) t.heap ∧ va_F (fun q => b ≤ q) st t
theorem st_blind (xs : List Int32) (b : Nat) (sK aV : Nat → Nat) (cid : FieldType → ClassId) (D : va_G) (A : List Value) (h : HH) : FrameBlind (st_P xs b sK aV cid D A h) := by
  intro a U g mk q
  obtain ⟨h1, h2, h3, h4, h5⟩ := q
  exact ⟨h1, h2, h3, h4, sm_Ev_same (u := U) (U := U.calling g mk a) rfl rfl h5⟩
theorem st_met {l : Launch} {y : MethodName} {cc : ByteArray} {nL : Nat} {rt : Option FieldType} {rm : Room} {A : List Value} {r : Option Value} {xs : List Int32} {b : Nat} {sK aV : Nat → Nat} {cid : FieldType → ClassId} {D : va_G} {h : HH} (hpl : plainName y.cls = true) (hlen : (lg_sl A).length ≤ nL)
    (body : ∀ (p : Program) (e : Env) (s : State) (m : MethodId) (below : List Frame) (meth : Method) (c : Code) (ls : Array Slot), p.tables.exec = Jvm.exec → c.code = cc → s.vm.findClass y.cls = some m.cls → (∀ w ∈ sm_GG, w.before A.toArray s = true) → c.maxLocals = nL → meth.sig.returnType = rt → meth.locks = false → sm_Ev xs b sK aV cid D s → va_P D sm_CL (sm_ws b sK cid h) s.heap → s.heap.size = b + h.length → h.length ≤ sm_B → lv_has ls nL (lv_args 0 A) →
      W p l e rm s m A.toArray below meth c s.heap [] 0 0 (MQ below (st_Q b sK cid D r h) A.toArray s 0 0 (fun q => b ≤ q)) (F0 m 0 ls [])) : Met l y (Cond.code y cc nL rt :: sm_GG) rm (st_P xs b sK aV cid D A h) (st_Q b sK cid D r h) 0 0 (fun q => b ≤ q) := by
  refine Met.ofW (cc := cc) (maxL := nL) (ret := rt) hpl rfl ?_
  intro p e s m args below meth c s₁ B hml hv
  obtain ⟨rfl, hP, hsz, hlB, hE⟩ := hv
  have hts := atoms_spec (ws := Cond.code y cc nL rt :: sm_GG) B.pre
  have hl := lv_entry A (n := nL) hlen
  rw [lg_entry_eq]
  exact body p e s m below meth c _ B.exec B.bytes (findClass_of_methodNamed B.named) (fun w hw => hts w (List.mem_cons_of_mem _ hw)) hml B.returns B.notSynchronized hE hP hsz hlB hl
section STR
variable {p : Program} {l : Launch} {e : Env} {R : Room} {s : State} {m : MethodId} {args : Array Value} {below : List Frame} {meth : Method} {c : Code} {H : Heap} {locs : List Loc} {cells slots : Nat} {Q : State → Prop} {pc : Nat} {ls : Array Slot}
variable {xs : List Int32} {b : Nat} {sK aV : Nat → Nat} {cid : FieldType → ClassId} {D : va_G} {h : HH}
theorem st_call_W {st0 rest : List Value} {r : Option Value} {a : Array Value} (hr : va_Run p l e R s m args below meth c H locs cells slots 0 0 (F0 m pc ls st0) rest (st_Q b sK cid D r h a) (fun q => b ≤ q)) (hS : va_S (fun q => b ≤ q) s.heap H locs)
    (kk : ∀ (H1 : Heap) (locs1 : List Loc), va_P D sm_CL (sm_ws b sK cid h) H1 → va_S (fun q => b ≤ q) s.heap H1 locs1 → W p l e R s m args below meth c H1 locs1 cells slots Q (F0 m (pc + 3) ls (r.toList ++ rest))) : W p l e R s m args below meth c H locs cells slots Q (F0 m pc ls st0) := by
  intro T hT X
  obtain ⟨v, st₀, t, T', L, h0, X', hL, e1, e2, ⟨hv, hp, hz, hk⟩, st⟩ := hr T hT X
  cases hv
  rw [h0] at hz hk
  obtain ⟨t2, a1, b1⟩ := kk T'.heap (locs ++ L) (by rw [e1]; exact hp)
    ⟨Nat.le_trans hS.1 (by rw [e1]; exact hz), fun q h1 h2 => by rw [e1, hk q (Nat.lt_of_lt_of_le h1 hS.1) h2]; exact hS.2.1 q h1 h2, fun q hq => by
      rcases List.mem_append.mp hq with h | h
      · exact hS.2.2 q h
      · exact hL q h⟩ T' rfl X'
  exact ⟨t2, st t2 a1, b1⟩
theorem st_pre {A : List Value} (hE : sm_Ev xs b sK aV cid D s) (hP : va_P D sm_CL (sm_ws b sK cid h) H) (hS : va_S (fun q => b ≤ q) s.heap H locs) (hl : h.length ≤ sm_B) (hH : H.size = b + h.length) : ∀ U : State, U.heap = H → s.WarmedH U.vm → st_P xs b sK aV cid D A h A.toArray U := fun U hU hW => ⟨rfl, by rw [hU]; exact hP, by rw [hU]; exact hH, hl, sm_Ev_warm hW hU hS hE⟩
end STR
def st_yp : MethodName := ⟨"jdk/internal/util/Preconditions", "checkIndex", "(IILjava/util/function/BiFunction;)I"⟩
abbrev st_cp : ByteArray := prog_19_method_11_code
theorem st_w0 : Cond.fieldLink RJ0 38 "java/lang/String" "COMPACT_STRINGS" "Z" ∈ sm_GG := sm_at_mem (k := 322) (by decide +kernel)
theorem st_w1 : Cond.fieldLink RJ0 15 "java/lang/String" "coder" "B" ∈ sm_GG := sm_at_mem (k := 1051) (by decide +kernel)
theorem st_w2 : Cond.fieldLink RJ0 9 "java/lang/String" "value" "[B" ∈ sm_GG := sm_at_mem (k := 1050) (by decide +kernel)
theorem st_w3 : Cond.fieldLink RJ0 1053 "jdk/internal/util/Preconditions" "SIOOBE_FORMATTER" "Ljava/util/function/BiFunction;" ∈ sm_GG := sm_at_mem (k := 338) (by decide +kernel)
theorem st_m0 : Cond.methodLink RJ0 335 yJ0_coder_7d493 ∈ sm_GG := sm_at_mem (k := 318) (by decide +kernel)
theorem st_m1 : Cond.methodLink RJ0 492 yJ0_isLatin1_aae02 ∈ sm_GG := sm_at_mem (k := 328) (by decide +kernel)
theorem st_m2 : Cond.methodLink RJ0 495 yJ1_charAt_3b067 ∈ sm_GG := sm_at_mem (k := 332) (by decide +kernel)
theorem st_m3 : Cond.methodLink RJ1 9 yJ0_checkIndex_df160 ∈ sm_GG := sm_at_mem (k := 335) (by decide +kernel)
theorem st_m4 : Cond.methodLink RJ0 1059 st_yp ∈ sm_GG := sm_at_mem (k := 340) (by decide +kernel)
theorem st_i0 : Cond.instanceMethod yJ0_coder_7d493 ∈ sm_GG := sm_at_mem (k := 319) (by decide +kernel)
theorem st_i1 : Cond.instanceMethod yJ0_isLatin1_aae02 ∈ sm_GG := sm_at_mem (k := 329) (by decide +kernel)
theorem st_s0 : Cond.selects "java/lang/String" yJ0_coder_7d493 yJ0_coder_7d493 ∈ sm_GG := sm_at_mem (k := 320) (by decide +kernel)
theorem st_s1 : Cond.selects "java/lang/String" yJ0_isLatin1_aae02 yJ0_isLatin1_aae02 ∈ sm_GG := sm_at_mem (k := 330) (by decide +kernel)
theorem st_t2 : Cond.static yJ1_charAt_3b067 ∈ sm_GG := sm_at_mem (k := 333) (by decide +kernel)
theorem st_t3 : Cond.static yJ0_checkIndex_df160 ∈ sm_GG := sm_at_mem (k := 336) (by decide +kernel)
theorem st_t4 : Cond.static st_yp ∈ sm_GG := sm_at_mem (k := 341) (by decide +kernel)
theorem st_n1 : Cond.initialized "java/lang/StringLatin1" ∈ sm_GG := sm_at_mem (k := 57) (by decide +kernel)
theorem st_n3 : Cond.initialized "jdk/internal/util/Preconditions" ∈ sm_GG := sm_at_mem (k := 58) (by decide +kernel)
theorem st_c0 : Cond.code yJ0_coder_7d493 cJ0_coder_7d493 1 (some .byte) ∈ sm_GG := List.mem_filter.mpr ⟨List.mem_of_getElem? (i := 321) rfl, rfl⟩
theorem st_c1 : Cond.code yJ0_isLatin1_aae02 cJ0_isLatin1_aae02 1 (some .boolean) ∈ sm_GG := List.mem_filter.mpr ⟨List.mem_of_getElem? (i := 331) rfl, rfl⟩
theorem st_c2 : Cond.code yJ1_charAt_3b067 cJ1_charAt_3b067 2 (some .char) ∈ sm_GG := List.mem_filter.mpr ⟨List.mem_of_getElem? (i := 334) rfl, rfl⟩
theorem st_c3 : Cond.code yJ0_checkIndex_df160 cJ0_checkIndex_df160 2 none ∈ sm_GG := List.mem_filter.mpr ⟨List.mem_of_getElem? (i := 337) rfl, rfl⟩
theorem st_c4 : Cond.code st_yp st_cp 3 (some .int) ∈ sm_GG := List.mem_filter.mpr ⟨List.mem_of_getElem? (i := 342) rfl, rfl⟩
-- coder
theorem st_dc0 : decode cJ0_coder_7d493 0 = .ok (.getstatic 38, 3) := by decide +kernel
theorem st_dc3 : decode cJ0_coder_7d493 3 = .ok (.ifCond .eq 10, 3) := by decide +kernel
theorem st_dc6 : decode cJ0_coder_7d493 6 = .ok (.aload_n 0, 1) := by decide +kernel
theorem st_dc7 : decode cJ0_coder_7d493 7 = .ok (.getfield 15, 3) := by decide +kernel
theorem st_dc10 : decode cJ0_coder_7d493 10 = .ok (.goto 4, 3) := by decide +kernel
theorem st_dc14 : decode cJ0_coder_7d493 14 = .ok (.ireturn, 1) := by decide +kernel
theorem st_coder (l : Launch) (xs : List Int32) (b : Nat) (sK aV : Nat → Nat) (cid : FieldType → ClassId) (D : va_G) (h : HH) (k : Nat) (hk : k < 9) : Met l yJ0_coder_7d493 (Cond.code yJ0_coder_7d493 cJ0_coder_7d493 1 (some .byte) :: sm_GG) { frames := 0, cells := 0, slots := 0, locals := 0 } (st_P xs b sK aV cid D [.ref (sK k)] h) (st_Q b sK cid D (some (.int 0)) h) 0 0 (fun q => b ≤ q) := by
  refine st_met (by decide) (Nat.le_refl 1) ?_
  intro p e s m below meth c ls hx hb hown hts hml hr hlocks hE hP hsz hlB hl
  obtain ⟨-, -, -, -, -, -, -, hSS, -, hZZ, -, -⟩ := id hE
  have l0 : ls[0]? = some (.val (.ref (sK k))) := lv_at hl 0 rfl
  have hk0 := hSS.1 k hk
  refine va_gets hx hb hZZ.1 va_S.rf hown (hts _ st_w0) (fun x h => h) st_dc0 ?_
  refine lv_if_eq (tgt := 13) hx hb st_dc3 (by decide) (fun q => absurd q (by decide)) (fun _ => ?_)
  refine lv_aload_n hx hb st_dc6 rfl l0 ?_
  refine vk_getf hx hb hk0.2.1 va_S.rf hown (hts _ st_w1) (fun x h => h) st_dc7 ?_
  refine lv_goto (tgt := 14) hx hb st_dc10 (by decide) ?_
  exact W.zret (ty := .byte) hx hb hr rfl (fun t ht hW => ⟨rfl, by rw [ht]; exact hP, va_S.rf.F ht⟩) (fun q hq => by cases hq) st_dc14 hlocks
-- length
theorem st_dl0 : decode cJ0_length_8abf5 0 = .ok (.aload_n 0, 1) := by decide +kernel
theorem st_dl1 : decode cJ0_length_8abf5 1 = .ok (.getfield 9, 3) := by decide +kernel
theorem st_dl4 : decode cJ0_length_8abf5 4 = .ok (.arraylength, 1) := by decide +kernel
theorem st_dl5 : decode cJ0_length_8abf5 5 = .ok (.aload_n 0, 1) := by decide +kernel
theorem st_dl6 : decode cJ0_length_8abf5 6 = .ok (.invokevirtual 335, 3) := by decide +kernel
theorem st_dl9 : decode cJ0_length_8abf5 9 = .ok (.ishr, 1) := by decide +kernel
theorem st_dl10 : decode cJ0_length_8abf5 10 = .ok (.ireturn, 1) := by decide +kernel
theorem st_ln : ∀ k, k < 9 → sm_slens.getD k 0 = (sm_strs.getD k []).length := by decide +kernel
theorem st_shr : ∀ k, k < 9 → Int32.ofNat (sm_strs.getD k []).length >>> ((0 : Int32) &&& 31) = Int32.ofNat (sm_strs.getD k []).length := by decide +kernel
theorem st_length (l : Launch) (xs : List Int32) (b : Nat) (sK aV : Nat → Nat) (cid : FieldType → ClassId) (D : va_G) (h : HH) (k : Nat) (hk : k < 9) : Met l yJ0_length_8abf5 (Cond.code yJ0_length_8abf5 cJ0_length_8abf5 1 (some .int) :: sm_GG) { frames := 1, cells := 0, slots := 0, locals := 40 } (st_P xs b sK aV cid D [.ref (sK k)] h) (st_Q b sK cid D (some (.int (Int32.ofNat (sm_strs.getD k []).length))) h) 0 0 (fun q => b ≤ q) := by
  refine st_met (by decide) (Nat.le_refl 1) ?_
  intro p e s m below meth c ls hx hb hown hts hml hr hlocks hE hP hsz hlB hl
  obtain ⟨-, -, -, -, -, -, -, hSS, -, hZZ, -, hbs⟩ := id hE
  have l0 : ls[0]? = some (.val (.ref (sK k))) := lv_at hl 0 rfl
  have hk0 := hSS.1 k hk
  refine lv_aload_n hx hb st_dl0 rfl l0 ?_
  refine vk_getf hx hb hk0.2.2.1 va_S.rf hown (hts _ st_w2) (fun x h => h) st_dl1 ?_
  refine va_tlen (v := Int32.ofNat (sm_strs.getD k []).length) hx hb hk0.2.2.2 va_S.rf (by rw [st_ln k hk]) st_dl4 ?_
  refine lv_aload_n hx hb st_dl5 rfl l0 ?_
  refine st_call_W (r := some (.int 0)) (rest := [.int (Int32.ofNat (sm_strs.getD k []).length)]) (va_runV (n := 0) (C := "java/lang/String") (b := sK k) (As := []) ⟨hx, hb, hml, hown, hts⟩ (st_coder l xs b sK aV cid D h k hk) ⟨⟨rfl, rfl, by decide, by decide, sm_paysw hts st_c0, List.mem_cons_self, hts _ st_c0, hts _ sm_wS0, ⟨by decide, by decide⟩, sm_npar_ok (by decide +kernel), hts _ st_m0⟩, hts _ st_i0, hts _ st_s0⟩ ⟨st_blind _ _ _ _ _ _ _ _, vk_recv hSS hk va_S.rf, st_pre (A := [.ref (sK k)]) hE hP va_S.rf hlB hsz⟩ rfl rfl hl.1 rfl (lv_room (Nat.le_of_ble_eq_true rfl)) st_dl6 ⟨Nat.le_refl _, Nat.le_refl _⟩) va_S.rf (fun H1 locs1 hP1 hS1 => ?_)
  refine lv_ishr hx hb st_dl9 ?_
  rw [st_shr k hk]
  exact W.iret hx hb hr (fun t ht hW => ⟨rfl, by rw [ht]; exact hP1, hS1.F ht⟩) hS1.2.2 st_dl10 hlocks
theorem st_L : sm_StrL := by
  intro xs l D b sK aV cid h k hk
  have e : sm_Pc xs b sK aV cid D [.ref (sm_B + k)] h = st_P xs b sK aV cid D [.ref (sK k)] h := by
    show va_Pc [.ref (sm_cr b sK (sm_B + k))] _ = _
    rw [sm_cr_hi]
    rfl
  rw [e]
  exact st_length l xs b sK aV cid D h k hk
-- isLatin1
theorem st_di0 : decode cJ0_isLatin1_aae02 0 = .ok (.getstatic 38, 3) := by decide +kernel
theorem st_di3 : decode cJ0_isLatin1_aae02 3 = .ok (.ifCond .eq 14, 3) := by decide +kernel
theorem st_di6 : decode cJ0_isLatin1_aae02 6 = .ok (.aload_n 0, 1) := by decide +kernel
theorem st_di7 : decode cJ0_isLatin1_aae02 7 = .ok (.getfield 15, 3) := by decide +kernel
theorem st_di10 : decode cJ0_isLatin1_aae02 10 = .ok (.ifCond .ne 7, 3) := by decide +kernel
theorem st_di13 : decode cJ0_isLatin1_aae02 13 = .ok (.iconst 1, 1) := by decide +kernel
theorem st_di14 : decode cJ0_isLatin1_aae02 14 = .ok (.goto 4, 3) := by decide +kernel
theorem st_di18 : decode cJ0_isLatin1_aae02 18 = .ok (.ireturn, 1) := by decide +kernel
theorem st_isLatin1 (l : Launch) (xs : List Int32) (b : Nat) (sK aV : Nat → Nat) (cid : FieldType → ClassId) (D : va_G) (h : HH) (k : Nat) (hk : k < 9) : Met l yJ0_isLatin1_aae02 (Cond.code yJ0_isLatin1_aae02 cJ0_isLatin1_aae02 1 (some .boolean) :: sm_GG) { frames := 0, cells := 0, slots := 0, locals := 0 } (st_P xs b sK aV cid D [.ref (sK k)] h) (st_Q b sK cid D (some (.int 1)) h) 0 0 (fun q => b ≤ q) := by
  refine st_met (by decide) (Nat.le_refl 1) ?_
  intro p e s m below meth c ls hx hb hown hts hml hr hlocks hE hP hsz hlB hl
  obtain ⟨-, -, -, -, -, -, -, hSS, -, hZZ, -, -⟩ := id hE
  have l0 : ls[0]? = some (.val (.ref (sK k))) := lv_at hl 0 rfl
  have hk0 := hSS.1 k hk
  refine va_gets hx hb hZZ.1 va_S.rf hown (hts _ st_w0) (fun x h => h) st_di0 ?_
  refine lv_if_eq (tgt := 17) hx hb st_di3 (by decide) (fun q => absurd q (by decide)) (fun _ => ?_)
  refine lv_aload_n hx hb st_di6 rfl l0 ?_
  refine vk_getf hx hb hk0.2.1 va_S.rf hown (hts _ st_w1) (fun x h => h) st_di7 ?_
  refine lv_if_ne (tgt := 17) hx hb st_di10 (by decide) (fun q => absurd rfl q) (fun _ => ?_)
  refine lv_iconst (v := 1) hx hb st_di13 (by decide) ?_
  refine lv_goto (tgt := 18) hx hb st_di14 (by decide) ?_
  exact W.zret (ty := .boolean) hx hb hr rfl (fun t ht hW => ⟨rfl, by rw [ht]; exact hP, va_S.rf.F ht⟩) (fun q hq => by cases hq) st_di18 hlocks
-- Preconditions.checkIndex
theorem st_dp0 : decode st_cp 0 = .ok (.iload_n 0, 1) := by decide +kernel
theorem st_dp1 : decode st_cp 1 = .ok (.ifCond .lt 8, 3) := by decide +kernel
theorem st_dp4 : decode st_cp 4 = .ok (.iload_n 0, 1) := by decide +kernel
theorem st_dp5 : decode st_cp 5 = .ok (.iload_n 1, 1) := by decide +kernel
theorem st_dp6 : decode st_cp 6 = .ok (.if_icmp .lt 10, 3) := by decide +kernel
theorem st_dp16 : decode st_cp 16 = .ok (.iload_n 0, 1) := by decide +kernel
theorem st_dp17 : decode st_cp 17 = .ok (.ireturn, 1) := by decide +kernel
theorem st_prec (l : Launch) (xs : List Int32) (b : Nat) (sK aV : Nat → Nat) (cid : FieldType → ClassId) (D : va_G) (h : HH) (j n : Int32) (z : Value) (hz : z = .null ∨ ∃ t, z = .ref t) (h0 : ¬ j < 0) (h1 : j < n) : Met l st_yp (Cond.code st_yp st_cp 3 (some .int) :: sm_GG) { frames := 0, cells := 0, slots := 0, locals := 0 } (st_P xs b sK aV cid D [.int j, .int n, z] h) (st_Q b sK cid D (some (.int j)) h) 0 0 (fun q => b ≤ q) := by
  refine st_met (by decide) (by rcases hz with rfl | ⟨t, rfl⟩ <;> exact Nat.le_refl 3) ?_
  intro p e s m below meth c ls hx hb hown hts hml hr hlocks hE hP hsz hlB hl
  have l0 : ls[0]? = some (.val (.int j)) := lv_at hl 0 rfl
  have l1 : ls[1]? = some (.val (.int n)) := lv_at hl 1 rfl
  refine lv_iload_n hx hb st_dp0 rfl l0 ?_
  refine lv_if_lt (tgt := 9) hx hb st_dp1 (by decide) (fun q => absurd q h0) (fun _ => ?_)
  refine lv_iload_n hx hb st_dp4 rfl l0 ?_
  refine lv_iload_n hx hb st_dp5 rfl l1 ?_
  refine lv_icmp_lt (tgt := 16) hx hb st_dp6 (by decide) (fun _ => ?_) (fun q => absurd h1 q)
  refine lv_iload_n hx hb st_dp16 rfl l0 ?_
  exact W.iret hx hb hr (fun t ht hW => ⟨rfl, by rw [ht]; exact hP, va_S.rf.F ht⟩) (fun q hq => by cases hq) st_dp17 hlocks
-- String.checkIndex
theorem st_dk0 : decode cJ0_checkIndex_df160 0 = .ok (.iload_n 0, 1) := by decide +kernel
theorem st_dk1 : decode cJ0_checkIndex_df160 1 = .ok (.iload_n 1, 1) := by decide +kernel
theorem st_dk2 : decode cJ0_checkIndex_df160 2 = .ok (.getstatic 1053, 3) := by decide +kernel
theorem st_dk5 : decode cJ0_checkIndex_df160 5 = .ok (.invokestatic 1059, 3) := by decide +kernel
theorem st_dk8 : decode cJ0_checkIndex_df160 8 = .ok (.pop, 1) := by decide +kernel
theorem st_dk9 : decode cJ0_checkIndex_df160 9 = .ok (.return_, 1) := by decide +kernel
theorem st_check (l : Launch) (xs : List Int32) (b : Nat) (sK aV : Nat → Nat) (cid : FieldType → ClassId) (D : va_G) (h : HH) (j n : Int32) (h0 : ¬ j < 0) (h1 : j < n) : Met l yJ0_checkIndex_df160 (Cond.code yJ0_checkIndex_df160 cJ0_checkIndex_df160 2 none :: sm_GG) { frames := 1, cells := 0, slots := 0, locals := 22 } (st_P xs b sK aV cid D [.int j, .int n] h) (st_Q b sK cid D none h) 0 0 (fun q => b ≤ q) := by
  refine st_met (by decide) (Nat.le_refl 2) ?_
  intro p e s m below meth c ls hx hb hown hts hml hr hlocks hE hP hsz hlB hl
  obtain ⟨-, -, -, -, -, -, -, hSS, -, hZZ, -, hbs⟩ := id hE
  have l0 : ls[0]? = some (.val (.int j)) := lv_at hl 0 rfl
  have l1 : ls[1]? = some (.val (.int n)) := lv_at hl 1 rfl
  obtain ⟨z, hz, hZ⟩ : ∃ z : Value, (z = .null ∨ ∃ t, z = .ref t) ∧ va_Z "jdk/internal/util/Preconditions" "SIOOBE_FORMATTER" "Ljava/util/function/BiFunction;" z (fun q => b ≤ q) s s.heap := by
    rcases hZZ.2 with h | ⟨t, h⟩
    · exact ⟨_, Or.inl rfl, h⟩
    · exact ⟨_, Or.inr ⟨t, rfl⟩, h⟩
  refine lv_iload_n hx hb st_dk0 rfl l0 ?_
  refine lv_iload_n hx hb st_dk1 rfl l1 ?_
  refine va_gets hx hb hZ va_S.rf hown (hts _ st_w3) (fun x h => h) st_dk2 ?_
  refine st_call_W (r := some (.int j)) (rest := []) (va_runS (n := 3) (As := [.int j, .int n, z]) ⟨hx, hb, hml, hown, hts⟩ (st_prec l xs b sK aV cid D h j n z hz h0 h1) ⟨⟨rfl, rfl, by decide, by decide, sm_paysw hts st_c4, List.mem_cons_self, hts _ st_c4, hts _ st_n3, ⟨by decide, by decide⟩, sm_npar_ok (by decide +kernel), hts _ st_m4⟩, hts _ st_t4⟩ ⟨st_blind _ _ _ _ _ _ _ _, st_pre (A := [.int j, .int n, z]) hE hP va_S.rf hlB hsz⟩ rfl rfl hl.1 rfl (lv_room (Nat.le_of_ble_eq_true rfl)) st_dk5 ⟨Nat.le_refl _, Nat.le_refl _⟩) va_S.rf (fun H1 locs1 hP1 hS1 => ?_)
  refine lv_pop hx hb st_dk8 rfl ?_
  exact W.vret hx hb hr (fun t ht hW => ⟨rfl, by rw [ht]; exact hP1, hS1.F ht⟩) hS1.2.2 st_dk9 hlocks
-- StringLatin1.charAt
theorem st_da0 : decode cJ1_charAt_3b067 0 = .ok (.iload_n 1, 1) := by decide +kernel
theorem st_da1 : decode cJ1_charAt_3b067 1 = .ok (.aload_n 0, 1) := by decide +kernel
theorem st_da2 : decode cJ1_charAt_3b067 2 = .ok (.arraylength, 1) := by decide +kernel
theorem st_da3 : decode cJ1_charAt_3b067 3 = .ok (.invokestatic 9, 3) := by decide +kernel
theorem st_da6 : decode cJ1_charAt_3b067 6 = .ok (.aload_n 0, 1) := by decide +kernel
theorem st_da7 : decode cJ1_charAt_3b067 7 = .ok (.iload_n 1, 1) := by decide +kernel
theorem st_da8 : decode cJ1_charAt_3b067 8 = .ok (.baload, 1) := by decide +kernel
theorem st_da9 : decode cJ1_charAt_3b067 9 = .ok (.sipush 255, 3) := by decide +kernel
theorem st_da12 : decode cJ1_charAt_3b067 12 = .ok (.iand, 1) := by decide +kernel
theorem st_da13 : decode cJ1_charAt_3b067 13 = .ok (.i2c, 1) := by decide +kernel
theorem st_da14 : decode cJ1_charAt_3b067 14 = .ok (.ireturn, 1) := by decide +kernel
theorem st_ch : ∀ k, k < 9 → ∀ i, i < (sm_strs.getD k []).length → ((((sm_strs.getD k []).getD i 0) &&& 255).toUInt32 % 65536).toInt32 = (sm_strs.getD k []).getD i 0 := by decide +kernel
theorem st_nar : ∀ k, k < 9 → ∀ i, i < (sm_strs.getD k []).length → (((sm_strs.getD k []).getD i 0).toUInt32 % 65536).toInt32 = (sm_strs.getD k []).getD i 0 := by decide +kernel
theorem st_sm : ∀ k, k < 9 → (sm_strs.getD k []).length < 100 := by decide +kernel
theorem st_lt {j : Int32} {n : Nat} (hn : n < 100) (hj : ¬ (j < 0 ∨ n ≤ j.toNatClampNeg)) : j < Int32.ofNat n := by
  have h0 : ¬ j < 0 := fun q => hj (Or.inl q)
  have h1 : j.toNatClampNeg < n := Nat.not_le.mp fun q => hj (Or.inr q)
  have hz0 : (0 : Int) ≤ j.toInt := by
    have := Int32.not_lt.mp h0
    simpa using Int32.le_iff_toInt_le.mp this
  rw [Int32.lt_iff_toInt_lt, Int32.toInt_ofNat_of_lt (by omega)]
  have e : j.toNatClampNeg = j.toInt.toNat := rfl
  omega
theorem st_latin (l : Launch) (xs : List Int32) (b : Nat) (sK aV : Nat → Nat) (cid : FieldType → ClassId) (D : va_G) (h : HH) (k : Nat) (hk : k < 9) (j : Int32) (hj : ¬ (j < 0 ∨ (sm_strs.getD k []).length ≤ j.toNatClampNeg)) : Met l yJ1_charAt_3b067 (Cond.code yJ1_charAt_3b067 cJ1_charAt_3b067 2 (some .char) :: sm_GG) { frames := 2, cells := 0, slots := 0, locals := 43 } (st_P xs b sK aV cid D [.ref (aV k), .int j] h) (st_Q b sK cid D (some (.int ((sm_strs.getD k []).getD j.toNatClampNeg 0))) h) 0 0 (fun q => b ≤ q) := by
  refine st_met (by decide) (Nat.le_refl 2) ?_
  intro p e s m below meth c ls hx hb hown hts hml hr hlocks hE hP hsz hlB hl
  obtain ⟨-, -, -, -, -, -, -, hSS, -, hZZ, -, hbs⟩ := id hE
  have l0 : ls[0]? = some (.val (.ref (aV k))) := lv_at hl 0 rfl
  have l1 : ls[1]? = some (.val (.int j)) := lv_at hl 1 rfl
  have hk0 := hSS.1 k hk
  have hlt : j.toNatClampNeg < (sm_strs.getD k []).length := Nat.not_le.mp fun q => hj (Or.inr q)
  refine lv_iload_n hx hb st_da0 rfl l1 ?_
  refine lv_aload_n hx hb st_da1 rfl l0 ?_
  refine va_tlen (v := Int32.ofNat (sm_strs.getD k []).length) hx hb hk0.2.2.2 va_S.rf (by rw [st_ln k hk]) st_da2 ?_
  refine st_call_W (r := none) (rest := []) (va_runS (n := 2) (As := [.int j, .int (Int32.ofNat (sm_strs.getD k []).length)]) ⟨hx, hb, hml, hown, hts⟩ (st_check l xs b sK aV cid D h j _ (fun q => hj (Or.inl q)) (st_lt (st_sm k hk) hj)) ⟨⟨rfl, rfl, by decide, by decide, sm_paysw hts st_c3, List.mem_cons_self, hts _ st_c3, hts _ sm_wS0, ⟨by decide, by decide⟩, sm_npar_ok (by decide +kernel), hts _ st_m3⟩, hts _ st_t3⟩ ⟨st_blind _ _ _ _ _ _ _ _, st_pre hE hP va_S.rf hlB hsz⟩ rfl rfl hl.1 rfl (lv_room (Nat.le_of_ble_eq_true rfl)) st_da3 ⟨Nat.le_refl _, Nat.le_refl _⟩) va_S.rf (fun H1 locs1 hP1 hS1 => ?_)
  refine lv_aload_n hx hb st_da6 rfl l0 ?_
  refine lv_iload_n hx hb st_da7 rfl l1 ?_
  refine va_tb (v := .int ((sm_strs.getD k []).getD j.toNatClampNeg 0)) hx hb hk0.2.2.2 hS1 (by rw [st_ln k hk]; exact hj) rfl st_da8 ?_
  refine lv_sipush (v := 255) hx hb st_da9 (by decide) ?_
  refine lv_iand hx hb st_da12 ?_
  refine lv_i2c (v := (sm_strs.getD k []).getD j.toNatClampNeg 0) hx hb st_da13 (st_ch k hk _ hlt) ?_
  exact W.zret (ty := .char) hx hb hr (congrArg Value.int (st_nar k hk _ hlt)) (fun t ht hW => ⟨rfl, by rw [ht]; exact hP1, hS1.F ht⟩) hS1.2.2 st_da14 hlocks
-- charAt
theorem st_dx0 : decode cJ0_charAt_5068e 0 = .ok (.aload_n 0, 1) := by decide +kernel
theorem st_dx1 : decode cJ0_charAt_5068e 1 = .ok (.invokevirtual 492, 3) := by decide +kernel
theorem st_dx4 : decode cJ0_charAt_5068e 4 = .ok (.ifCond .eq 12, 3) := by decide +kernel
theorem st_dx7 : decode cJ0_charAt_5068e 7 = .ok (.aload_n 0, 1) := by decide +kernel
theorem st_dx8 : decode cJ0_charAt_5068e 8 = .ok (.getfield 9, 3) := by decide +kernel
theorem st_dx11 : decode cJ0_charAt_5068e 11 = .ok (.iload_n 1, 1) := by decide +kernel
theorem st_dx12 : decode cJ0_charAt_5068e 12 = .ok (.invokestatic 495, 3) := by decide +kernel
theorem st_dx15 : decode cJ0_charAt_5068e 15 = .ok (.ireturn, 1) := by decide +kernel
theorem st_charAt (l : Launch) (xs : List Int32) (b : Nat) (sK aV : Nat → Nat) (cid : FieldType → ClassId) (D : va_G) (h : HH) (k : Nat) (hk : k < 9) (j : Int32) (hj : ¬ (j < 0 ∨ (sm_strs.getD k []).length ≤ j.toNatClampNeg)) : Met l yJ0_charAt_5068e (Cond.code yJ0_charAt_5068e cJ0_charAt_5068e 2 (some .char) :: sm_GG) { frames := 3, cells := 0, slots := 0, locals := 90 } (st_P xs b sK aV cid D [.ref (sK k), .int j] h) (st_Q b sK cid D (some (.int ((sm_strs.getD k []).getD j.toNatClampNeg 0))) h) 0 0 (fun q => b ≤ q) := by
  refine st_met (by decide) (Nat.le_refl 2) ?_
  intro p e s m below meth c ls hx hb hown hts hml hr hlocks hE hP hsz hlB hl
  obtain ⟨-, -, -, -, -, -, -, hSS, -, hZZ, -, hbs⟩ := id hE
  have l0 : ls[0]? = some (.val (.ref (sK k))) := lv_at hl 0 rfl
  have l1 : ls[1]? = some (.val (.int j)) := lv_at hl 1 rfl
  have hk0 := hSS.1 k hk
  have hlt : j.toNatClampNeg < (sm_strs.getD k []).length := Nat.not_le.mp fun q => hj (Or.inr q)
  refine lv_aload_n hx hb st_dx0 rfl l0 ?_
  refine st_call_W (r := some (.int 1)) (rest := []) (va_runV (n := 0) (C := "java/lang/String") (b := sK k) (As := []) ⟨hx, hb, hml, hown, hts⟩ (st_isLatin1 l xs b sK aV cid D h k hk) ⟨⟨rfl, rfl, by decide, by decide, sm_paysw hts st_c1, List.mem_cons_self, hts _ st_c1, hts _ sm_wS0, ⟨by decide, by decide⟩, sm_npar_ok (by decide +kernel), hts _ st_m1⟩, hts _ st_i1, hts _ st_s1⟩ ⟨st_blind _ _ _ _ _ _ _ _, vk_recv hSS hk va_S.rf, st_pre (A := [.ref (sK k)]) hE hP va_S.rf hlB hsz⟩ rfl rfl hl.1 rfl (lv_room (Nat.le_of_ble_eq_true rfl)) st_dx1 ⟨Nat.le_refl _, Nat.le_refl _⟩) va_S.rf (fun H1 locs1 hP1 hS1 => ?_)
  refine lv_if_eq (tgt := 16) hx hb st_dx4 (by decide) (fun q => absurd q (by decide)) (fun _ => ?_)
  refine lv_aload_n hx hb st_dx7 rfl l0 ?_
  refine vk_getf hx hb hk0.2.2.1 hS1 hown (hts _ st_w2) (fun x h => h) st_dx8 ?_
  refine lv_iload_n hx hb st_dx11 rfl l1 ?_
  refine sm_full hP1 hS1 hbs (by rw [hsz]; rfl) (fun hH => ?_)
  refine st_call_W (r := some (.int ((sm_strs.getD k []).getD j.toNatClampNeg 0))) (rest := []) (va_runS (n := 2) (As := [.ref (aV k), .int j]) ⟨hx, hb, hml, hown, hts⟩ (st_latin l xs b sK aV cid D h k hk j hj) ⟨⟨rfl, rfl, by decide, by decide, sm_paysw hts st_c2, List.mem_cons_self, hts _ st_c2, hts _ st_n1, ⟨by decide, by decide⟩, sm_npar_ok (by decide +kernel), hts _ st_m2⟩, hts _ st_t2⟩ ⟨st_blind _ _ _ _ _ _ _ _, st_pre hE hP1 hS1 hlB hH⟩ rfl rfl hl.1 rfl (lv_room (Nat.le_of_ble_eq_true rfl)) st_dx12 ⟨Nat.le_refl _, Nat.le_refl _⟩) hS1 (fun H2 locs2 hP2 hS2 => ?_)
  exact W.zret (ty := .char) hx hb hr (congrArg Value.int (st_nar k hk _ hlt)) (fun t ht hW => ⟨rfl, by rw [ht]; exact hP2, hS2.F ht⟩) hS2.2.2 st_dx15 hlocks
theorem st_C : sm_StrC := by
  intro xs l D b sK aV cid h k j hk hj
  have e : sm_Pc xs b sK aV cid D [.ref (sm_B + k), .int j] h = st_P xs b sK aV cid D [.ref (sK k), .int j] h := by
    show va_Pc [.ref (sm_cr b sK (sm_B + k)), .int j] _ = _
    rw [sm_cr_hi]
    rfl
  rw [e]
  exact st_charAt l xs b sK aV cid D h k hk j hj

-- the surroundings stay
theorem sm_Ev_same {xs : List Int32} {b : Nat} {sK aV : Nat → Nat} {cid : FieldType → ClassId} {D : va_G} {u U : State} (hv : u.vm = U.vm) (hh : u.heap = U.heap) (h : sm_Ev xs b sK aV cid D u) : sm_Ev xs b sK aV cid D U := by
  have hal : u.vm.Alike U.vm := by rw [hv]; exact Vm.Alike.refl _
  obtain ⟨hK, hNe, hAO, hDe, hNo, hCa, hSR, hSS, hXX, hZZ, hsb, hbs⟩ := h
  refine ⟨va_K.moved hal hK, fun w hw => ?_, va_AO.moved hal hAO, va_Nw.same rfl hv hDe, fun q hq => va_Nc.moved hal (hNo q hq), ⟨va_Nw.same rfl hv hCa.1, va_Nw.same rfl hv hCa.2⟩, fun q hq => vk_R.same hv.symm (hSR q hq), ?_, ?_, ?_, hsb, ?_⟩
  · have h1 := hNe w hw
    simp only [sm_nest, List.mem_cons, List.not_mem_nil, or_false] at hw
    rcases hw with rfl | rfl | rfl | rfl | rfl | rfl | rfl | rfl | rfl | rfl | rfl | rfl <;> exact va_Nw.same rfl hv h1
  · rw [← hh]; exact vk_S.moved hal hSS
  · rw [← hh]; exact va_X.moved hal hXX
  · rw [← hh]; exact ⟨va_Z.moved hal hZZ.1, va_Zq.moved hal hZZ.2⟩
  · rw [← hh]; exact hbs
theorem sm_Ev_warm {xs : List Int32} {b : Nat} {sK aV : Nat → Nat} {cid : FieldType → ClassId} {D : va_G} {s U : State} {H : Heap} {locs : List Loc} (hW : s.WarmedH U.vm) (hU : U.heap = H) (hS : va_S (fun q => b ≤ q) s.heap H locs) (h : sm_Ev xs b sK aV cid D s) : sm_Ev xs b sK aV cid D U := by
  have hal : s.vm.Alike U.vm := hW.alike
  obtain ⟨hK, hNe, hAO, hDe, hNo, hCa, hSR, hSS, hXX, hZZ, hsb, hbs⟩ := h
  refine ⟨va_K.moved hal hK, fun w hw => ?_, va_AO.moved hal hAO, va_Nw.warmD hW hDe, fun q hq => va_Nc.moved hal (hNo q hq), ⟨va_Nw.warmC hW hCa.1, va_Nw.warmC hW hCa.2⟩, fun q hq => vk_R.warm hW (hSR q hq), ?_, ?_, ?_, hsb, ?_⟩
  · have h1 := hNe w hw
    simp only [sm_nest, List.mem_cons, List.not_mem_nil, or_false] at hw
    rcases hw with rfl | rfl | rfl | rfl | rfl | rfl | rfl | rfl | rfl | rfl | rfl | rfl <;> exact va_Nw.warmM hW h1
  · rw [hU]; exact vk_S.moved hal (hSS.kept hS.2.1)
  · rw [hU]; exact va_X.moved hal (hXX.kept (hS.2.1 _ (Nat.lt_of_lt_of_le hsb hbs) (Nat.not_le.mpr hsb)))
  · rw [hU]; exact ⟨va_Z.moved hal (hZZ.1.kept hS.2.1), va_Zq.moved hal (hZZ.2.kept hS.2.1)⟩
  · rw [hU]; exact Nat.le_trans hbs hS.1
-- contracts
def sm_Pc (xs : List Int32) (b : Nat) (sK aV : Nat → Nat) (cid : FieldType → ClassId) (D : va_G) (as : List Value) (h : HH) : Array Value → State → Prop := va_Pc (as.map (sm_cv b sK)) (fun U => va_P D sm_CL (sm_ws b sK cid h) U.heap ∧ U.heap.size = b + h.length ∧ h.length ≤ sm_B ∧ sm_Ev xs b sK aV cid D U)
def sm_Qc (b : Nat) (sK : Nat → Nat) (cid : FieldType → ClassId) (D : va_G) (r : Option Value) (h : HH) : Array Value → State → Outcome → State → Prop := fun _ st oc t => oc = .returned (r.map (sm_cv b sK)) ∧ va_P D sm_CL (sm_ws b sK cid h) t.heap ∧ va_F (fun q => b ≤ q) st t
def sm_rm (k : MI) (h h' : HH) : Room := { frames := mi_fr k, cells := h'.length - h.length, slots := sm_sz h' - sm_sz h, locals := mi_lo k }
def sm_wk (k : MI) : List Cond := Cond.code (mi_nm k) (mi_cd k) (mi_ml k) (mi_rt k) :: sm_GG
def sm_Kt (xs : List Int32) (y : Nat) (as : List Value) (h : HH) (r : Option Value) (h' : HH) : Prop := ∀ k : MI, sm_MT[y]? = some k → sm_gr h h' ∧ h'.length ≤ sm_B ∧ ∀ (l : Launch) (D : va_G) (b : Nat) (sK aV : Nat → Nat) (cid : FieldType → ClassId), Met l (mi_nm k) (sm_wk k) (sm_rm k h h') (sm_Pc xs b sK aV cid D as h) (sm_Qc b sK cid D r h') (h'.length - h.length) (sm_sz h' - sm_sz h) (fun q => b ≤ q)
theorem sm_Pc_blind (xs : List Int32) (b : Nat) (sK aV : Nat → Nat) (cid : FieldType → ClassId) (D : va_G) (as : List Value) (h : HH) : FrameBlind (sm_Pc xs b sK aV cid D as h) := by
  intro a U g mk q
  obtain ⟨h1, h2, h3, h4, h5⟩ := q
  exact ⟨h1, h2, h3, h4, sm_Ev_same (u := U) (U := U.calling g mk a) rfl rfl h5⟩
section SNDC
variable {p : Program} {l : Launch} {e : Env} {R : Room} {s : State} {m : MethodId} {args : Array Value} {below : List Frame} {meth : Method} {c : Code} {H : Heap} {locs : List Loc} {cells slots : Nat} {Q : State → Prop} {pc nL : Nat} {ls : Array Slot}
variable {xs : List Int32} {b : Nat} {sK aV : Nat → Nat} {cid : FieldType → ClassId} {D : va_G} {mi : MI} {st : List Value} {h : HH} {o : List Value × HH}
theorem sm_call_W {st0 rest : List Value} {r : Option Value} {h' : HH} {mc ms : Nat} {a : Array Value} (hr : va_Run p l e R s m args below meth c H locs cells slots mc ms (F0 m pc ls st0) rest (sm_Qc b sK cid D r h' a) (fun q => b ≤ q)) (hS : va_S (fun q => b ≤ q) s.heap H locs)
    (kk : ∀ (H1 : Heap) (locs1 : List Loc), va_P D sm_CL (sm_ws b sK cid h') H1 → va_S (fun q => b ≤ q) s.heap H1 locs1 → W p l e R s m args below meth c H1 locs1 (cells + mc) (slots + ms) Q (F0 m (pc + 3) ls ((r.map (sm_cv b sK)).toList ++ rest))) : W p l e R s m args below meth c H locs cells slots Q (F0 m pc ls st0) := by
  intro T hT X
  obtain ⟨v, st₀, t, T', L, h0, X', hL, e1, e2, ⟨hv, hp, hz, hk⟩, st⟩ := hr T hT X
  cases hv
  rw [h0] at hz hk
  obtain ⟨t2, a1, b1⟩ := kk T'.heap (locs ++ L) (by rw [e1]; exact hp)
    ⟨Nat.le_trans hS.1 (by rw [e1]; exact hz), fun q h1 h2 => by rw [e1, hk q (Nat.lt_of_lt_of_le h1 hS.1) h2]; exact hS.2.1 q h1 h2, fun q hq => by
      rcases List.mem_append.mp hq with h | h
      · exact hS.2.2 q h
      · exact hL q h⟩ T' rfl X'
  exact ⟨t2, st t2 a1, b1⟩
/-- the heap's size, seen at a call -/
theorem sm_full {g : JFrame} (hP : va_P D sm_CL (sm_ws b sK cid h) H) (hS : va_S (fun q => b ≤ q) s.heap H locs) (hbs : b ≤ s.heap.size) (hsz : b + h.length = s.heap.size + cells) (kk : H.size = b + h.length → W p l e R s m args below meth c H locs cells slots Q g) : W p l e R s m args below meth c H locs cells slots Q g := by
  refine sm_W_size (fun hz => kk ?_)
  have h1 : b + h.length ≤ H.size := by
    cases hn : h.length with
    | zero => have := hS.1; omega
    | succ n =>
      have hlt : n < h.length := by omega
      obtain ⟨x, hx⟩ : ∃ x, h[n]? = some x := ⟨_, List.getElem?_eq_getElem hlt⟩
      have h2 := (hP _ _ (sm_ws_get hx)).lt
      have h3 : b + n < H.size := h2
      omega
  omega
theorem sm_pre {as : List Value} (X : sm_Cx xs b sK aV cid D p s m args meth c mi) (hP : va_P D sm_CL (sm_ws b sK cid h) H) (hS : va_S (fun q => b ≤ q) s.heap H locs) (hl : h.length ≤ sm_B) (hH : H.size = b + h.length) : ∀ U : State, U.heap = H → s.WarmedH U.vm → sm_Pc xs b sK aV cid D as h (as.map (sm_cv b sK)).toArray U := fun U hU hW => ⟨rfl, by rw [hU]; exact hP, by rw [hU]; exact hH, hl, sm_Ev_warm hW hU hS X.2.2.2.2.2.2⟩
theorem sm_pays (hts : ∀ w ∈ sm_GG, w.before args s = true) {k : MI} (hk : Cond.code (mi_nm k) (mi_cd k) (mi_ml k) (mi_rt k) ∈ sm_GG) : ∀ w ∈ sm_wk k, ∀ (a' : Array Value) (U : State), s.WarmedH U.vm → w.before a' U = true := by
  intro w hw a' U hW
  have hg : w ∈ sm_GG := by
    rcases List.mem_cons.mp hw with rfl | h
    · exact hk
    · exact h
  exact word_at hW (good_of_word (List.mem_filter.mp hg).2) (hts w hg)
def sm_nmh (y : MethodName) : Bool := decide (y.cls ≠ "java/lang/invoke/MethodHandle") && decide (y.cls ≠ "java/lang/invoke/VarHandle")
def sm_npar (y : MethodName) (n : Nat) : Bool := decide ((parseMethodDescriptor y.desc).map (fun d => d.parameters.length) = some n)
theorem sm_nmh_ok {y : MethodName} (h : sm_nmh y = true) : y.cls ≠ "java/lang/invoke/MethodHandle" ∧ y.cls ≠ "java/lang/invoke/VarHandle" := by
  unfold sm_nmh at h
  rw [Bool.and_eq_true] at h
  exact ⟨of_decide_eq_true h.1, of_decide_eq_true h.2⟩
theorem sm_npar_ok {y : MethodName} {n : Nat} (h : sm_npar y n = true) : ∀ sig, parseMethodDescriptor y.desc = some sig → n = sig.parameters.length := by
  intro sig hs
  have h1 := of_decide_eq_true h
  rw [hs] at h1
  exact (Option.some.inj h1).symm
-- statics
def sm_SLc (q : Nat × Nat × Nat × Nat × Nat × List Nat) : Bool := match sm_MT[q.2.2.2.1]?, q.2.2.2.2.1, q.2.2.2.2.2 with
  | some k, 0, [i0, i1, i2, i3] => sm_at i0 (.methodLink (sm_cpn q.1) q.2.1 (mi_nm k)) && (sm_at i1 (.static (mi_nm k)) && (sm_at i2 (.initialized (mi_nm k).cls) && (decide (q.2.2.2.1 < sm_NM) && (sm_nmh (mi_nm k) && sm_npar (mi_nm k) q.2.2.1))))
  | some k, 1, [i0, i1, i2, i3] => decide (Cond.methodLinkNest (sm_cpn q.1) q.2.1 (mi_nm k) "ForKeeps" ∈ sm_nest) && (sm_at i1 (.static (mi_nm k)) && (sm_at i2 (.initialized (mi_nm k).cls) && (decide (q.2.2.2.1 < sm_NM) && (sm_nmh (mi_nm k) && sm_npar (mi_nm k) q.2.2.1))))
  | _, _, _ => false
theorem sm_SL_all : sm_SL.all sm_SLc = true := by decide +kernel
-- constructors
def sm_PLc (q : Nat × Nat × Nat × Nat × Nat × List Nat) : Bool := match sm_MT[q.2.2.2.1]?, q.2.2.2.2.1, q.2.2.2.2.2 with
  | some k, 0, [i0, i1, i2, i3] => sm_at i0 (.methodLink (sm_cpn q.1) q.2.1 (mi_nm k)) && (sm_at i1 (.instanceMethod (mi_nm k)) && (sm_at i2 (.initialized (mi_nm k).cls) && (decide (q.2.2.2.1 < sm_NM) && (sm_nmh (mi_nm k) && (sm_npar (mi_nm k) q.2.2.1 && (decide ((mi_nm k).name = "<init>") && decide (mi_rt k = none)))))))
  | some k, 1, [i0, i1, i2, i3] => decide (Cond.methodLinkNest (sm_cpn q.1) q.2.1 (mi_nm k) "ForKeeps" ∈ sm_nest) && (sm_at i1 (.instanceMethod (mi_nm k)) && (sm_at i2 (.initialized (mi_nm k).cls) && (decide (q.2.2.2.1 < sm_NM) && (sm_nmh (mi_nm k) && (sm_npar (mi_nm k) q.2.2.1 && (decide ((mi_nm k).name = "<init>") && decide (mi_rt k = none)))))))
  | _, _, _ => false
theorem sm_PL_all : sm_PL.all sm_PLc = true := by decide +kernel
-- methods
def sm_VLe (cp idx na : Nat) (x : MethodName) (q : Nat × Nat × Nat × List Nat) : Bool := match sm_CL[q.1]?, sm_MT[q.2.1]?, q.2.2.1, q.2.2.2 with
  | some r, some k, 0, [i0, i1, i2, i3, i4] => sm_at i0 (.methodLink (sm_cpn cp) idx x) && (sm_at i1 (.instanceMethod x) && (sm_at i2 (.selects r.1 x x) && (sm_at i3 (.initialized x.cls) && (decide (q.2.1 < sm_NM) && (sm_nmh x && (sm_npar x na && decide (mi_nm k = x)))))))
  | some r, some k, 1, [i0, i1, i2, i3, i4, i5] => sm_at i0 (.methodLink (sm_cpn cp) idx x) && (sm_at i1 (.sameMethod x.cls x.cls x.name x.desc) && (sm_at i2 (.selects r.1 x (mi_nm k)) && (sm_at i3 (.instanceMethod (mi_nm k)) && (sm_at i4 (.initialized (mi_nm k).cls) && (decide (q.2.1 < sm_NM) && (sm_nmh x && (sm_npar x na && decide (mi_nm k = x))))))))
  | some r, some k, 2, [i0, i1, i2, i3, i4, i5, i6, i7] => sm_at i0 (.methodLink (sm_cpn cp) idx x) && (sm_at i1 (.sameMethod x.cls x.cls x.name x.desc) && (sm_at i3 (.selects r.1 x (mi_nm k)) && (sm_at i4 (.instanceMethod (mi_nm k)) && (sm_at i5 (.initialized (mi_nm k).cls) && (decide (q.2.1 < sm_NM) && (sm_nmh x && (sm_npar x na && (sm_at i2 (.instanceMethod x) && (match lw_tbl[i7]? with
    | some (.code x' _ _ _) => decide (x' = x)
    | _ => false)))))))))
  | some r, some k, 3, [i0, i1, i2, i3, i4, i5] => sm_at i0 (.methodLink (sm_cpn cp) idx x) && (sm_at i1 (.sameMethod x.cls x.cls x.name x.desc) && (sm_at i2 (.selects r.1 x (mi_nm k)) && (sm_at i3 (.instanceMethod (mi_nm k)) && (sm_at i4 (.initialized (mi_nm k).cls) && (decide (q.2.1 < sm_NM) && (sm_nmh x && (sm_npar x na && decide (x = ⟨"ForKeeps$Thumb", "share", "(I)I"⟩))))))))
  | _, _, _, _ => false
def sm_VLc (q : Nat × Nat × Nat × MethodName × List (Nat × Nat × Nat × List Nat)) : Bool := q.2.2.2.2.all (sm_VLe q.1 q.2.1 q.2.2.1 q.2.2.2.1)
end SNDC

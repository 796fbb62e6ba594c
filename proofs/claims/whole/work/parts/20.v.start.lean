def R_law : String := "ForKeepsLaw"
def lw_P (b : Addr) (xs : List Int32) (args : Array Value) (s : State) : Prop := args = #[.ref b] ∧ s.IntsAt b xs ∧ xs.length ≤ 320 ∧ (Jvm.Cond.and given_1 narrow_1).before args s = true
def lw_Q (_ : Array Value) (s : State) (o : Outcome) (t : State) : Prop := o = .returned (some (.int 1)) ∧ Framed s o t [] 600000 7302250
def lw_Z (below : List Frame) (a : Array Value) (s : State) : State → Prop := fun t => ∃ o, t.status = .running ∧ Ended t below o ∧ lw_Q a s o t
/-- the law's own end, with 1 on the stack, nothing written that was there before, its room as the claim has it -/
theorem lw_ret {p : Program} {l : Launch} {e : Env} {s : State} {m : MethodId} {below : List Frame} {meth : Method} {c : Code} {b : Nat} (hx : p.tables.exec = Jvm.exec) (hb : c.code = code) (hr : meth.sig.returnType = ret) (hlocks : meth.locks = false) {pc : Nat} {H : Heap} {ls : Array Slot} (hdg : decode code pc = .ok (.ireturn, 1)) : W p l e room_1 s m #[Value.ref b] below meth c H [] 600000 7302250 (lw_Z below #[Value.ref b] s) (F0 m pc ls [.int 1]) := by
  intro T hT X
  obtain ⟨fs, hret, hrun, hended, hW, hframe⟩ := X.leave (v := some (.int 1)) (hlocks := hlocks) (fun h => by rw [hr] at h; cases h)
  have hmeth' : T.vm.method? m = some meth := X.method'
  refine ⟨T.setFrames fs, ?_, .returned (some (.int 1)), hrun, hended, rfl, ⟨_, rfl⟩, hW, hframe⟩
  jvm_step X.here [X.here.top, hx, hb, hdg, hmeth', hr, ret, narrow_b1]
  (try refine ⟨rfl, ?_⟩); (try refine ⟨rfl, ?_⟩)
  first | (intro acts; rw [hret _ acts rfl rfl rfl]) | rw [hret _ _ rfl rfl rfl]
  exact Steps.refl _
/-- what holds at the law's entry: the machine, the code, the tables' words (any of lw_tbl by 'hts w (by decide +kernel)'), the script of L ints xs at the cell b, what the Statement gives of the start (any of its parts by flat_of_before) -/
def lw_At (p : Program) (s : State) (m : MethodId) (meth : Method) (c : Code) (b L : Nat) (xs : Nat → Int32) : Prop :=
  p.tables.exec = Jvm.exec ∧ c.code = code ∧ meth.sig.returnType = ret ∧ c.maxLocals = 4 ∧ s.vm.findClass R_law = some m.cls ∧ (∀ w ∈ lw_tbl, w.before #[Value.ref b] s = true) ∧ va_X b L xs s s.heap ∧ b < s.heap.size ∧ meth.locks = false ∧ (Jvm.Cond.and given_1 narrow_1).before #[Value.ref b] s = true ∧ meth.name = x.name
theorem e_start {p : Program} {e : Env} {s : State} {m : MethodId} {below : List Frame} {meth : Method} {c : Code} (l : Launch) {b L : Nat} {xs : Nat → Int32} (hL : L ≤ 320) (C0 : lw_At p s m meth c b L xs) {h' : HH} (hcall : sm_call ((List.range L).map xs) 166 [.ref (sm_B + 9)] [] = some (some (.int 1), h')) (z1 : 0 + (h'.length - ([] : HH).length) ≤ 600000) (z2 : 0 + (sm_sz h' - sm_sz []) ≤ 7302250) : W p l e room_1 s m #[Value.ref b] below meth c s.heap [] 0 0 (lw_Z below #[Value.ref b] s) (entryFrame m ([Value.ref b] : List Value).toArray 4) := by
  obtain ⟨hx, hb, hr, hml, hown, hts, hX, hbl, hlocks, hgv, hnm⟩ := C0
  obtain ⟨D, cid, sK, aV, s9, hE⟩ := e_Ev hts hX hbl hgv
  obtain ⟨n, hn⟩ := sm_call_iff.mp hcall
  obtain ⟨k, hk, hlin, e2⟩ := sm_call0_inv hn
  have hm : sm_MT[166]? = some mi_L_law := rfl
  have hkk : k = mi_L_law := Option.some.inj (hk.symm.trans hm)
  subst hkk
  have ent := sm_entry s.heap.size sK (k := mi_L_law) (as := [.ref (sm_B + 9)]) hlin
  have ea : ([.ref (sm_B + 9)] : List Value).map (sm_cv s.heap.size sK) = [.ref b] := by
    show [Value.ref (sm_cr s.heap.size sK (sm_B + 9))] = [Value.ref b]
    rw [sm_cr_hi, s9]
  rw [ea] at ent
  rw [lg_entry_eq]
  refine sm_snd ⟨st_L, st_C⟩ _ n 166 0 _ [] [] _ h' (Nat.zero_le _) e2 mi_L_law hk (cells := 0) (slots := 0) (b := s.heap.size) (sK := sK) (aV := aV) (cid := cid) (D := D) ⟨hx, hb, hown, fun w hw => hts w (List.mem_filter.mp hw).1, hnm, hml, hE⟩ (fun k q h => by simp [sm_ws] at h) va_S.rf rfl (by decide) (by decide) z1 z2 ent ?_
  intro H' locs' pc' ls' st' i hi hdi hri hP' hS'
  rcases sm_ret_inv hri with ⟨-, -, -, h⟩ | ⟨rfl, v, rfl, h, -⟩ | ⟨-, v, -, h, -⟩ | ⟨-, v, w, -, h, -⟩
  · cases h
  · cases h
    refine va_forget (fun q hq => hS'.2.2 q hq) ?_
    refine W.widen (k := 600000) (n := 7302250) z1 z2 ?_
    exact lw_ret hx hb hr hlocks hdi
  · cases h
  · cases h

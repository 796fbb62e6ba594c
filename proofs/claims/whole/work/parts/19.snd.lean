/-- a contract out of a run -/
theorem sm_Kt_of (xs : List Int32) {n y : Nat} (ih : ∀ (y pc : Nat) (L : LL) (st : List Value) (h : HH) (r : Option Value) (h' : HH), h.length ≤ sm_B → sm_run0 xs n y pc L st h = some (r, h') → sm_Sim xs y pc L st h r h') {as : List Value} {h : HH} {r : Option Value} {h' : HH} (hl : h.length ≤ sm_B) (e : sm_call0 xs n y as h = some (r, h')) : sm_Kt xs y as h r h' := by
  intro k hk
  obtain ⟨k', hk', hlin, e2⟩ := sm_call0_inv e
  have hkk : k = k' := Option.some.inj (hk.symm.trans hk')
  subst hkk
  obtain ⟨hg, hl'⟩ := sm_run0_gr xs _ _ _ _ _ _ _ _ hl e2
  refine ⟨hg, hl', fun l D b sK aV cid => ?_⟩
  obtain ⟨hpl, hcn⟩ := sm_okn_in hk
  refine Met.ofW (cc := mi_cd k) (maxL := mi_ml k) (ret := mi_rt k) hpl rfl ?_
  intro p e s m args below meth c s₁ B hml hv
  obtain ⟨rfl, hP, hsz, hlB, hE⟩ := hv
  have hts := atoms_spec (ws := sm_wk k) B.pre
  have hown : s.vm.findClass (sm_cpn (mi_cp k)) = some m.cls := by rw [← hcn]; exact findClass_of_methodNamed B.named
  have hnm : meth.name = (mi_nm k).name := (name_of_methodNamed B.named B.method).1
  have hlocks := B.notSynchronized
  have hr := B.returns
  have hx := B.exec
  have hb := B.bytes
  rw [lg_entry_eq]
  refine ih y 0 (sm_loc k as) [] h r h' hl e2 k hk (cells := 0) (slots := 0) ⟨hx, hb, hown, fun w hw => hts w (List.mem_cons_of_mem _ hw), hnm, hml, hE⟩ hP va_S.rf (by rw [hsz]; rfl) (Nat.le_refl _) (Nat.le_refl _) (by rw [Nat.zero_add]; exact Nat.le_refl _) (by rw [Nat.zero_add]; exact Nat.le_refl _) (sm_entry b sK hlin) ?_
  intro H' locs' pc' ls' st' i hi hdi hri hP' hS'
  rw [Nat.zero_add, Nat.zero_add]
  have hq : ∀ t : State, t.heap = H' → s.WarmedH t.vm → sm_Qc b sK cid D r h' (as.map (sm_cv b sK)).toArray s (.returned (r.map (sm_cv b sK))) t := fun t ht hW => ⟨rfl, by rw [ht]; exact hP', hS'.F ht⟩
  rcases sm_ret_inv hri with ⟨rfl, h1, rfl, rfl⟩ | ⟨rfl, v, rfl, rfl, h1 | ⟨h1, h2⟩⟩ | ⟨rfl, v, rfl, rfl, h1⟩ | ⟨rfl, v, nn, rfl, rfl, h1⟩
  · exact W.vret hx hb (hr.trans h1) hq hS'.2.2 hdi hlocks
  · exact W.iret hx hb (hr.trans h1) hq hS'.2.2 hdi hlocks
  · exact W.zret (ty := .boolean) hx hb (hr.trans h1) (by rcases h2 with rfl | rfl <;> rfl) hq hS'.2.2 hdi hlocks
  · exact W.lret hx hb (hr.trans h1) hq hS'.2.2 hdi hlocks
  · exact W.aret (rt := .object nn) hx hb (hr.trans h1) (Or.inl ⟨nn, rfl⟩) (Or.inr ⟨_, rfl⟩) hq hS'.2.2 hdi hlocks
theorem sm_snd (hSt : sm_StrL ∧ sm_StrC) (xs : List Int32) : ∀ (n y pc : Nat) (L : LL) (st : List Value) (h : HH) (r : Option Value) (h' : HH), h.length ≤ sm_B → sm_run0 xs n y pc L st h = some (r, h') → sm_Sim xs y pc L st h r h' := by
  intro n
  induction n with
  | zero => intro y pc L st h r h' _ e; cases e
  | succ n ih =>
    intro y pc L st h r h' hl e
    obtain ⟨mi0, i, hm0, hi, hcase⟩ := sm_run0_inv e
    intro mi hm p l e0 R s m args below meth c H locs cells slots Q ls b sK aV cid D X hP hS hsz hRf hRl hcR hsR hlr hret
    have hmm : mi = mi0 := Option.some.inj (hm.symm.trans hm0)
    subst hmm
    obtain ⟨k, hdk, hk⟩ := sm_dec hm hi
    rcases hcase with ⟨v, hv, hr⟩ | ⟨q, hq, hr⟩
    · cases hr
      obtain ⟨h1, h2⟩ := sm_ret_1 hv
      have hk1 : k = 1 := by rw [h1, h2] at hk; exact hk.resolve_left (fun z => by cases z)
      subst hk1
      have hz := hret H locs pc ls st i hi hdk hv hP hS
      rw [Nat.sub_self, Nat.sub_self] at hz
      exact hz
    · have cont : ∀ {H1 : Heap} {locs1 : List Loc} {cells1 slots1 : Nat} {ls1 : Array Slot}, q.2.2.2.length ≤ sm_B → sm_gr h q.2.2.2 → cells1 = cells + (q.2.2.2.length - h.length) → slots1 = slots + (sm_sz q.2.2.2 - sm_sz h) → va_P D sm_CL (sm_ws b sK cid q.2.2.2) H1 → va_S (fun q => b ≤ q) s.heap H1 locs1 → sm_lr b sK ls1 (mi_ml mi) q.2.1 → W p l e0 R s m args below meth c H1 locs1 cells1 slots1 Q (F0 m q.1 ls1 (q.2.2.1.map (sm_cv b sK))) := by
        intro H1 locs1 cells1 slots1 ls1 a1 a2 a3 a4 a5 a6 a7
        have hg2 := (sm_run0_gr xs _ _ _ _ _ _ _ _ a1 hr).1
        have e1 : cells1 + (h'.length - q.2.2.2.length) = cells + (h'.length - h.length) := by
          have := a2.1; have := hg2.1; omega
        have e2 : slots1 + (sm_sz h' - sm_sz q.2.2.2) = slots + (sm_sz h' - sm_sz h) := by
          have := a2.2; have := hg2.2; omega
        refine ih _ _ _ _ _ _ _ a1 hr mi hm X a5 a6 (by have := a2.1; omega) hRf hRl (by rw [e1]; exact hcR) (by rw [e2]; exact hsR) a7 ?_
        intro H' locs' pc' ls' st' i' c1 c2 c3 c4 c5
        have hz := hret H' locs' pc' ls' st' i' c1 c2 c3 c4 c5
        rw [e1, e2]
        exact hz
      rcases sm_stp_inv hq with ⟨o, ho, rfl⟩ | ⟨o, ho, rfl⟩ | ⟨o, ho, rfl⟩ | ⟨o, ho, rfl⟩
      · have hk2 : k = sm_ilen i := hk.resolve_left (fun z => by rw [sm_sw_pur z] at ho; cases ho)
        rw [hk2] at hdk
        exact sm_pur_snd X.1 X.2.1 (L' := o.1) (st' := o.2) ho hdk hlr (fun ls1 h1 => cont hl (sm_gr_rf h) (by simp) (by simp) hP hS h1)
      · exact sm_ctl_snd X.1 X.2.1 (pc' := o.1) (st' := o.2) ho hdk hk (cont hl (sm_gr_rf h) (by simp) (by simp) hP hS hlr)
      · have hk2 : k = sm_ilen i := hk.resolve_left (fun z => by rw [sm_sw_hop z] at ho; cases ho)
        rw [hk2] at hdk
        obtain ⟨hg1, hl1⟩ := sm_hop_gr ho hl
        have hg2 := (sm_run0_gr xs _ _ _ _ _ _ _ _ hl1 hr).1
        have g1 := hg1.1
        have g2 := hg1.2
        have g3 : o.2.length ≤ h'.length := hg2.1
        have g4 : sm_sz o.2 ≤ sm_sz h' := hg2.2
        exact sm_hop_snd X ho hdk hP hS hl hsz (by omega) (by omega) (fun H' locs' a1 a2 a3 a4 => cont a1 a2 rfl rfl a3 a4 hlr)
      · obtain ⟨hg1, hl1⟩ := sm_inv_gr (fun y as h r h' hl e => (by obtain ⟨k, hk, -, e2⟩ := sm_call0_inv e; exact sm_run0_gr xs _ _ _ _ _ _ _ _ hl e2)) ho hl
        have hg2 := (sm_run0_gr xs _ _ _ _ _ _ _ _ hl1 hr).1
        have g1 := hg1.1
        have g2 := hg1.2
        have g3 : o.2.length ≤ h'.length := hg2.1
        have g4 : sm_sz o.2 ≤ sm_sz h' := hg2.2
        exact sm_inv_snd hSt (fun y as h r h' hl e => sm_Kt_of xs ih hl e) X ho ⟨k, hdk, hk⟩ hP hS hl hsz hRf hRl hlr.1 (by omega) (by omega) (fun H' locs' a1 a2 a3 a4 => cont a1 a2 rfl rfl a3 a4 hlr)

def sm_Cx (xs : List Int32) (b : Nat) (sK aV : Nat → Nat) (cid : FieldType → ClassId) (D : va_G) (p : Program) (s : State) (m : MethodId) (args : Array Value) (meth : Method) (c : Code) (mi : MI) : Prop :=
  p.tables.exec = Jvm.exec ∧ c.code = mi_cd mi ∧ s.vm.findClass (sm_cpn (mi_cp mi)) = some m.cls ∧ (∀ w ∈ sm_GG, w.before args s = true) ∧ meth.name = (mi_nm mi).name ∧ c.maxLocals = mi_ml mi ∧ sm_Ev xs b sK aV cid D s
section SNDH
variable {p : Program} {l : Launch} {e : Env} {R : Room} {s : State} {m : MethodId} {args : Array Value} {below : List Frame} {meth : Method} {c : Code} {H : Heap} {locs : List Loc} {cells slots : Nat} {Q : State → Prop} {pc nL : Nat} {ls : Array Slot}
variable {xs : List Int32} {b : Nat} {sK aV : Nat → Nat} {cid : FieldType → ClassId} {D : va_G} {mi : MI} {st : List Value} {h : HH} {o : List Value × HH}
theorem sm_W_size {g : JFrame} (kk : H.size ≤ s.heap.size + cells → W p l e R s m args below meth c H locs cells slots Q g) : W p l e R s m args below meth c H locs cells slots Q g := by
  intro T hT X
  refine kk ?_ T hT X
  have h1 := X.same.2.2.1
  rw [← hT]
  exact h1
/-- a cell that came is the next one -/
theorem sm_next {q : Nat} {x : va_E} {H0 : Heap} (hP : va_P D sm_CL (sm_ws b sK cid h ++ [(q, x)]) H) (hD : va_D (fun q => b ≤ q) (sm_ws b sK cid h ++ [(q, x)])) (hz : H.size ≤ H0.size + (cells + 1)) (hs : b + h.length = H0.size + cells) : q = b + h.length := by
  have hlen : (sm_ws b sK cid h).length = h.length := by unfold sm_ws; simp
  have hq : (sm_ws b sK cid h ++ [(q, x)])[h.length]? = some (q, x) := by
    rw [List.getElem?_append_right (by rw [hlen]; exact Nat.le_refl _), hlen]
    simp
  have h1 : q < H.size := (hP _ _ hq).lt
  have h2 : b ≤ q := hD.2 _ _ hq
  rcases Nat.lt_or_ge q (b + h.length) with h3 | h3
  · exfalso
    have hk : q - b < h.length := by omega
    obtain ⟨a, ha⟩ : ∃ a, h[q - b]? = some a := ⟨_, List.getElem?_eq_getElem hk⟩
    have h5 : (sm_ws b sK cid h ++ [(q, x)])[q - b]? = some (b + (q - b), sm_ce b sK cid a) := by
      rw [List.getElem?_append_left (by rw [hlen]; exact hk)]
      exact sm_ws_get ha
    have h4 := hD.1 _ _ _ _ h5 hq (by show b + (q - b) = q; omega)
    omega
  · omega
theorem sm_get_snd (X : sm_Cx xs b sK aV cid D p s m args meth c mi) {idx : Nat} {q : Nat × Nat × Nat} (hq : sm_key sm_FT (mi_cp mi) idx = some q) (hp : sm_get q.1 q.2.1 st h = some o) (hd : decode (mi_cd mi) pc = .ok (.getfield idx, 3)) (hP : va_P D sm_CL (sm_ws b sK cid h) H) (hl : h.length ≤ sm_B)
    (kk : o.2 = h → W p l e R s m args below meth c H locs cells slots Q (F0 m (pc + 3) ls (o.1.map (sm_cv b sK)))) : W p l e R s m args below meth c H locs cells slots Q (F0 m pc ls (st.map (sm_cv b sK))) := by
  obtain ⟨hx, hb, hown, hts, -, -, hK, -⟩ := X
  obtain ⟨C, T, N, hc, hk, hlk⟩ := sm_FT_ok hq
  obtain ⟨i, st0, fs, v, rfl, he, hv, rfl⟩ := sm_get_inv hp
  have hi := sm_get_lt he hl
  show W p l e R s m args below meth c H locs cells slots Q (F0 m pc ls (.ref (sm_cr b sK i) :: st0.map (sm_cv b sK)))
  rw [sm_cr_lt hi]
  exact va_get (D := D) (T := T) hx hb hts (sm_CL_ok _ _ _ _ hc).1 hown hK hP i (sm_ws_get he) hc q.2.1 hk (hts _ hlk) (fun _ h9 => h9) (v := sm_cv b sK v) (by rw [List.getElem?_map, hv]; rfl) hd (kk rfl)
theorem sm_put_snd (X : sm_Cx xs b sK aV cid D p s m args meth c mi) {idx : Nat} {q : Nat × Nat × Nat} (hq : sm_key sm_FT (mi_cp mi) idx = some q) (hp : sm_put mi q.1 q.2.1 st h = some o) (hd : decode (mi_cd mi) pc = .ok (.putfield idx, 3)) (hP : va_P D sm_CL (sm_ws b sK cid h) H) (hS : va_S (fun q => b ≤ q) s.heap H locs) (hl : h.length ≤ sm_B)
    (kk : ∀ (H' : Heap) (locs' : List Loc), o.2.length = h.length → sm_sz o.2 = sm_sz h → va_P D sm_CL (sm_ws b sK cid o.2) H' → va_S (fun q => b ≤ q) s.heap H' locs' → W p l e R s m args below meth c H' locs' cells slots Q (F0 m (pc + 3) ls (o.1.map (sm_cv b sK)))) : W p l e R s m args below meth c H locs cells slots Q (F0 m pc ls (st.map (sm_cv b sK))) := by
  obtain ⟨hx, hb, hown, hts, hnm, -, hK, -⟩ := X
  obtain ⟨C, T, N, hc, hk, hlk⟩ := sm_FT_ok hq
  obtain ⟨v, i, st0, fs, rfl, he, hkl, hpk, hfi, rfl⟩ := sm_put_inv hp
  have hi := sm_get_lt he hl
  have hD := sm_ws_D b sK cid h
  show W p l e R s m args below meth c H locs cells slots Q (F0 m pc ls (sm_cv b sK v :: .ref (sm_cr b sK i) :: st0.map (sm_cv b sK)))
  rw [sm_cr_lt hi]
  have hfl : sm_fl q.1 q.2.1 = T q.2.1 := by unfold sm_fl; rw [hc]
  have hg := sm_pok_ok (b := b) (sK := sK) hpk
  have hend : ∀ (H1 : Heap) (locs1 : List Loc), va_P D sm_CL ((sm_ws b sK cid h).set i (b + i, .inr (q.1, (fs.map (sm_cv b sK)).set q.2.1 (sm_cv b sK v)))) H1 → va_D (fun q => b ≤ q) ((sm_ws b sK cid h).set i (b + i, .inr (q.1, (fs.map (sm_cv b sK)).set q.2.1 (sm_cv b sK v)))) → va_S (fun q => b ≤ q) s.heap H1 locs1 → W p l e R s m args below meth c H1 locs1 cells slots Q (F0 m (pc + 3) ls (st0.map (sm_cv b sK))) := by
    intro H1 locs1 hP1 _ hS1
    refine kk H1 locs1 (by simp) (sm_sz_set he (by simp [sm_csz])) ?_ hS1
    rw [← sm_ws_set]
    rw [← List.map_set] at hP1
    exact hP1
  by_cases hfin : (T q.2.1).2.2.2 = true
  · have hfi2 : (mi_nm mi).name = "<init>" ∧ (T q.2.1).1 = sm_cpn (mi_cp mi) := by
      unfold sm_fin at hfi
      rw [hfl, hfin] at hfi
      simpa using hfi
    exact va_putF (D := D) (T := T) (ty := sm_ty q.1 q.2.1) hx hb hts (sm_CL_ok _ _ _ _ hc).1 (sm_ty q.1) (sm_CL_ok _ _ _ _ hc).2.1 (sm_CL_ok _ _ _ _ hc).2.2 hown hK hP hD hS i (sm_ws_get he) hc q.2.1 hk (hts _ hlk) (fun _ h9 => h9) hfin (hnm.trans hfi2.1) hfi2.2 ((sm_CL_ok _ _ _ _ hc).2.1 _ hk) hg.1 hg.2 (by simpa using hkl) hd hend
  · exact va_put (D := D) (T := T) (ty := sm_ty q.1 q.2.1) hx hb hts (sm_CL_ok _ _ _ _ hc).1 (sm_ty q.1) (sm_CL_ok _ _ _ _ hc).2.1 (sm_CL_ok _ _ _ _ hc).2.2 hown hK hP hD hS i (sm_ws_get he) hc q.2.1 hk (hts _ hlk) (fun _ h9 => h9) (by simpa using hfin) ((sm_CL_ok _ _ _ _ hc).2.1 _ hk) hg.1 hg.2 (by simpa using hkl) hd hend
theorem sm_iald_snd (X : sm_Cx xs b sK aV cid D p s m args meth c mi) (hp : sm_ald xs .int st h = some o) (hd : decode (mi_cd mi) pc = .ok (.iaload, 1)) (hP : va_P D sm_CL (sm_ws b sK cid h) H) (hS : va_S (fun q => b ≤ q) s.heap H locs) (hl : h.length ≤ sm_B)
    (kk : o.2 = h → W p l e R s m args below meth c H locs cells slots Q (F0 m (pc + 1) ls (o.1.map (sm_cv b sK)))) : W p l e R s m args below meth c H locs cells slots Q (F0 m pc ls (st.map (sm_cv b sK))) := by
  obtain ⟨hx, hb, hown, hts, -, -, hK, hNe, hAO, hDe, hNo, hCa, hSR, hSS, hXX, hZZ, hsb, hbs⟩ := X
  obtain ⟨j, i, st0, rfl, ⟨w, he, hin, rfl⟩ | ⟨rfl, -, hin, rfl⟩⟩ := sm_ald_inv hp
  · have hi := sm_get_lt he hl
    show W p l e R s m args below meth c H locs cells slots Q (F0 m pc ls (.int j :: .ref (sm_cr b sK i) :: st0.map (sm_cv b sK)))
    rw [sm_cr_lt hi]
    exact va_iald hx hb hK hP i 0 (sm_ws_get he) rfl hin hd (kk rfl)
  · show W p l e R s m args below meth c H locs cells slots Q (F0 m pc ls (.int j :: .ref (sm_cr b sK (sm_B + 9)) :: st0.map (sm_cv b sK)))
    rw [sm_cr_hi]
    exact va_sld (A := fun q => b ≤ q) hx hb hXX (Nat.lt_of_lt_of_le hsb hbs) (Nat.not_le.mpr hsb) hS hin hd (kk rfl)
theorem sm_cald_snd (X : sm_Cx xs b sK aV cid D p s m args meth c mi) (hp : sm_ald xs .char st h = some o) (hd : decode (mi_cd mi) pc = .ok (.caload, 1)) (hP : va_P D sm_CL (sm_ws b sK cid h) H) (hl : h.length ≤ sm_B)
    (kk : o.2 = h → W p l e R s m args below meth c H locs cells slots Q (F0 m (pc + 1) ls (o.1.map (sm_cv b sK)))) : W p l e R s m args below meth c H locs cells slots Q (F0 m pc ls (st.map (sm_cv b sK))) := by
  obtain ⟨hx, hb, hown, hts, -, -, hK, -⟩ := X
  obtain ⟨j, i, st0, rfl, ⟨w, he, hin, rfl⟩ | ⟨rfl, hty, hin, rfl⟩⟩ := sm_ald_inv hp
  · have hi := sm_get_lt he hl
    show W p l e R s m args below meth c H locs cells slots Q (F0 m pc ls (.int j :: .ref (sm_cr b sK i) :: st0.map (sm_cv b sK)))
    rw [sm_cr_lt hi]
    exact va_cald hx hb hK hP i 1 (sm_ws_get he) rfl hin hd (kk rfl)
  · cases hty
theorem sm_zald_snd (X : sm_Cx xs b sK aV cid D p s m args meth c mi) (hp : sm_ald xs .boolean st h = some o) (hd : decode (mi_cd mi) pc = .ok (.baload, 1)) (hP : va_P D sm_CL (sm_ws b sK cid h) H) (hl : h.length ≤ sm_B)
    (kk : o.2 = h → W p l e R s m args below meth c H locs cells slots Q (F0 m (pc + 1) ls (o.1.map (sm_cv b sK)))) : W p l e R s m args below meth c H locs cells slots Q (F0 m pc ls (st.map (sm_cv b sK))) := by
  obtain ⟨hx, hb, hown, hts, -, -, hK, -⟩ := X
  obtain ⟨j, i, st0, rfl, ⟨w, he, hin, rfl⟩ | ⟨rfl, hty, hin, rfl⟩⟩ := sm_ald_inv hp
  · have hi := sm_get_lt he hl
    show W p l e R s m args below meth c H locs cells slots Q (F0 m pc ls (.int j :: .ref (sm_cr b sK i) :: st0.map (sm_cv b sK)))
    rw [sm_cr_lt hi]
    exact va_zald hx hb hK hP i 2 (sm_ws_get he) rfl hin hd (kk rfl)
  · cases hty
theorem sm_ast_ce (hl : h.length ≤ sm_B) {i : Nat} {ty : FieldType} {w : List Int32} {j : Nat} {y : Int32} (hj : j < w.length) : (sm_ws b sK cid h).set i (b + i, .inl (cid ty, w.length, .inl (upd (fun q => w.getD q 0) j y))) = sm_ws b sK cid (h.set i (.inl (ty, w.set j y))) := by
  rw [← sm_ws_set, sm_upd hj]
  simp only [sm_ce, List.length_set]
theorem sm_iast_snd (X : sm_Cx xs b sK aV cid D p s m args meth c mi) (hp : sm_ast .int st h = some o) (hd : decode (mi_cd mi) pc = .ok (.iastore, 1)) (hP : va_P D sm_CL (sm_ws b sK cid h) H) (hS : va_S (fun q => b ≤ q) s.heap H locs) (hl : h.length ≤ sm_B)
    (kk : ∀ (H' : Heap) (locs' : List Loc), o.2.length = h.length → sm_sz o.2 = sm_sz h → va_P D sm_CL (sm_ws b sK cid o.2) H' → va_S (fun q => b ≤ q) s.heap H' locs' → W p l e R s m args below meth c H' locs' cells slots Q (F0 m (pc + 1) ls (o.1.map (sm_cv b sK)))) : W p l e R s m args below meth c H locs cells slots Q (F0 m pc ls (st.map (sm_cv b sK))) := by
  obtain ⟨hx, hb, hown, hts, -, -, hK, -⟩ := X
  obtain ⟨x, j, i, st0, w, rfl, he, hin, rfl⟩ := sm_ast_inv hp
  have hi := sm_get_lt he hl
  have hj : j.toNatClampNeg < w.length := Nat.not_le.mp (fun q => hin (Or.inr q))
  show W p l e R s m args below meth c H locs cells slots Q (F0 m pc ls (.int x :: .int j :: .ref (sm_cr b sK i) :: st0.map (sm_cv b sK)))
  rw [sm_cr_lt hi]
  refine va_iast hx hb hK hP (sm_ws_D b sK cid h) hS i 0 (sm_ws_get he) rfl hin hd (fun H1 locs1 hP1 _ hS1 => ?_)
  rw [sm_ast_ce hl hj] at hP1
  exact kk H1 locs1 (by simp) (sm_sz_set he (by simp [sm_csz])) hP1 hS1
theorem sm_cast_snd (X : sm_Cx xs b sK aV cid D p s m args meth c mi) (hp : sm_ast .char st h = some o) (hd : decode (mi_cd mi) pc = .ok (.castore, 1)) (hP : va_P D sm_CL (sm_ws b sK cid h) H) (hS : va_S (fun q => b ≤ q) s.heap H locs) (hl : h.length ≤ sm_B)
    (kk : ∀ (H' : Heap) (locs' : List Loc), o.2.length = h.length → sm_sz o.2 = sm_sz h → va_P D sm_CL (sm_ws b sK cid o.2) H' → va_S (fun q => b ≤ q) s.heap H' locs' → W p l e R s m args below meth c H' locs' cells slots Q (F0 m (pc + 1) ls (o.1.map (sm_cv b sK)))) : W p l e R s m args below meth c H locs cells slots Q (F0 m pc ls (st.map (sm_cv b sK))) := by
  obtain ⟨hx, hb, hown, hts, -, -, hK, -⟩ := X
  obtain ⟨x, j, i, st0, w, rfl, he, hin, rfl⟩ := sm_ast_inv hp
  have hi := sm_get_lt he hl
  have hj : j.toNatClampNeg < w.length := Nat.not_le.mp (fun q => hin (Or.inr q))
  show W p l e R s m args below meth c H locs cells slots Q (F0 m pc ls (.int x :: .int j :: .ref (sm_cr b sK i) :: st0.map (sm_cv b sK)))
  rw [sm_cr_lt hi]
  refine va_cast hx hb hK hP (sm_ws_D b sK cid h) hS i 1 (sm_ws_get he) rfl hin hd (fun H1 locs1 hP1 _ hS1 => ?_)
  rw [sm_ast_ce hl hj] at hP1
  exact kk H1 locs1 (by simp) (sm_sz_set he (by simp [sm_csz])) hP1 hS1
theorem sm_zast_snd (X : sm_Cx xs b sK aV cid D p s m args meth c mi) (hp : sm_ast .boolean st h = some o) (hd : decode (mi_cd mi) pc = .ok (.bastore, 1)) (hP : va_P D sm_CL (sm_ws b sK cid h) H) (hS : va_S (fun q => b ≤ q) s.heap H locs) (hl : h.length ≤ sm_B)
    (kk : ∀ (H' : Heap) (locs' : List Loc), o.2.length = h.length → sm_sz o.2 = sm_sz h → va_P D sm_CL (sm_ws b sK cid o.2) H' → va_S (fun q => b ≤ q) s.heap H' locs' → W p l e R s m args below meth c H' locs' cells slots Q (F0 m (pc + 1) ls (o.1.map (sm_cv b sK)))) : W p l e R s m args below meth c H locs cells slots Q (F0 m pc ls (st.map (sm_cv b sK))) := by
  obtain ⟨hx, hb, hown, hts, -, -, hK, -⟩ := X
  obtain ⟨x, j, i, st0, w, rfl, he, hin, rfl⟩ := sm_ast_inv hp
  have hi := sm_get_lt he hl
  have hj : j.toNatClampNeg < w.length := Nat.not_le.mp (fun q => hin (Or.inr q))
  show W p l e R s m args below meth c H locs cells slots Q (F0 m pc ls (.int x :: .int j :: .ref (sm_cr b sK i) :: st0.map (sm_cv b sK)))
  rw [sm_cr_lt hi]
  refine va_zast hx hb hK hP (sm_ws_D b sK cid h) hS i 2 (sm_ws_get he) rfl hin hd (fun H1 locs1 hP1 _ hS1 => ?_)
  rw [sm_ast_ce hl hj] at hP1
  exact kk H1 locs1 (by simp) (sm_sz_set he (by simp [sm_csz])) hP1 hS1
theorem sm_aald_snd (X : sm_Cx xs b sK aV cid D p s m args meth c mi) (hp : sm_aald st h = some o) (hd : decode (mi_cd mi) pc = .ok (.aaload, 1)) (hP : va_P D sm_CL (sm_ws b sK cid h) H) (hl : h.length ≤ sm_B)
    (kk : o.2 = h → W p l e R s m args below meth c H locs cells slots Q (F0 m (pc + 1) ls (o.1.map (sm_cv b sK)))) : W p l e R s m args below meth c H locs cells slots Q (F0 m pc ls (st.map (sm_cv b sK))) := by
  obtain ⟨hx, hb, hown, hts, -, -, hK, -⟩ := X
  obtain ⟨j, i, st0, w, rfl, he, hin, rfl⟩ := sm_aald_inv hp
  have hi := sm_get_lt he hl
  show W p l e R s m args below meth c H locs cells slots Q (F0 m pc ls (.int j :: .ref (sm_cr b sK i) :: st0.map (sm_cv b sK)))
  rw [sm_cr_lt hi]
  refine va_aldq (C := "ForKeeps$Patch") hx hb hK hP i 3 (sm_ws_get he) rfl hin hd ?_
  have h1 := kk rfl
  have h2 : va_rf ((w.getD j.toNatClampNeg none).map (sm_cr b sK)) = sm_cv b sK (sm_rv (w.getD j.toNatClampNeg none)) := by
    cases w.getD j.toNatClampNeg none <;> rfl
  rw [h2]
  exact h1
theorem sm_aast_snd (X : sm_Cx xs b sK aV cid D p s m args meth c mi) (hp : sm_aast st h = some o) (hd : decode (mi_cd mi) pc = .ok (.aastore, 1)) (hP : va_P D sm_CL (sm_ws b sK cid h) H) (hS : va_S (fun q => b ≤ q) s.heap H locs) (hl : h.length ≤ sm_B)
    (kk : ∀ (H' : Heap) (locs' : List Loc), o.2.length = h.length → sm_sz o.2 = sm_sz h → va_P D sm_CL (sm_ws b sK cid o.2) H' → va_S (fun q => b ≤ q) s.heap H' locs' → W p l e R s m args below meth c H' locs' cells slots Q (F0 m (pc + 1) ls (o.1.map (sm_cv b sK)))) : W p l e R s m args below meth c H locs cells slots Q (F0 m pc ls (st.map (sm_cv b sK))) := by
  obtain ⟨hx, hb, hown, hts, -, -, hK, -⟩ := X
  obtain ⟨k, j, i, st0, w, fs, rfl, he, hf, hin, rfl⟩ := sm_aast_inv hp
  have hi := sm_get_lt he hl
  have hk := sm_get_lt hf hl
  have hj : j.toNatClampNeg < w.length := Nat.not_le.mp (fun q => hin (Or.inr q))
  show W p l e R s m args below meth c H locs cells slots Q (F0 m pc ls (.ref (sm_cr b sK k) :: .int j :: .ref (sm_cr b sK i) :: st0.map (sm_cv b sK)))
  rw [sm_cr_lt hi, sm_cr_lt hk]
  refine va_astq (r := (RX3, TX3, 8)) hx hb hK hP (sm_ws_D b sK cid h) hS i 3 k 3 (sm_ws_get he) rfl (sm_ws_get hf) rfl hin hd (fun H1 locs1 hP1 _ hS1 => ?_)
  rw [← sm_cr_lt (sK := sK) hk, sm_vup hj] at hP1
  refine kk H1 locs1 (by simp) (sm_sz_set he (by simp [sm_csz])) ?_ hS1
  rw [← sm_ws_set]
  simp only [sm_ce, List.length_set]
  exact hP1
theorem sm_alen_snd (X : sm_Cx xs b sK aV cid D p s m args meth c mi) (hp : sm_alen xs st h = some o) (hd : decode (mi_cd mi) pc = .ok (.arraylength, 1)) (hP : va_P D sm_CL (sm_ws b sK cid h) H) (hS : va_S (fun q => b ≤ q) s.heap H locs) (hl : h.length ≤ sm_B)
    (kk : o.2 = h → W p l e R s m args below meth c H locs cells slots Q (F0 m (pc + 1) ls (o.1.map (sm_cv b sK)))) : W p l e R s m args below meth c H locs cells slots Q (F0 m pc ls (st.map (sm_cv b sK))) := by
  obtain ⟨hx, hb, hown, hts, -, -, hK, hNe, hAO, hDe, hNo, hCa, hSR, hSS, hXX, hZZ, hsb, hbs⟩ := X
  obtain ⟨i, st0, rfl, ⟨w, he, rfl⟩ | ⟨rfl, rfl⟩⟩ := sm_alen_inv hp
  · have hi := sm_get_lt he hl
    show W p l e R s m args below meth c H locs cells slots Q (F0 m pc ls (.ref (sm_cr b sK i) :: st0.map (sm_cv b sK)))
    rw [sm_cr_lt hi]
    exact va_alen hx hb hK hP i 0 (sm_ws_get he) rfl rfl hd (kk rfl)
  · show W p l e R s m args below meth c H locs cells slots Q (F0 m pc ls (.ref (sm_cr b sK (sm_B + 9)) :: st0.map (sm_cv b sK)))
    rw [sm_cr_hi]
    exact va_slen (A := fun q => b ≤ q) hx hb hXX (Nat.lt_of_lt_of_le hsb hbs) (Nat.not_le.mpr hsb) hS hd (kk rfl)
end SNDH

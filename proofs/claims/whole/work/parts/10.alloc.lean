section SNDA
variable {p : Program} {l : Launch} {e : Env} {R : Room} {s : State} {m : MethodId} {args : Array Value} {below : List Frame} {meth : Method} {c : Code} {H : Heap} {locs : List Loc} {cells slots : Nat} {Q : State → Prop} {pc nL : Nat} {ls : Array Slot}
variable {xs : List Int32} {b : Nat} {sK aV : Nat → Nat} {cid : FieldType → ClassId} {D : va_G} {mi : MI} {st : List Value} {h : HH} {o : List Value × HH}
theorem sm_dfl_V (b : Nat) (sK : Nat → Nat) (ci : Nat) {j : Nat} (hj : j < sm_nf ci) : defaultValue (sm_ty ci j) = vp_V ((sm_dfl ci).map (sm_cv b sK)) j := by
  unfold vp_V sm_dfl
  rw [List.getD_eq_getElem?_getD, List.getElem?_map, List.getElem?_map, List.getElem?_range hj]
  show defaultValue (sm_ty ci j) = sm_cv b sK (defaultValue (sm_ty ci j))
  cases sm_ty ci j <;> rfl
theorem sm_cut {hh : HH} {x : AE} : (hh ++ [x]).length - hh.length = 1 ∧ sm_sz (hh ++ [x]) - sm_sz hh = sm_csz x := by
  constructor
  · simp
  · rw [sm_sz_app]; omega
theorem sm_new_snd (X : sm_Cx xs b sK aV cid D p s m args meth c mi) {idx : Nat} {q : Nat × List Nat} (hq : sm_key sm_NL (mi_cp mi) idx = some q) (hp : sm_new q.1 st h = some o) (hd : decode (mi_cd mi) pc = .ok (.new idx, 3)) (hP : va_P D sm_CL (sm_ws b sK cid h) H) (hS : va_S (fun q => b ≤ q) s.heap H locs) (hsz : b + h.length = s.heap.size + cells)
    (hcR : cells + (o.2.length - h.length) ≤ R.cells) (hsR : slots + (sm_sz o.2 - sm_sz h) ≤ R.slots)
    (kk : ∀ (H' : Heap) (locs' : List Loc), o.2.length ≤ sm_B → sm_gr h o.2 → va_P D sm_CL (sm_ws b sK cid o.2) H' → va_S (fun q => b ≤ q) s.heap H' locs' → W p l e R s m args below meth c H' locs' (cells + (o.2.length - h.length)) (slots + (sm_sz o.2 - sm_sz h)) Q (F0 m (pc + 3) ls (o.1.map (sm_cv b sK)))) : W p l e R s m args below meth c H locs cells slots Q (F0 m pc ls (st.map (sm_cv b sK))) := by
  obtain ⟨hx, hb, hown, hts, -, -, hK, hNe, hAO, hDe, hNo, hCa, hSR, hSS, hXX, hZZ, hsb, hbs⟩ := X
  obtain ⟨C, T, N, hc, h1, h2, h3⟩ := sm_NL_ok hq
  unfold sm_new at hp
  split at hp
  · rename_i hlt
    cases hp
    have hnf : sm_nf q.1 = N := by unfold sm_nf; rw [hc]
    have hcs : sm_csz (.inr (.inr (q.1, sm_dfl q.1))) = N := by unfold sm_csz sm_dfl; simp [hnf]
    obtain ⟨e1, e2⟩ := sm_cut (hh := h) (x := .inr (.inr (q.1, sm_dfl q.1)))
    rw [hcs] at e2
    rw [e1] at hcR
    rw [e2] at hsR
    refine va_new (ci := q.1) (fs := (sm_dfl q.1).map (sm_cv b sK)) (T := T) (N := N) hx hb hts (sm_CL_ok _ _ _ _ hc).1 (sm_ty q.1) (sm_CL_ok _ _ _ _ hc).2.1 hown (hts _ h1) (hts _ h2) (hts _ h3) hK hP (sm_ws_D b sK cid h) hS (fun z hz => Nat.le_trans hbs hz) hc (fun j hj => sm_dfl_V b sK q.1 (by rw [hnf]; exact hj)) hcR hsR hd (fun a H1 hP1 hD1 hS1 => ?_)
    refine sm_W_size (fun hz => ?_)
    have ha := sm_next hP1 hD1 hz hsz
    subst ha
    have hk := kk H1 locs (by simp; omega) (sm_gr_app h _) (by rw [sm_ws_app]; exact hP1) hS1
    rw [e1, e2] at hk
    rw [List.map_cons, show sm_cv b sK (.ref h.length) = .ref (b + h.length) from congrArg Value.ref (sm_cr_lt hlt)] at hk
    exact hk
  · cases hp
theorem sm_cid (hK : va_K D sm_CL (sm_tys cid) s) {k : Nat} {ty : FieldType} {cA : ClassId} (hk : (sm_tys cid)[k]? = some (cid ty, ty)) (hK1 : va_K D sm_CL (sm_tys cid ++ [(cA, ty)]) s) : cA = cid ty := by
  have h1 := (hK.2 k _ hk).2
  have h2 := (hK1.2 4 (cA, ty) rfl).2
  unfold va_RA at h1 h2
  cases ty with
  | object C =>
    obtain ⟨_, _, _, _, _, h3⟩ := h1
    obtain ⟨_, _, _, _, _, h4⟩ := h2
    exact Option.some.inj (h4.symm.trans h3)
  | _ => exact Option.some.inj (h2.symm.trans h1)
theorem sm_rep (n : Nat) : (fun j => (List.replicate n (0 : Int32)).getD j 0) = fun _ => 0 := by
  funext j
  rw [List.getD_eq_getElem?_getD, List.getElem?_replicate]
  split <;> rfl
theorem sm_repq (n : Nat) (f : Nat → Nat) : (fun j => ((List.replicate n (none : Option Nat)).getD j none).map f) = fun _ => none := by
  funext j
  rw [List.getD_eq_getElem?_getD, List.getElem?_replicate]
  split <;> rfl
theorem sm_byt {n : Nat} (k : Nat) (hk : 100000 * k ≤ 536870912) (h : n ≤ 100000) : n * k ≤ 536870912 := Nat.le_trans (Nat.mul_le_mul_right k h) hk
theorem sm_newa_snd (X : sm_Cx xs b sK aV cid D p s m args meth c mi) {t : ArrayType} (hp : sm_newa t st h = some o) (hd : decode (mi_cd mi) pc = .ok (.newarray t, 2)) (hP : va_P D sm_CL (sm_ws b sK cid h) H) (hS : va_S (fun q => b ≤ q) s.heap H locs) (hsz : b + h.length = s.heap.size + cells)
    (hcR : cells + (o.2.length - h.length) ≤ R.cells) (hsR : slots + (sm_sz o.2 - sm_sz h) ≤ R.slots)
    (kk : ∀ (H' : Heap) (locs' : List Loc), o.2.length ≤ sm_B → sm_gr h o.2 → va_P D sm_CL (sm_ws b sK cid o.2) H' → va_S (fun q => b ≤ q) s.heap H' locs' → W p l e R s m args below meth c H' locs' (cells + (o.2.length - h.length)) (slots + (sm_sz o.2 - sm_sz h)) Q (F0 m (pc + 2) ls (o.1.map (sm_cv b sK)))) : W p l e R s m args below meth c H locs cells slots Q (F0 m pc ls (st.map (sm_cv b sK))) := by
  obtain ⟨hx, hb, hown, hts, -, -, hK, hNe, hAO, hDe, hNo, hCa, hSR, hSS, hXX, hZZ, hsb, hbs⟩ := X
  obtain ⟨n, st0, ty, rfl, hty, hn0, hn, hlt, rfl⟩ := sm_newa_inv hp
  obtain ⟨e1, e2⟩ := sm_cut (hh := h) (x := .inl (ty, List.replicate n.toNatClampNeg 0))
  have hcs : sm_csz (.inl (ty, List.replicate n.toNatClampNeg 0)) = n.toNatClampNeg := by simp [sm_csz]
  rw [hcs] at e2
  rw [e1] at hcR
  rw [e2] at hsR
  have hfin : ∀ (k : Nat), (sm_tys cid)[k]? = some (cid ty, ty) → ∀ (a : Nat) (cA : ClassId) (H1 : Heap), va_K D sm_CL (sm_tys cid ++ [(cA, ty)]) s → va_P D sm_CL (sm_ws b sK cid h ++ [(a, .inl (cA, n.toNatClampNeg, .inl (fun _ => 0)))]) H1 → va_D (fun q => b ≤ q) (sm_ws b sK cid h ++ [(a, .inl (cA, n.toNatClampNeg, .inl (fun _ => 0)))]) → va_S (fun q => b ≤ q) s.heap H1 locs → W p l e R s m args below meth c H1 locs (cells + 1) (slots + n.toNatClampNeg) Q (F0 m (pc + 2) ls (.ref a :: st0.map (sm_cv b sK))) := by
    intro k hk a cA H1 hK1 hP1 hD1 hS1
    refine sm_W_size (fun hz => ?_)
    have ha := sm_next hP1 hD1 hz hsz
    subst ha
    have hc := sm_cid hK hk hK1
    subst hc
    have hk := kk H1 locs (by simp; omega) (sm_gr_app h _) (by
      rw [sm_ws_app]
      simp only [sm_ce, List.length_replicate, sm_rep]
      exact hP1) hS1
    rw [e1, e2] at hk
    rw [List.map_cons, show sm_cv b sK (.ref h.length) = .ref (b + h.length) from congrArg Value.ref (sm_cr_lt hlt)] at hk
    exact hk
  cases t
  case int => cases hty; exact va_newa (atype := .int) (ty := .int) hx hb (hts _ sm_ac_int) rfl hK hP (sm_ws_D b sK cid h) hS (fun z hz => Nat.le_trans hbs hz) (a0 := (n.toNatClampNeg, .inl (fun _ => 0))) (fun _ => rfl) hn0 rfl (sm_byt 4 (by decide) hn) hcR hsR hd (hfin 0 rfl)
  case char => cases hty; exact va_newa (atype := .char) (ty := .char) hx hb (hts _ sm_ac_char) rfl hK hP (sm_ws_D b sK cid h) hS (fun z hz => Nat.le_trans hbs hz) (a0 := (n.toNatClampNeg, .inl (fun _ => 0))) (fun _ => rfl) hn0 rfl (sm_byt 2 (by decide) hn) hcR hsR hd (hfin 1 rfl)
  case boolean => cases hty; exact va_newa (atype := .boolean) (ty := .boolean) hx hb (hts _ sm_ac_boolean) rfl hK hP (sm_ws_D b sK cid h) hS (fun z hz => Nat.le_trans hbs hz) (a0 := (n.toNatClampNeg, .inl (fun _ => 0))) (fun _ => rfl) hn0 rfl (sm_byt 1 (by decide) hn) hcR hsR hd (hfin 2 rfl)
  all_goals cases hty
theorem sm_newq_snd (X : sm_Cx xs b sK aV cid D p s m args meth c mi) {idx : Nat} {q : List Nat} (hq : sm_key sm_QL (mi_cp mi) idx = some q) (hp : sm_newq st h = some o) (hd : decode (mi_cd mi) pc = .ok (.anewarray idx, 3)) (hP : va_P D sm_CL (sm_ws b sK cid h) H) (hS : va_S (fun q => b ≤ q) s.heap H locs) (hsz : b + h.length = s.heap.size + cells)
    (hcR : cells + (o.2.length - h.length) ≤ R.cells) (hsR : slots + (sm_sz o.2 - sm_sz h) ≤ R.slots)
    (kk : ∀ (H' : Heap) (locs' : List Loc), o.2.length ≤ sm_B → sm_gr h o.2 → va_P D sm_CL (sm_ws b sK cid o.2) H' → va_S (fun q => b ≤ q) s.heap H' locs' → W p l e R s m args below meth c H' locs' (cells + (o.2.length - h.length)) (slots + (sm_sz o.2 - sm_sz h)) Q (F0 m (pc + 3) ls (o.1.map (sm_cv b sK)))) : W p l e R s m args below meth c H locs cells slots Q (F0 m pc ls (st.map (sm_cv b sK))) := by
  obtain ⟨hx, hb, hown, hts, -, -, hK, hNe, hAO, hDe, hNo, hCa, hSR, hSS, hXX, hZZ, hsb, hbs⟩ := X
  obtain ⟨n, st0, rfl, hn0, hn, hlt, rfl⟩ := sm_newq_inv hp
  obtain ⟨e1, e2⟩ := sm_cut (hh := h) (x := .inr (.inl (List.replicate n.toNatClampNeg none)))
  have hcs : sm_csz (.inr (.inl (List.replicate n.toNatClampNeg none))) = n.toNatClampNeg := by simp [sm_csz]
  rw [hcs] at e2
  rw [e1] at hcR
  rw [e2] at hsR
  refine va_newq hx hb hown (hts _ (sm_QL_ok hq)) hAO hK hP (sm_ws_D b sK cid h) hS (fun z hz => Nat.le_trans hbs hz) hn0 rfl (sm_byt 4 (by decide) hn) hcR hsR hd (fun a cA H1 hK1 hP1 hD1 hS1 => ?_)
  refine sm_W_size (fun hz => ?_)
  have ha := sm_next hP1 hD1 hz hsz
  subst ha
  have hc := sm_cid (k := 3) hK rfl hK1
  subst hc
  have hk := kk H1 locs (by simp; omega) (sm_gr_app h _) (by
    rw [sm_ws_app]
    simp only [sm_ce, List.length_replicate, sm_repq]
    exact hP1) hS1
  rw [e1, e2] at hk
  rw [List.map_cons, show sm_cv b sK (.ref h.length) = .ref (b + h.length) from congrArg Value.ref (sm_cr_lt hlt)] at hk
  exact hk
theorem sm_inst_snd (X : sm_Cx xs b sK aV cid D p s m args meth c mi) {idx : Nat} {q : Nat × List Nat} (hq : sm_key sm_IL (mi_cp mi) idx = some q) (hp : sm_inst q.1 st h = some o) (hd : decode (mi_cd mi) pc = .ok (.instanceof idx, 3)) (hP : va_P D sm_CL (sm_ws b sK cid h) H) (hl : h.length ≤ sm_B)
    (kk : o.2 = h → W p l e R s m args below meth c H locs cells slots Q (F0 m (pc + 3) ls (o.1.map (sm_cv b sK)))) : W p l e R s m args below meth c H locs cells slots Q (F0 m pc ls (st.map (sm_cv b sK))) := by
  obtain ⟨hx, hb, hown, hts, -, -, hK, hNe, hAO, hDe, hNo, hCa, -⟩ := X
  obtain ⟨C, T, N, hc, hlk⟩ := sm_IL_ok hq
  obtain ⟨i, st0, ci, fs, x, rfl, he, hsb, rfl⟩ := sm_inst_inv hp
  have hi := sm_get_lt he hl
  show W p l e R s m args below meth c H locs cells slots Q (F0 m pc ls (.ref (sm_cr b sK i) :: st0.map (sm_cv b sK)))
  rw [sm_cr_lt hi]
  rcases sm_sub_inv hsb with ⟨rfl, rfl⟩ | ⟨h1, rfl⟩ | ⟨rfl, z, hz, ⟨T1, N1, hc1⟩, ⟨T2, N2, hc2⟩⟩
  · exact va_instE hx hb hown (hts _ hlk) (va_recv hK hP hc (sm_ws_get he)) hd (kk rfl)
  · rcases h1 with ⟨rfl, h1⟩ | ⟨rfl, h1⟩
    · rw [h1] at hc
      cases hc
      exact va_instY hx hb hown (hts _ hlk) hCa.1 (va_recv (q := (RX1, TX1, 0)) hK hP rfl (sm_ws_get he)) hd (kk rfl)
    · rw [h1] at hc
      cases hc
      exact va_instY hx hb hown (hts _ hlk) hCa.2 (va_recv (q := (RX4, TX4, 0)) hK hP rfl (sm_ws_get he)) hd (kk rfl)
  · rw [hc2] at hc
    cases hc
    exact va_instNo hx hb hown (hts _ hlk) (hNo _ hz) (va_recv hK hP hc1 (sm_ws_get he)) hd (kk rfl)
end SNDA

theorem sm_cal_inv {C : CR} {m : MI} {y : Nat} {as rest : List Value} {h : HH} {o : List Value × HH} (e : sm_cal C m y as rest h = some o) : ∃ (k : MI) (r : Option Value) (h' : HH), sm_MT[y]? = some k ∧ mi_fr k + 1 ≤ mi_fr m ∧ 8 + (mi_ml k + 11) + mi_lo k ≤ mi_lo m ∧ (rest.map fun v => v.category).sum ≤ 8 ∧ C y as h = some (r, h') ∧ o = (r.toList ++ rest, h') := by
  unfold sm_cal at e
  split at e
  · rename_i k hk
    split at e
    · rename_i hc
      split at e
      · rename_i r h' hr
        cases e
        exact ⟨k, r, h', hk, hc.1, hc.2.1, hc.2.2, hr, rfl⟩
      · cases e
    · cases e
  · cases e
section SNDI
variable {p : Program} {l : Launch} {e : Env} {R : Room} {s : State} {m : MethodId} {args : Array Value} {below : List Frame} {meth : Method} {c : Code} {H : Heap} {locs : List Loc} {cells slots : Nat} {Q : State → Prop} {pc nL : Nat} {ls : Array Slot}
variable {xs : List Int32} {b : Nat} {sK aV : Nat → Nat} {cid : FieldType → ClassId} {D : va_G} {mi : MI} {st : List Value} {h : HH} {o : List Value × HH}
theorem sm_fin_call {r : Option Value} {h' : HH} {rest : List Value} {a : Array Value} (hg : sm_gr h h') (hl' : h'.length ≤ sm_B) (hr : H.size = b + h.length → va_Run p l e R s m args below meth c H locs cells slots (h'.length - h.length) (sm_sz h' - sm_sz h) (F0 m pc ls (st.map (sm_cv b sK))) (rest.map (sm_cv b sK)) (sm_Qc b sK cid D r h' a) (fun q => b ≤ q)) (hP : va_P D sm_CL (sm_ws b sK cid h) H) (hS : va_S (fun q => b ≤ q) s.heap H locs) (hbs : b ≤ s.heap.size) (hsz : b + h.length = s.heap.size + cells)
    (kk : ∀ (H' : Heap) (locs' : List Loc), h'.length ≤ sm_B → sm_gr h h' → va_P D sm_CL (sm_ws b sK cid h') H' → va_S (fun q => b ≤ q) s.heap H' locs' → W p l e R s m args below meth c H' locs' (cells + (h'.length - h.length)) (slots + (sm_sz h' - sm_sz h)) Q (F0 m (pc + 3) ls ((r.toList ++ rest).map (sm_cv b sK)))) : W p l e R s m args below meth c H locs cells slots Q (F0 m pc ls (st.map (sm_cv b sK))) := by
  refine sm_full hP hS hbs hsz (fun hH => ?_)
  refine sm_call_W (hr hH) hS (fun H1 locs1 hP1 hS1 => ?_)
  have hk := kk H1 locs1 hl' hg hP1 hS1
  rw [List.map_append] at hk
  have e1 : (r.map (sm_cv b sK)).toList = r.toList.map (sm_cv b sK) := by cases r <;> rfl
  rw [e1]
  exact hk
theorem sm_cut_st (n : Nat) : st.map (sm_cv b sK) = ((st.take n).reverse.map (sm_cv b sK)).reverse ++ (st.drop n).map (sm_cv b sK) := by
  rw [List.map_reverse, List.reverse_reverse, ← List.map_append, List.take_append_drop]
theorem sm_sta_snd {C : CR} (IH : ∀ (y : Nat) (as : List Value) (h : HH) (r : Option Value) (h' : HH), h.length ≤ sm_B → C y as h = some (r, h') → sm_Kt xs y as h r h') (X : sm_Cx xs b sK aV cid D p s m args meth c mi) {idx : Nat} {q : Nat × Nat × Nat × List Nat} (hq : sm_key sm_SL (mi_cp mi) idx = some q) (hp : sm_sta C mi q st h = some o) (hd : decode (mi_cd mi) pc = .ok (.invokestatic idx, 3)) (hP : va_P D sm_CL (sm_ws b sK cid h) H) (hS : va_S (fun q => b ≤ q) s.heap H locs) (hl : h.length ≤ sm_B) (hsz : b + h.length = s.heap.size + cells)
    (hRf : mi_fr mi ≤ R.frames) (hRl : mi_lo mi ≤ R.locals) (hls : ls.size = mi_ml mi) (hcR : cells + (o.2.length - h.length) ≤ R.cells) (hsR : slots + (sm_sz o.2 - sm_sz h) ≤ R.slots)
    (kk : ∀ (H' : Heap) (locs' : List Loc), o.2.length ≤ sm_B → sm_gr h o.2 → va_P D sm_CL (sm_ws b sK cid o.2) H' → va_S (fun q => b ≤ q) s.heap H' locs' → W p l e R s m args below meth c H' locs' (cells + (o.2.length - h.length)) (slots + (sm_sz o.2 - sm_sz h)) Q (F0 m (pc + 3) ls (o.1.map (sm_cv b sK)))) : W p l e R s m args below meth c H locs cells slots Q (F0 m pc ls (st.map (sm_cv b sK))) := by
  obtain ⟨hx, hb, hown, hts, hnm, hml, hE⟩ := id X
  have hbs := hE.2.2.2.2.2.2.2.2.2.2.2
  unfold sm_sta at hp
  split at hp
  · rename_i hlen
    obtain ⟨k, r, h', hk, hfr, hlo, hsum, hC, rfl⟩ := sm_cal_inv hp
    obtain ⟨hg, hl', hM⟩ := IH _ _ _ _ _ hl hC k hk
    have hM := hM l D b sK aV cid
    have h1 := List.all_eq_true.mp sm_SL_all _ (sm_key_mem hq)
    unfold sm_SLc at h1
    dsimp only at h1
    rw [hk] at h1
    have hal : ((st.take q.1).reverse.map (sm_cv b sK)).length = q.1 := by simp; omega
    have hW8 : ((st.drop q.1).map (sm_cv b sK) |>.map fun v => v.category).sum ≤ 8 := by rw [sm_cat_sum]; exact hsum
    split at h1
    · rename_i k0 i0 i1 i2 i3 hk0 hq1 hq2
      cases hk0
      simp only [Bool.and_eq_true] at h1
      obtain ⟨w0, w1, w2, w3, w4, w5⟩ := h1
      have hcw := sm_code_in hk (of_decide_eq_true w3)
      refine sm_fin_call hg hl' (fun hH => va_runS (n := q.1) ⟨hx, hb, hml, hown, hts⟩ hM ⟨⟨rfl, rfl, Nat.le_trans hfr hRf, Nat.le_trans hlo hRl, sm_pays hts hcw, List.mem_cons_self, hts _ hcw, hts _ (sm_at_mem w2), sm_nmh_ok w4, sm_npar_ok w5, hts _ (sm_at_mem w0)⟩, hts _ (sm_at_mem w1)⟩ ⟨sm_Pc_blind _ _ _ _ _ _ _ _, sm_pre X hP hS hl hH⟩ rfl hal hls (sm_cut_st q.1) (lv_room hW8) hd ⟨hcR, hsR⟩) hP hS hbs hsz kk
    · rename_i k0 i0 i1 i2 i3 hk0 hq1 hq2
      cases hk0
      simp only [Bool.and_eq_true] at h1
      obtain ⟨w0, w1, w2, w3, w4, w5⟩ := h1
      have hcw := sm_code_in hk (of_decide_eq_true w3)
      have hne := va_Nw.use (A := args) rfl (hE.2.1 _ (of_decide_eq_true w0))
      refine sm_fin_call hg hl' (fun hH => va_runSN (n := q.1) ⟨hx, hb, hml, hown, hts⟩ hM ⟨⟨⟨rfl, rfl, Nat.le_trans hfr hRf, Nat.le_trans hlo hRl, sm_pays hts hcw, List.mem_cons_self⟩, hts _ hcw, hts _ (sm_at_mem w2), sm_nmh_ok w4, sm_npar_ok w5, hne⟩, hts _ (sm_at_mem w1), trivial⟩ ⟨sm_Pc_blind _ _ _ _ _ _ _ _, sm_pre X hP hS hl hH⟩ rfl hal hls (sm_cut_st q.1) (lv_room hW8) hd ⟨hcR, hsR⟩) hP hS hbs hsz kk
    · cases h1
  · cases hp
theorem sm_cut_st1 {n i : Nat} {rest : List Value} (hd : st.drop n = .ref i :: rest) : st.map (sm_cv b sK) = ((st.take n).reverse.map (sm_cv b sK)).reverse ++ .ref (sm_cr b sK i) :: rest.map (sm_cv b sK) := by
  rw [sm_cut_st n, hd]
  rfl
theorem sm_spc_snd {C : CR} (IH : ∀ (y : Nat) (as : List Value) (h : HH) (r : Option Value) (h' : HH), h.length ≤ sm_B → C y as h = some (r, h') → sm_Kt xs y as h r h') (X : sm_Cx xs b sK aV cid D p s m args meth c mi) {idx : Nat} {q : Nat × Nat × Nat × List Nat} (hq : sm_key sm_PL (mi_cp mi) idx = some q) (hp : sm_spc C mi q st h = some o) (hd : decode (mi_cd mi) pc = .ok (.invokespecial idx, 3)) (hP : va_P D sm_CL (sm_ws b sK cid h) H) (hS : va_S (fun q => b ≤ q) s.heap H locs) (hl : h.length ≤ sm_B) (hsz : b + h.length = s.heap.size + cells)
    (hRf : mi_fr mi ≤ R.frames) (hRl : mi_lo mi ≤ R.locals) (hls : ls.size = mi_ml mi) (hcR : cells + (o.2.length - h.length) ≤ R.cells) (hsR : slots + (sm_sz o.2 - sm_sz h) ≤ R.slots)
    (kk : ∀ (H' : Heap) (locs' : List Loc), o.2.length ≤ sm_B → sm_gr h o.2 → va_P D sm_CL (sm_ws b sK cid o.2) H' → va_S (fun q => b ≤ q) s.heap H' locs' → W p l e R s m args below meth c H' locs' (cells + (o.2.length - h.length)) (slots + (sm_sz o.2 - sm_sz h)) Q (F0 m (pc + 3) ls (o.1.map (sm_cv b sK)))) : W p l e R s m args below meth c H locs cells slots Q (F0 m pc ls (st.map (sm_cv b sK))) := by
  obtain ⟨hx, hb, hown, hts, hnm, hml, hE⟩ := id X
  have hbs := hE.2.2.2.2.2.2.2.2.2.2.2
  unfold sm_spc at hp
  split at hp
  · rename_i hlen
    split at hp
    · rename_i i rest hdr
      obtain ⟨k, r, h', hk, hfr, hlo, hsum, hC, rfl⟩ := sm_cal_inv hp
      obtain ⟨hg, hl', hM⟩ := IH _ _ _ _ _ hl hC k hk
      have hM := hM l D b sK aV cid
      have h1 := List.all_eq_true.mp sm_PL_all _ (sm_key_mem hq)
      unfold sm_PLc at h1
      dsimp only at h1
      rw [hk] at h1
      have hal : ((st.take q.1).reverse.map (sm_cv b sK)).length = q.1 := by simp; omega
      have hW8 : (rest.map (sm_cv b sK) |>.map fun v => v.category).sum ≤ 8 := by rw [sm_cat_sum]; exact hsum
      split at h1
      · rename_i k0 i0 i1 i2 i3 hk0 hq1 hq2
        cases hk0
        simp only [Bool.and_eq_true] at h1
        obtain ⟨w0, w1, w2, w3, w4, w5, w6, w7⟩ := h1
        have hcw := sm_code_in hk (of_decide_eq_true w3)
        have hrt := of_decide_eq_true w7
        have hcw2 : Cond.code (mi_nm k) (mi_cd k) (mi_ml k) none ∈ sm_GG := by rw [← hrt]; exact hcw
        have hcw3 : Cond.code (mi_nm k) (mi_cd k) (mi_ml k) none ∈ sm_wk k := by rw [← hrt]; exact List.mem_cons_self
        refine sm_fin_call hg hl' (fun hH => va_runI (n := q.1) (As := (st.take q.1).reverse.map (sm_cv b sK)) ⟨hx, hb, hml, hown, hts⟩ hM ⟨⟨rfl, rfl, Nat.le_trans hfr hRf, Nat.le_trans hlo hRl, sm_pays hts hcw, hcw3, hts _ hcw2, hts _ (sm_at_mem w2), sm_nmh_ok w4, sm_npar_ok w5, hts _ (sm_at_mem w0)⟩, of_decide_eq_true w6, hts _ (sm_at_mem w1)⟩ ⟨sm_Pc_blind _ _ _ _ _ _ _ _, sm_pre (as := .ref i :: (st.take q.1).reverse) X hP hS hl hH⟩ rfl hal hls (sm_cut_st1 hdr) (lv_room hW8) hd ⟨hcR, hsR⟩) hP hS hbs hsz kk
      · rename_i k0 i0 i1 i2 i3 hk0 hq1 hq2
        cases hk0
        simp only [Bool.and_eq_true] at h1
        obtain ⟨w0, w1, w2, w3, w4, w5, w6, w7⟩ := h1
        have hcw := sm_code_in hk (of_decide_eq_true w3)
        have hrt := of_decide_eq_true w7
        have hcw2 : Cond.code (mi_nm k) (mi_cd k) (mi_ml k) none ∈ sm_GG := by rw [← hrt]; exact hcw
        have hcw3 : Cond.code (mi_nm k) (mi_cd k) (mi_ml k) none ∈ sm_wk k := by rw [← hrt]; exact List.mem_cons_self
        have hne := va_Nw.use (A := args) rfl (hE.2.1 _ (of_decide_eq_true w0))
        refine sm_fin_call hg hl' (fun hH => va_runIN (n := q.1) (As := (st.take q.1).reverse.map (sm_cv b sK)) ⟨hx, hb, hml, hown, hts⟩ hM ⟨⟨⟨rfl, rfl, Nat.le_trans hfr hRf, Nat.le_trans hlo hRl, sm_pays hts hcw, hcw3⟩, hts _ hcw2, hts _ (sm_at_mem w2), sm_nmh_ok w4, sm_npar_ok w5, hne⟩, of_decide_eq_true w6, hts _ (sm_at_mem w1)⟩ ⟨sm_Pc_blind _ _ _ _ _ _ _ _, sm_pre (as := .ref i :: (st.take q.1).reverse) X hP hS hl hH⟩ rfl hal hls (sm_cut_st1 hdr) (lv_room hW8) hd ⟨hcR, hsR⟩) hP hS hbs hsz kk
      · cases h1
    · cases hp
  · cases hp
theorem sm_cls_inv {i cI : Nat} (e : sm_cls h i = some cI) : ∃ fs, h[i]? = some (.inr (.inr (cI, fs))) := by
  unfold sm_cls at e
  split at e
  · rename_i he; cases e; exact ⟨_, he⟩
  · cases e
end SNDI

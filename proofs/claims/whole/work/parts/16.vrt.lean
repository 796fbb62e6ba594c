section SNDV
variable {p : Program} {l : Launch} {e : Env} {R : Room} {s : State} {m : MethodId} {args : Array Value} {below : List Frame} {meth : Method} {c : Code} {H : Heap} {locs : List Loc} {cells slots : Nat} {Q : State → Prop} {pc nL : Nat} {ls : Array Slot}
variable {xs : List Int32} {b : Nat} {sK aV : Nat → Nat} {cid : FieldType → ClassId} {D : va_G} {mi : MI} {st : List Value} {h : HH} {o : List Value × HH}
theorem sm_vrt_snd {C : CR} (IH : ∀ (y : Nat) (as : List Value) (h : HH) (r : Option Value) (h' : HH), h.length ≤ sm_B → C y as h = some (r, h') → sm_Kt xs y as h r h') (X : sm_Cx xs b sK aV cid D p s m args meth c mi) {idx : Nat} {q : Nat × MethodName × List (Nat × Nat × Nat × List Nat)} (hq : sm_key sm_VL (mi_cp mi) idx = some q) (hp : sm_vrt C mi q st h = some o) (hd : decode (mi_cd mi) pc = .ok (.invokevirtual idx, 3)) (hP : va_P D sm_CL (sm_ws b sK cid h) H) (hS : va_S (fun q => b ≤ q) s.heap H locs) (hl : h.length ≤ sm_B) (hsz : b + h.length = s.heap.size + cells)
    (hRf : mi_fr mi ≤ R.frames) (hRl : mi_lo mi ≤ R.locals) (hls : ls.size = mi_ml mi) (hcR : cells + (o.2.length - h.length) ≤ R.cells) (hsR : slots + (sm_sz o.2 - sm_sz h) ≤ R.slots)
    (kk : ∀ (H' : Heap) (locs' : List Loc), o.2.length ≤ sm_B → sm_gr h o.2 → va_P D sm_CL (sm_ws b sK cid o.2) H' → va_S (fun q => b ≤ q) s.heap H' locs' → W p l e R s m args below meth c H' locs' (cells + (o.2.length - h.length)) (slots + (sm_sz o.2 - sm_sz h)) Q (F0 m (pc + 3) ls (o.1.map (sm_cv b sK)))) : W p l e R s m args below meth c H locs cells slots Q (F0 m pc ls (st.map (sm_cv b sK))) := by
  obtain ⟨hx, hb, hown, hts, hnm, hml, hE⟩ := id X
  have hbs := hE.2.2.2.2.2.2.2.2.2.2.2
  have hK := hE.1
  unfold sm_vrt at hp
  split at hp
  · rename_i hlen
    split at hp
    · rename_i i rest hdr
      split at hp
      · rename_i ci hci
        split at hp
        · rename_i en hen
          obtain ⟨k, r, h', hk, hfr, hlo, hsum, hC, rfl⟩ := sm_cal_inv hp
          obtain ⟨hg, hl', hM⟩ := IH _ _ _ _ _ hl hC k hk
          have hM := hM l D b sK aV cid
          obtain ⟨fs, he⟩ := sm_cls_inv hci
          have hi := sm_get_lt he hl
          have hec := List.find?_some hen
          rw [beq_iff_eq] at hec
          have h0 := List.all_eq_true.mp sm_VL_all _ (sm_key_mem hq)
          have h1 := List.all_eq_true.mp h0 _ (List.mem_of_find?_eq_some hen)
          dsimp only at h1
          unfold sm_VLe at h1
          rw [hec, hk] at h1
          have hal : ((st.take q.1).reverse.map (sm_cv b sK)).length = q.1 := by simp; omega
          have hW8 : (rest.map (sm_cv b sK) |>.map fun v => v.category).sum ≤ 8 := by rw [sm_cat_sum]; exact hsum
          have hcr := sm_cr_lt (b := b) (sK := sK) hi
          split at h1
          · rename_i rc k0 i0 i1 i2 i3 i4 hrc hk0 hq1 hq2
            cases hk0
            simp only [Bool.and_eq_true] at h1
            obtain ⟨w0, w1, w2, w3, w4, w5, w6, w7⟩ := h1
            have hy := of_decide_eq_true w7
            have hcw := sm_code_in hk (of_decide_eq_true w4)
            rw [← hy] at w0 w1 w2 w3 w5 w6
            refine sm_fin_call hg hl' (fun hH => va_runV (n := q.1) (C := rc.1) (b := sm_cr b sK i) (As := (st.take q.1).reverse.map (sm_cv b sK)) ⟨hx, hb, hml, hown, hts⟩ hM ⟨⟨rfl, rfl, Nat.le_trans hfr hRf, Nat.le_trans hlo hRl, sm_pays hts hcw, List.mem_cons_self, hts _ hcw, hts _ (sm_at_mem w3), sm_nmh_ok w5, sm_npar_ok w6, hts _ (sm_at_mem w0)⟩, hts _ (sm_at_mem w1), hts _ (sm_at_mem w2)⟩ ⟨sm_Pc_blind _ _ _ _ _ _ _ _, by rw [hcr]; exact va_recv hK hP hrc (sm_ws_get he), sm_pre (as := .ref i :: (st.take q.1).reverse) X hP hS hl hH⟩ rfl hal hls (sm_cut_st1 hdr) (lv_room hW8) hd ⟨hcR, hsR⟩) hP hS hbs hsz kk
          · rename_i rc k0 i0 i1 i2 i3 i4 i5 hrc hk0 hq1 hq2
            cases hk0
            simp only [Bool.and_eq_true] at h1
            obtain ⟨w0, w1, w2, w3, w4, w5, w6, w7, w8⟩ := h1
            have hy := of_decide_eq_true w8
            have hcw := sm_code_in hk (of_decide_eq_true w5)
            have hdecl : va_Decl s q.2.1 := by rw [← hy]; exact va_Decl.of (hts _ (sm_at_mem w3)) (hts _ hcw)
            refine sm_fin_call hg hl' (fun hH => va_runU (n := q.1) (C := rc.1) (owner := q.2.1.cls) (x := q.2.1) (b := sm_cr b sK i) (As := (st.take q.1).reverse.map (sm_cv b sK)) ⟨hx, hb, hml, hown, hts⟩ hM ⟨⟨rfl, rfl, Nat.le_trans hfr hRf, Nat.le_trans hlo hRl, sm_pays hts hcw, List.mem_cons_self⟩, hts _ hcw, hts _ (sm_at_mem w4), sm_nmh_ok w6, sm_npar_ok w7, hts _ (sm_at_mem w0), hts _ (sm_at_mem w1), hdecl, hts _ (sm_at_mem w2), hts _ (sm_at_mem w3)⟩ ⟨sm_Pc_blind _ _ _ _ _ _ _ _, by rw [hcr]; exact va_recv hK hP hrc (sm_ws_get he), sm_pre (as := .ref i :: (st.take q.1).reverse) X hP hS hl hH⟩ rfl hal hls (sm_cut_st1 hdr) (lv_room hW8) hd ⟨hcR, hsR⟩) hP hS hbs hsz kk
          · rename_i rc k0 i0 i1 i2 i3 i4 i5 i6 i7 hrc hk0 hq1 hq2
            cases hk0
            simp only [Bool.and_eq_true] at h1
            obtain ⟨w0, w1, w2, w3, w4, w5, w6, w7, w8, w9⟩ := h1
            have hcw := sm_code_in hk (of_decide_eq_true w5)
            have hdecl : va_Decl s q.2.1 := by
              split at w9
              · rename_i x' y1 y2 y3 hx'
                have hxx := of_decide_eq_true w9
                subst hxx
                exact va_Decl.of (hts _ (sm_at_mem w8)) (hts _ (List.mem_filter.mpr ⟨List.mem_of_getElem? hx', rfl⟩))
              · cases w9
            refine sm_fin_call hg hl' (fun hH => va_runU (n := q.1) (C := rc.1) (owner := q.2.1.cls) (x := q.2.1) (b := sm_cr b sK i) (As := (st.take q.1).reverse.map (sm_cv b sK)) ⟨hx, hb, hml, hown, hts⟩ hM ⟨⟨rfl, rfl, Nat.le_trans hfr hRf, Nat.le_trans hlo hRl, sm_pays hts hcw, List.mem_cons_self⟩, hts _ hcw, hts _ (sm_at_mem w4), sm_nmh_ok w6, sm_npar_ok w7, hts _ (sm_at_mem w0), hts _ (sm_at_mem w1), hdecl, hts _ (sm_at_mem w2), hts _ (sm_at_mem w3)⟩ ⟨sm_Pc_blind _ _ _ _ _ _ _ _, by rw [hcr]; exact va_recv hK hP hrc (sm_ws_get he), sm_pre (as := .ref i :: (st.take q.1).reverse) X hP hS hl hH⟩ rfl hal hls (sm_cut_st1 hdr) (lv_room hW8) hd ⟨hcR, hsR⟩) hP hS hbs hsz kk
          · rename_i rc k0 i0 i1 i2 i3 i4 i5 hrc hk0 hq1 hq2
            cases hk0
            simp only [Bool.and_eq_true] at h1
            obtain ⟨w0, w1, w2, w3, w4, w5, w6, w7, w8⟩ := h1
            have hy := of_decide_eq_true w8
            have hcw := sm_code_in hk (of_decide_eq_true w5)
            have hdecl : va_Decl s q.2.1 := by rw [hy]; exact va_Decl.abs hE.2.2.2.1
            refine sm_fin_call hg hl' (fun hH => va_runU (n := q.1) (C := rc.1) (owner := q.2.1.cls) (x := q.2.1) (b := sm_cr b sK i) (As := (st.take q.1).reverse.map (sm_cv b sK)) ⟨hx, hb, hml, hown, hts⟩ hM ⟨⟨rfl, rfl, Nat.le_trans hfr hRf, Nat.le_trans hlo hRl, sm_pays hts hcw, List.mem_cons_self⟩, hts _ hcw, hts _ (sm_at_mem w4), sm_nmh_ok w6, sm_npar_ok w7, hts _ (sm_at_mem w0), hts _ (sm_at_mem w1), hdecl, hts _ (sm_at_mem w2), hts _ (sm_at_mem w3)⟩ ⟨sm_Pc_blind _ _ _ _ _ _ _ _, by rw [hcr]; exact va_recv hK hP hrc (sm_ws_get he), sm_pre (as := .ref i :: (st.take q.1).reverse) X hP hS hl hH⟩ rfl hal hls (sm_cut_st1 hdr) (lv_room hW8) hd ⟨hcR, hsR⟩) hP hS hbs hsz kk
          · cases h1
        · cases hp
      · cases hp
    · cases hp
  · cases hp
-- Object's constructor, arraycopy
def sm_OIc (q : Nat × Nat × List Nat) : Bool := match q.2.2 with
  | [i, j, k] => sm_at i (.methodLink (sm_cpn q.1) q.2.1 objectInit) && (sm_at j (.instanceMethod objectInit) && sm_at k (.code objectInit ⟨#[0xb1]⟩ 1 none))
  | _ => false
theorem sm_OI_all : sm_OI.all sm_OIc = true := by decide +kernel
def sm_ACc (q : Nat × Nat × List Nat) : Bool := match q.2.2 with
  | [i, j, k, n] => sm_at i (.methodLink (sm_cpn q.1) q.2.1 arraycopyName) && (sm_at j (.native arraycopyName) && (sm_at k (.static arraycopyName) && sm_at n (.initialized "java/lang/System")))
  | _ => false
theorem sm_AC_all : sm_AC.all sm_ACc = true := by decide +kernel
theorem sm_obj_snd (X : sm_Cx xs b sK aV cid D p s m args meth c mi) {idx : Nat} {q : List Nat} (hq : sm_key sm_OI (mi_cp mi) idx = some q) (hr : 1 ≤ mi_fr mi ∧ 60 ≤ mi_lo mi) (hp : sm_obj st h = some o) (hd : decode (mi_cd mi) pc = .ok (.invokespecial idx, 3)) (hRf : mi_fr mi ≤ R.frames) (hRl : mi_lo mi ≤ R.locals) (hls : ls.size = mi_ml mi)
    (kk : o.2 = h → W p l e R s m args below meth c H locs cells slots Q (F0 m (pc + 3) ls (o.1.map (sm_cv b sK)))) : W p l e R s m args below meth c H locs cells slots Q (F0 m pc ls (st.map (sm_cv b sK))) := by
  obtain ⟨hx, hb, hown, hts, hnm, hml, hE⟩ := id X
  have h1 := List.all_eq_true.mp sm_OI_all _ (sm_key_mem hq)
  unfold sm_OIc at h1
  dsimp only at h1
  split at h1
  · simp only [Bool.and_eq_true] at h1
    obtain ⟨w0, w1, w2⟩ := h1
    unfold sm_obj at hp
    split at hp
    · split at hp
      · rename_i a st0 hsum
        cases hp
        exact W.objInit hx hb hown (hts _ (sm_at_mem w0)) (hts _ (sm_at_mem w1)) (hts _ (sm_at_mem w2)) rfl (hls.trans hml.symm) rfl hd (Nat.le_trans hr.1 hRf) (by
          have h2 := lv_room (m := m) (pc := pc) (ls := ls) (rest := (Value.ref a :: st0).map (sm_cv b sK)) (st := st0.map (sm_cv b sK)) (by rw [sm_cat_sum]; exact hsum)
          have h3 := Nat.le_trans hr.2 hRl
          omega) (kk rfl)
      · cases hp
    · cases hp
  · cases h1
theorem sm_mat_inv {k : Nat} (e : sm_mat k st h = some o) : (k = 0 ∧ ∃ (x y : Int32) (st0 : List Value), st = .int y :: .int x :: st0 ∧ (st0.map fun v => v.category).sum ≤ 8 ∧ o = (.int (if x < y then y else x) :: st0, h)) ∨ (k = 1 ∧ ∃ (x y : Int32) (st0 : List Value), st = .int y :: .int x :: st0 ∧ (st0.map fun v => v.category).sum ≤ 8 ∧ o = (.int (if y < x then y else x) :: st0, h)) ∨ (k = 2 ∧ ∃ (x : Int64) (st0 : List Value), st = .long x :: st0 ∧ (st0.map fun v => v.category).sum ≤ 8 ∧ o = (.long (if 0 < x then x else -x) :: st0, h)) := by
  unfold sm_mat at e
  split at e
  · split at e
    · rename_i hs; cases e; exact Or.inl ⟨rfl, _, _, _, rfl, hs, rfl⟩
    · cases e
  · split at e
    · rename_i hs; cases e; exact Or.inr (Or.inl ⟨rfl, _, _, _, rfl, hs, rfl⟩)
    · cases e
  · split at e
    · rename_i hs; cases e; exact Or.inr (Or.inr ⟨rfl, _, _, rfl, hs, rfl⟩)
    · cases e
  · cases e
def sm_MAc (q : Nat × Nat × Nat × List Nat) : Bool := match q.2.2.1, q.2.2.2 with
  | 0, [i, j, k, n] => sm_at i (.methodLink (sm_cpn q.1) q.2.1 Lib.Math.max.name) && (sm_at j (.static Lib.Math.max.name) && (sm_at k (.initialized "java/lang/Math") && sm_at n (.code Lib.Math.max.name Lib.Math.max.code 2 (some .int))))
  | 1, [i, j, k, n] => sm_at i (.methodLink (sm_cpn q.1) q.2.1 Lib.Math.min.name) && (sm_at j (.static Lib.Math.min.name) && (sm_at k (.initialized "java/lang/Math") && sm_at n (.code Lib.Math.min.name Lib.Math.min.code 2 (some .int))))
  | 2, [i, j, k, n] => sm_at i (.methodLink (sm_cpn q.1) q.2.1 Lib.MathLoose.abs_long.x) && (sm_at j (.static Lib.MathLoose.abs_long.x) && (sm_at k (.initialized "java/lang/Math") && sm_at n (.code Lib.MathLoose.abs_long.x Lib.MathLoose.abs_long.code 2 (some .long))))
  | _, _ => false
theorem sm_MA_all : sm_MA.all sm_MAc = true := by decide +kernel
theorem sm_mat_snd (X : sm_Cx xs b sK aV cid D p s m args meth c mi) {idx : Nat} {q : Nat × List Nat} (hq : sm_key sm_MA (mi_cp mi) idx = some q) (hr : 1 ≤ mi_fr mi ∧ 60 ≤ mi_lo mi) (hp : sm_mat q.1 st h = some o) (hd : decode (mi_cd mi) pc = .ok (.invokestatic idx, 3)) (hRf : mi_fr mi ≤ R.frames) (hRl : mi_lo mi ≤ R.locals) (hls : ls.size = mi_ml mi) (hc : cells ≤ R.cells) (hs : slots ≤ R.slots)
    (kk : o.2 = h → W p l e R s m args below meth c H locs cells slots Q (F0 m (pc + 3) ls (o.1.map (sm_cv b sK)))) : W p l e R s m args below meth c H locs cells slots Q (F0 m pc ls (st.map (sm_cv b sK))) := by
  obtain ⟨hx, hb, hown, hts, hnm, hml, hE⟩ := id X
  have h1 := List.all_eq_true.mp sm_MA_all _ (sm_key_mem hq)
  have h3 := Nat.le_trans hr.2 hRl
  unfold sm_MAc at h1
  dsimp only at h1
  rcases sm_mat_inv hp with ⟨hk, x, y, st0, rfl, hsum, rfl⟩ | ⟨hk, x, y, st0, rfl, hsum, rfl⟩ | ⟨hk, x, st0, rfl, hsum, rfl⟩
  · rw [hk] at h1
    split at h1
    · simp only [Bool.and_eq_true] at h1
      obtain ⟨w0, w1, w2, w3⟩ := h1
      exact va_mmax hx hb (hml.trans hls.symm) hown (hts _ (sm_at_mem w0)) (hts _ (sm_at_mem w1)) (hts _ (sm_at_mem w2)) (hts _ (sm_at_mem w3)) (Nat.le_trans hr.1 hRf) (by rw [sm_cat_sum]; omega) hc hs hd (kk rfl)
    · rename_i hz _; cases hz
    · rename_i hz _; cases hz
    · cases h1
  · rw [hk] at h1
    split at h1
    · rename_i hz _; cases hz
    · simp only [Bool.and_eq_true] at h1
      obtain ⟨w0, w1, w2, w3⟩ := h1
      exact va_mmin hx hb (hml.trans hls.symm) hown (hts _ (sm_at_mem w0)) (hts _ (sm_at_mem w1)) (hts _ (sm_at_mem w2)) (hts _ (sm_at_mem w3)) (Nat.le_trans hr.1 hRf) (by rw [sm_cat_sum]; omega) hc hs hd (kk rfl)
    · rename_i hz _; cases hz
    · cases h1
  · rw [hk] at h1
    split at h1
    · rename_i hz _; cases hz
    · rename_i hz _; cases hz
    · simp only [Bool.and_eq_true] at h1
      obtain ⟨w0, w1, w2, w3⟩ := h1
      exact va_mabs_long hx hb (hml.trans hls.symm) hown (hts _ (sm_at_mem w0)) (hts _ (sm_at_mem w1)) (hts _ (sm_at_mem w2)) (hts _ (sm_at_mem w3)) (Nat.le_trans hr.1 hRf) (by rw [sm_cat_sum]; omega) hc hs hd (kk rfl)
    · cases h1
theorem sm_cpy_len (f g : List Int32) (sp dp n : Nat) : (sm_cpy f g sp dp n).length = g.length := by unfold sm_cpy; simp
theorem sm_cpy_eq {f g : List Int32} {sp dp n : Nat} (hn : dp + n ≤ g.length) : va_cpy (fun q => f.getD q 0) (fun q => g.getD q 0) sp dp n = fun q => (sm_cpy f g sp dp n).getD q 0 := by
  funext k
  unfold va_cpy sm_cpy
  rw [List.getD_eq_getElem?_getD (l := g.mapIdx _), List.getElem?_mapIdx]
  cases hg : g[k]? with
  | none =>
    have hk : g.length ≤ k := List.getElem?_eq_none_iff.mp hg
    rw [if_neg (by omega)]
    simp [List.getD_eq_getElem?_getD, hg]
  | some y =>
    show (if dp ≤ k ∧ k < dp + n then f.getD (sp + (k - dp)) 0 else g.getD k 0) = if dp ≤ k ∧ k < dp + n then f.getD (sp + (k - dp)) 0 else y
    simp only [List.getD_eq_getElem?_getD, hg, Option.getD_some]
theorem sm_nfw : nativeFrameWords "java/lang/System" "arraycopy" 5 ≤ 41 := by decide +kernel
theorem sm_acp_snd (X : sm_Cx xs b sK aV cid D p s m args meth c mi) {idx : Nat} {q : List Nat} (hq : sm_key sm_AC (mi_cp mi) idx = some q) (hr : 1 ≤ mi_fr mi ∧ 60 ≤ mi_lo mi) (hp : sm_acp st h = some o) (hd : decode (mi_cd mi) pc = .ok (.invokestatic idx, 3)) (hP : va_P D sm_CL (sm_ws b sK cid h) H) (hS : va_S (fun q => b ≤ q) s.heap H locs) (hl : h.length ≤ sm_B) (hRf : mi_fr mi ≤ R.frames) (hRl : mi_lo mi ≤ R.locals) (hls : ls.size = mi_ml mi)
    (kk : ∀ (H' : Heap) (locs' : List Loc), o.2.length = h.length → sm_sz o.2 = sm_sz h → va_P D sm_CL (sm_ws b sK cid o.2) H' → va_S (fun q => b ≤ q) s.heap H' locs' → W p l e R s m args below meth c H' locs' cells slots Q (F0 m (pc + 3) ls (o.1.map (sm_cv b sK)))) : W p l e R s m args below meth c H locs cells slots Q (F0 m pc ls (st.map (sm_cv b sK))) := by
  obtain ⟨hx, hb, hown, hts, hnm, hml, hE⟩ := id X
  have hK := hE.1
  have h1 := List.all_eq_true.mp sm_AC_all _ (sm_key_mem hq)
  unfold sm_ACc at h1
  dsimp only at h1
  split at h1
  · simp only [Bool.and_eq_true] at h1
    obtain ⟨w0, w1, w2, w3⟩ := h1
    obtain ⟨n, dp, j, sp, i, st0, f, g, rfl, hi, hj, ⟨c1, c2, c3, c4, c5, c6⟩, rfl⟩ := sm_acp_inv hp
    have hii := sm_get_lt hi hl
    have hjj := sm_get_lt hj hl
    show W p l e R s m args below meth c H locs cells slots Q (F0 m pc ls (.int n :: .int dp :: .ref (sm_cr b sK j) :: .int sp :: .ref (sm_cr b sK i) :: st0.map (sm_cv b sK)))
    rw [sm_cr_lt hii, sm_cr_lt hjj]
    refine va_copyi (ty := .int) hx hb (hml.trans hls.symm) hown (hts _ (sm_at_mem w0)) (hts _ (sm_at_mem w1)) (hts _ (sm_at_mem w2)) (hts _ (sm_at_mem w3)) hK hP (sm_ws_D b sK cid h) hS i j 0 0 (sm_ws_get hi) (sm_ws_get hj) rfl rfl rfl c1 c2 c3 c4 c5 (fun _ _ => rfl) (Nat.le_trans hr.1 hRf) (by
      have h2 := sm_nfw
      have h3 := Nat.le_trans hr.2 hRl
      rw [sm_cat_sum]
      omega) hd (fun H1 locs1 hP1 _ hS1 => ?_)
    refine kk H1 locs1 (by simp) (sm_sz_set hj (by simp [sm_csz, sm_cpy_len])) ?_ hS1
    rw [← sm_ws_set]
    rw [sm_cpy_eq c5] at hP1
    simp only [sm_ce, sm_cpy_len]
    exact hP1
  · cases h1
end SNDV

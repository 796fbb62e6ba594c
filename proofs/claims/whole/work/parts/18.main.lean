def sm_SMc (q : Nat × Nat × Nat × List Nat) : Bool := match q.2.2.1, q.2.2.2 with
  | 0, [i] => sm_at i (.methodLink (sm_cpn q.1) q.2.1 yJ0_length_8abf5)
  | 1, [i] => sm_at i (.methodLink (sm_cpn q.1) q.2.1 yJ0_charAt_5068e)
  | _, _ => false
theorem sm_SM_all : sm_SM.all sm_SMc = true := by decide +kernel
theorem sm_SM_ok {cp idx : Nat} {q : Nat × List Nat} (h : sm_key sm_SM cp idx = some q) : (q.1 = 0 ∧ Cond.methodLink (sm_cpn cp) idx yJ0_length_8abf5 ∈ sm_GG) ∨ (q.1 = 1 ∧ Cond.methodLink (sm_cpn cp) idx yJ0_charAt_5068e ∈ sm_GG) := by
  have h1 := List.all_eq_true.mp sm_SM_all _ (sm_key_mem h)
  unfold sm_SMc at h1
  dsimp only at h1
  split at h1
  · rename_i h2 h3; exact Or.inl ⟨h2, sm_at_mem h1⟩
  · rename_i h2 h3; exact Or.inr ⟨h2, sm_at_mem h1⟩
  · cases h1
theorem sm_wL1 : Cond.instanceMethod yJ0_length_8abf5 ∈ sm_GG := by decide +kernel
theorem sm_wL2 : Cond.selects "java/lang/String" yJ0_length_8abf5 yJ0_length_8abf5 ∈ sm_GG := by decide +kernel
theorem sm_wL3 : Cond.code yJ0_length_8abf5 cJ0_length_8abf5 1 (some .int) ∈ sm_GG := List.mem_filter.mpr ⟨List.mem_of_getElem? (i := 317) rfl, rfl⟩
theorem sm_wC1 : Cond.instanceMethod yJ0_charAt_5068e ∈ sm_GG := by decide +kernel
theorem sm_wC2 : Cond.selects "java/lang/String" yJ0_charAt_5068e yJ0_charAt_5068e ∈ sm_GG := by decide +kernel
theorem sm_wC3 : Cond.code yJ0_charAt_5068e cJ0_charAt_5068e 2 (some .char) ∈ sm_GG := List.mem_filter.mpr ⟨List.mem_of_getElem? (i := 327) rfl, rfl⟩
theorem sm_wS0 : Cond.initialized "java/lang/String" ∈ sm_GG := by decide +kernel
section SNDM
variable {p : Program} {l : Launch} {e : Env} {R : Room} {s : State} {m : MethodId} {args : Array Value} {below : List Frame} {meth : Method} {c : Code} {H : Heap} {locs : List Loc} {cells slots : Nat} {Q : State → Prop} {pc nL : Nat} {ls : Array Slot}
variable {xs : List Int32} {b : Nat} {sK aV : Nat → Nat} {cid : FieldType → ClassId} {D : va_G} {mi : MI} {st : List Value} {h : HH} {o : List Value × HH}
theorem sm_paysw (hts : ∀ w ∈ sm_GG, w.before args s = true) {w0 : Cond} (hk : w0 ∈ sm_GG) : ∀ w ∈ w0 :: sm_GG, ∀ (a' : Array Value) (U : State), s.WarmedH U.vm → w.before a' U = true := by
  intro w hw a' U hW
  have hg : w ∈ sm_GG := by
    rcases List.mem_cons.mp hw with rfl | h
    · exact hk
    · exact h
  exact word_at hW (good_of_word (List.mem_filter.mp hg).2) (hts w hg)
theorem sm_slen_snd (hSt : sm_StrL) (X : sm_Cx xs b sK aV cid D p s m args meth c mi) {idx : Nat} (hlk : Cond.methodLink (sm_cpn (mi_cp mi)) idx yJ0_length_8abf5 ∈ sm_GG) (hr : 4 ≤ mi_fr mi ∧ 120 ≤ mi_lo mi) (hp : sm_slen st h = some o) (hd : decode (mi_cd mi) pc = .ok (.invokevirtual idx, 3)) (hP : va_P D sm_CL (sm_ws b sK cid h) H) (hS : va_S (fun q => b ≤ q) s.heap H locs) (hl : h.length ≤ sm_B) (hsz : b + h.length = s.heap.size + cells)
    (hRf : mi_fr mi ≤ R.frames) (hRl : mi_lo mi ≤ R.locals) (hls : ls.size = mi_ml mi) (hcR : cells + (o.2.length - h.length) ≤ R.cells) (hsR : slots + (sm_sz o.2 - sm_sz h) ≤ R.slots)
    (kk : ∀ (H' : Heap) (locs' : List Loc), o.2.length ≤ sm_B → sm_gr h o.2 → va_P D sm_CL (sm_ws b sK cid o.2) H' → va_S (fun q => b ≤ q) s.heap H' locs' → W p l e R s m args below meth c H' locs' (cells + (o.2.length - h.length)) (slots + (sm_sz o.2 - sm_sz h)) Q (F0 m (pc + 3) ls (o.1.map (sm_cv b sK)))) : W p l e R s m args below meth c H locs cells slots Q (F0 m pc ls (st.map (sm_cv b sK))) := by
  obtain ⟨hx, hb, hown, hts, hnm, hml, hE⟩ := id X
  have hbs := hE.2.2.2.2.2.2.2.2.2.2.2
  obtain ⟨k, st0, rfl, hk, hsum, rfl⟩ := sm_slen_inv hp
  have hM := hSt xs l D b sK aV cid h k hk
  have hW8 : (st0.map (sm_cv b sK) |>.map fun v => v.category).sum ≤ 8 := by rw [sm_cat_sum]; exact hsum
  rw [Nat.sub_self] at hcR hsR
  have kk2 := fun H' locs' a1 a2 a3 a4 => kk H' locs' a1 a2 a3 a4
  refine sm_fin_call (r := some (.int (Int32.ofNat (sm_strs.getD k []).length))) (h' := h) (rest := st0) (a := ([Value.ref (sm_cr b sK (sm_B + k))] : List Value).toArray) (sm_gr_rf h) hl (fun hH => ?_) hP hS hbs hsz kk2
  rw [Nat.sub_self, Nat.sub_self]
  exact va_runV (n := 0) (C := "java/lang/String") (b := sm_cr b sK (sm_B + k)) (As := []) ⟨hx, hb, hml, hown, hts⟩ hM ⟨⟨rfl, rfl, by show 1 + 1 ≤ R.frames; omega, by show 8 + (1 + 11) + 40 ≤ R.locals; omega, sm_paysw hts sm_wL3, List.mem_cons_self, hts _ sm_wL3, hts _ sm_wS0, ⟨by decide, by decide⟩, sm_npar_ok (by decide +kernel), hts _ hlk⟩, hts _ sm_wL1, hts _ sm_wL2⟩ ⟨sm_Pc_blind _ _ _ _ _ _ _ _, by rw [sm_cr_hi]; exact vk_recv hE.2.2.2.2.2.2.2.1 hk hS, sm_pre (as := [.ref (sm_B + k)]) X hP hS hl hH⟩ rfl rfl hls rfl (lv_room hW8) hd ⟨hcR, hsR⟩
theorem sm_sch_snd (hSt : sm_StrC) (X : sm_Cx xs b sK aV cid D p s m args meth c mi) {idx : Nat} (hlk : Cond.methodLink (sm_cpn (mi_cp mi)) idx yJ0_charAt_5068e ∈ sm_GG) (hr : 4 ≤ mi_fr mi ∧ 120 ≤ mi_lo mi) (hp : sm_sch st h = some o) (hd : decode (mi_cd mi) pc = .ok (.invokevirtual idx, 3)) (hP : va_P D sm_CL (sm_ws b sK cid h) H) (hS : va_S (fun q => b ≤ q) s.heap H locs) (hl : h.length ≤ sm_B) (hsz : b + h.length = s.heap.size + cells)
    (hRf : mi_fr mi ≤ R.frames) (hRl : mi_lo mi ≤ R.locals) (hls : ls.size = mi_ml mi) (hcR : cells + (o.2.length - h.length) ≤ R.cells) (hsR : slots + (sm_sz o.2 - sm_sz h) ≤ R.slots)
    (kk : ∀ (H' : Heap) (locs' : List Loc), o.2.length ≤ sm_B → sm_gr h o.2 → va_P D sm_CL (sm_ws b sK cid o.2) H' → va_S (fun q => b ≤ q) s.heap H' locs' → W p l e R s m args below meth c H' locs' (cells + (o.2.length - h.length)) (slots + (sm_sz o.2 - sm_sz h)) Q (F0 m (pc + 3) ls (o.1.map (sm_cv b sK)))) : W p l e R s m args below meth c H locs cells slots Q (F0 m pc ls (st.map (sm_cv b sK))) := by
  obtain ⟨hx, hb, hown, hts, hnm, hml, hE⟩ := id X
  have hbs := hE.2.2.2.2.2.2.2.2.2.2.2
  obtain ⟨j, k, st0, rfl, hk, hj, hsum, rfl⟩ := sm_sch_inv hp
  have hM := hSt xs l D b sK aV cid h k j hk hj
  have hW8 : (st0.map (sm_cv b sK) |>.map fun v => v.category).sum ≤ 8 := by rw [sm_cat_sum]; exact hsum
  rw [Nat.sub_self] at hcR hsR
  have kk2 := fun H' locs' a1 a2 a3 a4 => kk H' locs' a1 a2 a3 a4
  refine sm_fin_call (r := some (.int ((sm_strs.getD k []).getD j.toNatClampNeg 0))) (h' := h) (rest := st0) (a := ([Value.ref (sm_cr b sK (sm_B + k)), .int j] : List Value).toArray) (sm_gr_rf h) hl (fun hH => ?_) hP hS hbs hsz kk2
  rw [Nat.sub_self, Nat.sub_self]
  exact va_runV (n := 1) (C := "java/lang/String") (b := sm_cr b sK (sm_B + k)) (As := [.int j]) ⟨hx, hb, hml, hown, hts⟩ hM ⟨⟨rfl, rfl, by show 3 + 1 ≤ R.frames; omega, by show 8 + (2 + 11) + 90 ≤ R.locals; omega, sm_paysw hts sm_wC3, List.mem_cons_self, hts _ sm_wC3, hts _ sm_wS0, ⟨by decide, by decide⟩, sm_npar_ok (by decide +kernel), hts _ hlk⟩, hts _ sm_wC1, hts _ sm_wC2⟩ ⟨sm_Pc_blind _ _ _ _ _ _ _ _, by rw [sm_cr_hi]; exact vk_recv hE.2.2.2.2.2.2.2.1 hk hS, sm_pre (as := [.ref (sm_B + k), .int j]) X hP hS hl hH⟩ rfl rfl hls rfl (lv_room hW8) hd ⟨hcR, hsR⟩
theorem sm_inv_snd (hSt : sm_StrL ∧ sm_StrC) {C : CR} (IH : ∀ (y : Nat) (as : List Value) (h : HH) (r : Option Value) (h' : HH), h.length ≤ sm_B → C y as h = some (r, h') → sm_Kt xs y as h r h') (X : sm_Cx xs b sK aV cid D p s m args meth c mi) {i : Instr} (hp : sm_inv C mi i st h = some o) (hd : ∃ n, decode (mi_cd mi) pc = .ok (i, n) ∧ (sm_sw i = true ∨ n = sm_ilen i)) (hP : va_P D sm_CL (sm_ws b sK cid h) H) (hS : va_S (fun q => b ≤ q) s.heap H locs) (hl : h.length ≤ sm_B) (hsz : b + h.length = s.heap.size + cells)
    (hRf : mi_fr mi ≤ R.frames) (hRl : mi_lo mi ≤ R.locals) (hls : ls.size = mi_ml mi) (hcR : cells + (o.2.length - h.length) ≤ R.cells) (hsR : slots + (sm_sz o.2 - sm_sz h) ≤ R.slots)
    (kk : ∀ (H' : Heap) (locs' : List Loc), o.2.length ≤ sm_B → sm_gr h o.2 → va_P D sm_CL (sm_ws b sK cid o.2) H' → va_S (fun q => b ≤ q) s.heap H' locs' → W p l e R s m args below meth c H' locs' (cells + (o.2.length - h.length)) (slots + (sm_sz o.2 - sm_sz h)) Q (F0 m (pc + 3) ls (o.1.map (sm_cv b sK)))) : W p l e R s m args below meth c H locs cells slots Q (F0 m pc ls (st.map (sm_cv b sK))) := by
  have keep : ∀ {H1 : Heap} {locs1 : List Loc}, o.2.length = h.length → sm_sz o.2 = sm_sz h → va_P D sm_CL (sm_ws b sK cid o.2) H1 → va_S (fun q => b ≤ q) s.heap H1 locs1 → W p l e R s m args below meth c H1 locs1 cells slots Q (F0 m (pc + 3) ls (o.1.map (sm_cv b sK))) := by
    intro H1 locs1 e1 e2 hP1 hS1
    refine W.cs (cells' := cells + (o.2.length - h.length)) (slots' := slots + (sm_sz o.2 - sm_sz h)) (by omega) (by omega) ?_
    exact kk H1 locs1 (by omega) ⟨by omega, by omega⟩ hP1 hS1
  have stay : o.2 = h → W p l e R s m args below meth c H locs cells slots Q (F0 m (pc + 3) ls (o.1.map (sm_cv b sK))) := fun eq => keep (by rw [eq]) (by rw [eq]) (by rw [eq]; exact hP) hS
  obtain ⟨n, hd, hn⟩ := hd
  unfold sm_inv at hp
  split at hp
  · have hn : n = 3 := hn.resolve_left (fun h => by cases h)
    subst hn
    split at hp
    · rename_i q hq
      exact sm_vrt_snd IH X hq hp hd hP hS hl hsz hRf hRl hls hcR hsR kk
    · split at hp
      · rename_i q hq
        split at hp
        · rename_i hr
          rcases sm_SM_ok hq with ⟨h1, h2⟩ | ⟨h1, h2⟩
          · rw [if_pos h1] at hp
            exact sm_slen_snd hSt.1 X h2 hr hp hd hP hS hl hsz hRf hRl hls hcR hsR kk
          · rw [if_neg (by omega)] at hp
            exact sm_sch_snd hSt.2 X h2 hr hp hd hP hS hl hsz hRf hRl hls hcR hsR kk
        · cases hp
      · cases hp
  · have hn : n = 3 := hn.resolve_left (fun h => by cases h)
    subst hn
    split at hp
    · rename_i q hq
      exact sm_sta_snd IH X hq hp hd hP hS hl hsz hRf hRl hls hcR hsR kk
    · split at hp
      · rename_i q hq
        split at hp
        · rename_i hr
          exact sm_acp_snd X hq hr hp hd hP hS hl hRf hRl hls (fun _ _ e1 e2 h1 h2 => keep e1 e2 h1 h2)
        · cases hp
      · split at hp
        · rename_i q hq
          split at hp
          · rename_i hr
            exact sm_mat_snd X hq hr hp hd hRf hRl hls (by omega) (by omega) stay
          · cases hp
        · cases hp
  · have hn : n = 3 := hn.resolve_left (fun h => by cases h)
    subst hn
    split at hp
    · rename_i q hq
      exact sm_spc_snd IH X hq hp hd hP hS hl hsz hRf hRl hls hcR hsR kk
    · split at hp
      · rename_i q hq
        split at hp
        · rename_i hr
          exact sm_obj_snd X hq hr hp hd hRf hRl hls stay
        · cases hp
      · cases hp
  · cases hp
end SNDM
/-- what a run of the abstract machine says of the machine itself -/
def sm_Sim (xs : List Int32) (y pc : Nat) (L : LL) (st : List Value) (h : HH) (r : Option Value) (h' : HH) : Prop :=
  ∀ (mi : MI), sm_MT[y]? = some mi → ∀ {p : Program} {l : Launch} {e : Env} {R : Room} {s : State} {m : MethodId} {args : Array Value} {below : List Frame} {meth : Method} {c : Code} {H : Heap} {locs : List Loc} {cells slots : Nat} {Q : State → Prop} {ls : Array Slot} {b : Nat} {sK aV : Nat → Nat} {cid : FieldType → ClassId} {D : va_G},
    sm_Cx xs b sK aV cid D p s m args meth c mi → va_P D sm_CL (sm_ws b sK cid h) H → va_S (fun q => b ≤ q) s.heap H locs → b + h.length = s.heap.size + cells → mi_fr mi ≤ R.frames → mi_lo mi ≤ R.locals → cells + (h'.length - h.length) ≤ R.cells → slots + (sm_sz h' - sm_sz h) ≤ R.slots → sm_lr b sK ls (mi_ml mi) L →
    (∀ (H' : Heap) (locs' : List Loc) (pc' : Nat) (ls' : Array Slot) (st' : List Value) (i : Instr), sm_ins mi pc' = some i → decode (mi_cd mi) pc' = .ok (i, 1) → sm_ret mi i st' = some r → va_P D sm_CL (sm_ws b sK cid h') H' → va_S (fun q => b ≤ q) s.heap H' locs' → W p l e R s m args below meth c H' locs' (cells + (h'.length - h.length)) (slots + (sm_sz h' - sm_sz h)) Q (F0 m pc' ls' (st'.map (sm_cv b sK)))) →
    W p l e R s m args below meth c H locs cells slots Q (F0 m pc ls (st.map (sm_cv b sK)))
theorem sm_ret_1 {mi : MI} {i : Instr} {st : List Value} {r : Option Value} (h : sm_ret mi i st = some r) : sm_sw i = false ∧ sm_ilen i = 1 := by
  unfold sm_ret at h
  split at h
  · exact ⟨rfl, rfl⟩
  · exact ⟨rfl, rfl⟩
  · exact ⟨rfl, rfl⟩
  · exact ⟨rfl, rfl⟩
  · cases h
def sm_okn (k : MI) : Bool := plainName (mi_nm k).cls && decide ((mi_nm k).cls = sm_cpn (mi_cp k))
theorem sm_okn_all : sm_MT.all sm_okn = true := by decide +kernel
theorem sm_lin_args (b : Nat) (sK : Nat → Nat) : ∀ (as : List Value) (i : Nat) (k : Nat) (v : Value), (sm_lin as)[k]? = some (some v) → (i + k, sm_cv b sK v) ∈ lv_args i (as.map (sm_cv b sK)) := by
  intro as
  induction as with
  | nil => intro i k v h; simp [sm_lin] at h
  | cons a as ih =>
    intro i k v h
    have h0 : sm_lin (a :: as) = (if a.category = 2 then [some a, none] else [some a]) ++ sm_lin as := by simp [sm_lin]
    rw [h0] at h
    show (i + k, sm_cv b sK v) ∈ (i, sm_cv b sK a) :: lv_args (if (sm_cv b sK a).category = 2 then i + 2 else i + 1) (as.map (sm_cv b sK))
    rw [sm_cv_cat]
    by_cases hc : a.category = 2
    · rw [if_pos hc] at h ⊢
      match k, h with
      | 0, h => cases h; exact List.mem_cons_self
      | 1, h => cases h
      | k + 2, h =>
        have h2 := ih (i + 2) k v h
        rw [show i + (k + 2) = i + 2 + k by omega]
        exact List.mem_cons_of_mem _ h2
    · rw [if_neg hc] at h ⊢
      match k, h with
      | 0, h => cases h; exact List.mem_cons_self
      | k + 1, h =>
        have h2 := ih (i + 1) k v h
        rw [show i + (k + 1) = i + 1 + k by omega]
        exact List.mem_cons_of_mem _ h2
theorem sm_lin_sl (b : Nat) (sK : Nat → Nat) (as : List Value) : (lg_sl (as.map (sm_cv b sK))).length = (sm_lin as).length := by
  induction as with
  | nil => rfl
  | cons a as ih =>
    have h0 : sm_lin (a :: as) = (if a.category = 2 then [some a, none] else [some a]) ++ sm_lin as := by simp [sm_lin]
    have h1 : lg_sl ((a :: as).map (sm_cv b sK)) = (if (sm_cv b sK a).category = 2 then [.val (sm_cv b sK a), .second] else [.val (sm_cv b sK a)]) ++ lg_sl (as.map (sm_cv b sK)) := by simp [lg_sl]
    rw [h0, h1, List.length_append, List.length_append, ih, sm_cv_cat]
    split <;> rfl
theorem sm_entry (b : Nat) (sK : Nat → Nat) {k : MI} {as : List Value} (hl : (sm_lin as).length ≤ mi_ml k) : sm_lr b sK ((lg_sl (as.map (sm_cv b sK)) ++ List.replicate (mi_ml k - (lg_sl (as.map (sm_cv b sK))).length) Slot.unset).toArray) (mi_ml k) (sm_loc k as) := by
  have h1 := lv_entry (as.map (sm_cv b sK)) (n := mi_ml k) (by rw [sm_lin_sl]; exact hl)
  refine ⟨h1.1, ?_, h1.2.1, fun i v hv => ?_⟩
  · unfold sm_loc; simp; omega
  · unfold sm_loc at hv
    rcases Nat.lt_or_ge i (sm_lin as).length with hi | hi
    · rw [List.getElem?_append_left hi] at hv
      have h2 := sm_lin_args b sK as 0 i v hv
      rw [Nat.zero_add] at h2
      exact h1.2.2 _ h2
    · rw [List.getElem?_append_right hi, List.getElem?_replicate] at hv
      split at hv <;> cases hv

theorem sm_sw_pur {i : Instr} {L : LL} {st : List Value} (h : sm_sw i = true) : sm_pur i L st = none := by
  unfold sm_sw at h
  split at h
  · rfl
  · rfl
  · cases h
theorem sm_sw_hop {xs : List Int32} {mi : MI} {i : Instr} {st : List Value} {h : HH} (hh : sm_sw i = true) : sm_hop xs mi i st h = none := by
  unfold sm_sw at hh
  split at hh
  · rfl
  · rfl
  · cases hh
theorem sm_ret_inv {mi : MI} {i : Instr} {st : List Value} {r : Option Value} (h : sm_ret mi i st = some r) : (i = .return_ ∧ mi_rt mi = none ∧ st = [] ∧ r = none) ∨ (i = .ireturn ∧ ∃ v, st = [.int v] ∧ r = some (.int v) ∧ (mi_rt mi = some .int ∨ (mi_rt mi = some .boolean ∧ (v = 0 ∨ v = 1)))) ∨ (i = .lreturn ∧ ∃ v, st = [.long v] ∧ r = some (.long v) ∧ mi_rt mi = some .long) ∨ (i = .areturn ∧ ∃ v n, st = [.ref v] ∧ r = some (.ref v) ∧ mi_rt mi = some (.object n)) := by
  unfold sm_ret at h
  split at h
  · split at h
    · rename_i h1; cases h; exact Or.inl ⟨rfl, h1, rfl, rfl⟩
    · cases h
  · split at h
    · rename_i h1; cases h; exact Or.inr (Or.inl ⟨rfl, _, rfl, rfl, Or.inl h1⟩)
    · rename_i h1
      split at h
      · rename_i h2; cases h; exact Or.inr (Or.inl ⟨rfl, _, rfl, rfl, Or.inr ⟨h1, h2⟩⟩)
      · cases h
    · cases h
  · split at h
    · rename_i h1; cases h; exact Or.inr (Or.inr (Or.inl ⟨rfl, _, rfl, rfl, h1⟩))
    · cases h
  · split at h
    · rename_i h1; cases h; exact Or.inr (Or.inr (Or.inr ⟨rfl, _, _, rfl, rfl, h1⟩))
    · cases h
  · cases h
theorem sm_okn_in {y : Nat} {k : MI} (h : sm_MT[y]? = some k) : plainName (mi_nm k).cls = true ∧ (mi_nm k).cls = sm_cpn (mi_cp k) := by
  have h1 := List.all_eq_true.mp sm_okn_all k (List.mem_of_getElem? h)
  unfold sm_okn at h1
  rw [Bool.and_eq_true] at h1
  exact ⟨h1.1, of_decide_eq_true h1.2⟩

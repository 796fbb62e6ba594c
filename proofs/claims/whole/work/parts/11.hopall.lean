section SNDA
variable {p : Program} {l : Launch} {e : Env} {R : Room} {s : State} {m : MethodId} {args : Array Value} {below : List Frame} {meth : Method} {c : Code} {H : Heap} {locs : List Loc} {cells slots : Nat} {Q : State → Prop} {pc nL : Nat} {ls : Array Slot}
variable {xs : List Int32} {b : Nat} {sK aV : Nat → Nat} {cid : FieldType → ClassId} {D : va_G} {mi : MI} {st : List Value} {h : HH} {o : List Value × HH}
set_option maxHeartbeats 4000000 in
theorem sm_hop_snd (X : sm_Cx xs b sK aV cid D p s m args meth c mi) {i : Instr} (hp : sm_hop xs mi i st h = some o) (hd : decode (mi_cd mi) pc = .ok (i, sm_ilen i)) (hP : va_P D sm_CL (sm_ws b sK cid h) H) (hS : va_S (fun q => b ≤ q) s.heap H locs) (hl : h.length ≤ sm_B) (hsz : b + h.length = s.heap.size + cells)
    (hcR : cells + (o.2.length - h.length) ≤ R.cells) (hsR : slots + (sm_sz o.2 - sm_sz h) ≤ R.slots)
    (kk : ∀ (H' : Heap) (locs' : List Loc), o.2.length ≤ sm_B → sm_gr h o.2 → va_P D sm_CL (sm_ws b sK cid o.2) H' → va_S (fun q => b ≤ q) s.heap H' locs' → W p l e R s m args below meth c H' locs' (cells + (o.2.length - h.length)) (slots + (sm_sz o.2 - sm_sz h)) Q (F0 m (pc + sm_ilen i) ls (o.1.map (sm_cv b sK)))) : W p l e R s m args below meth c H locs cells slots Q (F0 m pc ls (st.map (sm_cv b sK))) := by
  have keep : ∀ {H1 : Heap} {locs1 : List Loc}, o.2.length = h.length → sm_sz o.2 = sm_sz h → va_P D sm_CL (sm_ws b sK cid o.2) H1 → va_S (fun q => b ≤ q) s.heap H1 locs1 → W p l e R s m args below meth c H1 locs1 cells slots Q (F0 m (pc + sm_ilen i) ls (o.1.map (sm_cv b sK))) := by
    intro H1 locs1 e1 e2 hP1 hS1
    refine W.cs (cells' := cells + (o.2.length - h.length)) (slots' := slots + (sm_sz o.2 - sm_sz h)) (by omega) (by omega) ?_
    exact kk H1 locs1 (by omega) ⟨by omega, by omega⟩ hP1 hS1
  have stay : o.2 = h → W p l e R s m args below meth c H locs cells slots Q (F0 m (pc + sm_ilen i) ls (o.1.map (sm_cv b sK))) := fun eq => keep (by rw [eq]) (by rw [eq]) (by rw [eq]; exact hP) hS
  cases i
  case getfield idx =>
    have hp : (match sm_key sm_FT (mi_cp mi) idx with | some q => sm_get q.1 q.2.1 st h | none => none) = some o := hp
    split at hp
    · rename_i q hq; exact sm_get_snd X hq hp hd hP hl stay
    · cases hp
  case putfield idx =>
    have hp : (match sm_key sm_FT (mi_cp mi) idx with | some q => sm_put mi q.1 q.2.1 st h | none => none) = some o := hp
    split at hp
    · rename_i q hq; exact sm_put_snd X hq hp hd hP hS hl (fun _ _ e1 e2 h1 h2 => keep e1 e2 h1 h2)
    · cases hp
  case iaload => exact sm_iald_snd X hp hd hP hS hl stay
  case caload => exact sm_cald_snd X hp hd hP hl stay
  case baload => exact sm_zald_snd X hp hd hP hl stay
  case iastore => exact sm_iast_snd X hp hd hP hS hl (fun _ _ e1 e2 h1 h2 => keep e1 e2 h1 h2)
  case castore => exact sm_cast_snd X hp hd hP hS hl (fun _ _ e1 e2 h1 h2 => keep e1 e2 h1 h2)
  case bastore => exact sm_zast_snd X hp hd hP hS hl (fun _ _ e1 e2 h1 h2 => keep e1 e2 h1 h2)
  case aaload => exact sm_aald_snd X hp hd hP hl stay
  case aastore => exact sm_aast_snd X hp hd hP hS hl (fun _ _ e1 e2 h1 h2 => keep e1 e2 h1 h2)
  case arraylength => exact sm_alen_snd X hp hd hP hS hl stay
  case newarray t => exact sm_newa_snd X hp hd hP hS hsz hcR hsR kk
  case anewarray idx =>
    have hp : (match sm_key sm_QL (mi_cp mi) idx with | some _ => sm_newq st h | none => none) = some o := hp
    split at hp
    · rename_i q hq; exact sm_newq_snd X hq hp hd hP hS hsz hcR hsR kk
    · cases hp
  case new idx =>
    have hp : (match sm_key sm_NL (mi_cp mi) idx with | some q => sm_new q.1 st h | none => none) = some o := hp
    split at hp
    · rename_i q hq; exact sm_new_snd X hq hp hd hP hS hsz hcR hsR kk
    · cases hp
  case instanceof idx =>
    have hp : (match sm_key sm_IL (mi_cp mi) idx with | some q => sm_inst q.1 st h | none => none) = some o := hp
    split at hp
    · rename_i q hq; exact sm_inst_snd X hq hp hd hP hl stay
    · cases hp
  case ldc2_w idx =>
    have hp : (match sm_key sm_LT (mi_cp mi) idx with | some q => some (Value.long q.1 :: st, h) | none => none) = some o := hp
    split at hp
    · rename_i q hq
      cases hp
      exact lv_ldc2 X.1 X.2.1 X.2.2.1 (X.2.2.2.1 _ (sm_LT_ok hq)) hd (stay rfl)
    · cases hp
  case ldc idx =>
    have hp : (match sm_key sm_ST (mi_cp mi) idx with | some q => some (Value.ref (sm_B + q.1) :: st, h) | none => none) = some o := hp
    split at hp
    · rename_i q hq
      cases hp
      obtain ⟨hx, hb, hown, hts, -, -, hK, hNe, hAO, hDe, hNo, hCa, hSR, -⟩ := X
      refine va_ldcS hx hb hown (hSR _ (sm_key_mem hq)) hd ?_
      have h1 := stay rfl
      rw [List.map_cons, show sm_cv b sK (.ref (sm_B + q.1)) = .ref (sK q.1) from congrArg Value.ref (sm_cr_hi b sK q.1)] at h1
      exact h1
    · cases hp
  all_goals cases hp
end SNDA

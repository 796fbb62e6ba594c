theorem pl_lt {k q : Nat} (hk : k < 5 + q) : pl k + 5 < 60 + 6 * q := by unfold pl; split <;> omega
theorem pl_ge (k : Nat) : 1 ≤ pl k := by unfold pl; split <;> omega
theorem g_cell_pl {S : GS} {k o : Nat} (ho : o ≤ 5) : g_cell S (pl k + o) = pc_cell (pl k) (pf_of (gT S k)) o := by
  by_cases hk : k < 5
  · have e : pl k = 6 * k + 1 := if_pos hk
    have e1 : (pl k + o - 1) / 6 = k := by omega
    have e2 : (pl k + o - 1) % 6 = o := by omega
    unfold g_cell
    rw [if_neg (by omega), if_pos (by omega), e1, e2]
  · have e : pl k = 6 * k + 30 := if_neg hk
    have e1 : 5 + (pl k + o - 60) / 6 = k := by omega
    have e2 : (pl k + o - 60) % 6 = o := by omega
    unfold g_cell
    rw [if_neg (by omega), if_neg (by omega), if_neg (by omega), e1, e2]
theorem hp_pt {S : GS} {k : Nat} (hk : k < 5 + gQ S) : pt_at (hp S) (pl k) (pf_of (gT S k)) := by
  have hl := pl_lt hk
  refine ⟨?_, ?_, ?_, ?_, ?_, ?_⟩
  · rw [hp_get (by omega)]; exact congrArg some (g_cell_pl (o := 0) (by omega))
  · rw [hp_get (by omega)]; exact congrArg some (g_cell_pl (o := 1) (by omega))
  · rw [hp_get (by omega)]; exact congrArg some (g_cell_pl (o := 2) (by omega))
  · rw [hp_get (by omega)]; exact congrArg some (g_cell_pl (o := 3) (by omega))
  · rw [hp_get (by omega)]; exact congrArg some (g_cell_pl (o := 4) (by omega))
  · rw [hp_get (by omega)]; exact congrArg some (g_cell_pl (o := 5) (by omega))
theorem g_cell_T {S : GS} {k z : Nat} {F : PF} (hz : z < pl k ∨ pl k + 5 < z) : g_cell (sT S k F) z = g_cell S z := by
  unfold g_cell
  by_cases a : z = 0
  · rw [if_pos a, if_pos a]; rfl
  · rw [if_neg a, if_neg a]
    by_cases b : z < 31
    · rw [if_pos b, if_pos b, gT_sT, fu_n]
      intro e
      have : pl k = 6 * k + 1 := if_pos (by omega)
      omega
    · rw [if_neg b, if_neg b]
      by_cases c : z < 60
      · rw [if_pos c, if_pos c]; rfl
      · rw [if_neg c, if_neg c, gT_sT, fu_n]
        intro e
        have : pl k = 6 * k + 30 := if_neg (by omega)
        omega
theorem hp_T {S : GS} {k : Nat} {F : PF} {h' : HH} (hk : k < 5 + gQ S) (H : pt_at h' (pl k) (pf_of F)) (r : hp_fr (hp S) h' (pl k)) : h' = hp (sT S k F) := by
  have hT : gT (sT S k F) k = F := by rw [gT_sT, fu_s]
  obtain ⟨a0, a1, a2, a3, a4, a5⟩ := H
  apply hp_of
  · rw [r.1, hp_len]; rfl
  · intro j hj
    have hj : j < 60 + 6 * gQ S := hj
    by_cases hz : j < pl k ∨ pl k + 5 < j
    · rw [r.2 j hz, hp_get hj, g_cell_T hz]
    · obtain ⟨o, ho, rfl⟩ : ∃ o, o ≤ 5 ∧ j = pl k + o := ⟨j - pl k, by omega, by omega⟩
      rw [g_cell_pl ho, hT]
      rcases (show o = 0 ∨ o = 1 ∨ o = 2 ∨ o = 3 ∨ o = 4 ∨ o = 5 by omega) with rfl | rfl | rfl | rfl | rfl | rfl
      · exact a0
      · exact a1
      · exact a2
      · exact a3
      · exact a4
      · exact a5
section PQ
variable {xs : List Int32} {S : GS} {k : Nat}
theorem pl_q (hk : k < 5) : k < 5 + gQ S := by omega
theorem pq_c (hk : k < 5) : sm_cls (hp S) (pl k) = some 3 := (pt_fld (hp_pt (pl_q hk))).1
theorem pq_0 (hk : k < 5) : sm_fld (hp S) (pl k) 3 0 = some (.int (nI (pf_n (gT S k)))) := (pt_fld (hp_pt (pl_q hk))).2.1
theorem pq_1 (hk : k < 5) : sm_fld (hp S) (pl k) 3 1 = some (.int (nI (pf_p (gT S k)))) := (pt_fld (hp_pt (pl_q hk))).2.2.1
theorem pq_2 (hk : k < 5) : sm_fld (hp S) (pl k) 3 2 = some (.int (pf_s (gT S k))) := (pt_fld (hp_pt (pl_q hk))).2.2.2.1
theorem pq_3 (hk : k < 5) : sm_fld (hp S) (pl k) 3 3 = some (.ref (pl k + 1)) := (pt_fld (hp_pt (pl_q hk))).2.2.2.2.1
theorem pq_4 (hk : k < 5) : sm_fld (hp S) (pl k) 3 4 = some (.ref (pl k + 2)) := (pt_fld (hp_pt (pl_q hk))).2.2.2.2.2.1
theorem pq_5 (hk : k < 5) : sm_fld (hp S) (pl k) 3 5 = some (.ref (pl k + 3)) := (pt_fld (hp_pt (pl_q hk))).2.2.2.2.2.2.1
theorem pq_6 (hk : k < 5) : sm_fld (hp S) (pl k) 3 6 = some (.ref (pl k + 4)) := (pt_fld (hp_pt (pl_q hk))).2.2.2.2.2.2.2.1
theorem pq_7 (hk : k < 5) : sm_fld (hp S) (pl k) 3 7 = some (.ref (pl k + 5)) := (pt_fld (hp_pt (pl_q hk))).2.2.2.2.2.2.2.2
theorem pq_a1 (hk : k < 5) : sm_arr (hp S) (pl k + 1) .int = some (ls 9 (pf_sl (gT S k))) := (pt_arr (hp_pt (pl_q hk))).1
theorem pq_a2 (hk : k < 5) : sm_arr (hp S) (pl k + 2) .int = some (ls 9 (pf_w (gT S k))) := (pt_arr (hp_pt (pl_q hk))).2.1
theorem pq_a3 (hk : k < 5) : sm_arr (hp S) (pl k + 3) .int = some (ls 5 (pf_k (gT S k))) := (pt_arr (hp_pt (pl_q hk))).2.2.1
theorem pq_a4 (hk : k < 5) : sm_arr (hp S) (pl k + 4) .int = some (ls 5 (pf_pu (gT S k))) := (pt_arr (hp_pt (pl_q hk))).2.2.2.1
theorem pq_a5 (hk : k < 5) : sm_arr (hp S) (pl k + 5) .int = some (ls 25 (pf_d (gT S k))) := (pt_arr (hp_pt (pl_q hk))).2.2.2.2
theorem pq_w2 (hk : k < 5) (x : Int32) : sm_fset (hp S) (pl k) 2 (.int x) = hp (sT S k (pf_sets (gT S k) x)) := by
  obtain ⟨h', e, H, r⟩ := wf_2 (hp_pt (S := S) (pl_q hk)) x
  rw [e]
  exact hp_T (pl_q hk) H r
theorem pq_s1 (hk : k < 5) (f : Nat → Int32) {c : Nat} (x : Int32) (hc : c < 9) : sm_aset (hp S) (pl k + 1) .int (some (ls 9 f)) (nI c) x = hp (sT S k (pf_setsl (gT S k) (fu f c x))) := by
  rw [sm_aset_nI (by omega), ls_set]
  obtain ⟨h', e, H, r⟩ := wa_1 (hp_pt (S := S) (pl_q hk)) (ls 9 (fu f c x))
  rw [e]
  exact hp_T (pl_q hk) H r
-- the patch's methods
def pf_wf (F : PF) : Prop := pf_n F ≤ 9 ∧ pf_p F ≤ 5
theorem wf_sets (F : PF) (x : Int32) : pf_wf (pf_sets F x) = pf_wf F := id rfl
theorem wf_setsl (F : PF) (x : Nat → Int32) : pf_wf (pf_setsl F x) = pf_wf F := id rfl
theorem wf_setw (F : PF) (x : Nat → Int32) : pf_wf (pf_setw F x) = pf_wf F := id rfl
theorem wf_setpu (F : PF) (x : Nat → Int32) : pf_wf (pf_setpu F x) = pf_wf F := id rfl
theorem wf_setd (F : PF) (x : Nat → Int32) : pf_wf (pf_setd F x) = pf_wf F := id rfl
theorem pf_ok' {F : PF} (h : pf_wf F) : pt_ok (pf_of F) (pf_n F) (pf_p F) := pf_ok h.1 h.2
def rf_S (w s : Nat → Int32) : Nat → Nat → Int32 → Int32 → Int32
  | 0, c, left, a => if 0 < left then nI c else a
  | k + 1, c, left, a => if left ≤ 0 then a else if 0 < w c then nI c else rf_S w s k (c + 1) (left + (2 - s c - 1)) (nI c)
theorem rf_eq (w s : List Int32) (f g : Nat → Int32) {n : Nat} (hw : ∀ c, c < n → w.getD c 0 = f c) (hs : ∀ c, c < n → s.getD c 0 = g c) : ∀ (k c : Nat) (l a : Int32), c + k = n → rl_S w s k c l a = rf_S f g k c l a := by
  intro k
  induction k with
  | zero => intro c l a _; rfl
  | succ k ih =>
    intro c l a hk
    unfold rl_S rf_S
    rw [hw c (by omega), hs c (by omega), ih (c + 1) _ _ (by omega)]
def rf_F (F : PF) (f : Int32) : Int32 := rf_S (pf_w F) (pf_sl F) (pf_n F) 0 f (-1)
theorem q_roll (hk : k < 5) (hw : pf_wf (gT S k)) (f : Int32) : sm_call xs n_X3_roll [.ref (pl k), .int f] (hp S) = some (some (.int (rf_F (gT S k) f)), hp S) := by
  rw [c_roll (hp_pt (pl_q hk)) (pf_ok' hw) f]
  have := hw.1
  rw [show rl_F (pf_of (gT S k)) (pf_n (gT S k)) f = rf_F (gT S k) f from rf_eq (n := pf_n (gT S k)) _ _ _ _ (fun c hc => ls_get _ (by omega)) (fun c hc => ls_get _ (by omega)) _ _ _ _ (by omega)]
theorem q_hasCell (hk : k < 5) (hw : pf_wf (gT S k)) (c : Int32) : sm_call xs n_X3_hasCell [.ref (pl k), .int c] (hp S) = some (some (.int (b2i (hs_C (pf_n (gT S k)) c))), hp S) := c_hasCell (hp_pt (pl_q hk)) (pf_ok' hw) c
theorem q_hasPlayer (hk : k < 5) (hw : pf_wf (gT S k)) (c : Int32) : sm_call xs n_X3_hasPlayer [.ref (pl k), .int c] (hp S) = some (some (.int (b2i (hs_C (pf_p (gT S k)) c))), hp S) := c_hasPlayer (hp_pt (pl_q hk)) (pf_ok' hw) c
theorem q_hasPair (hk : k < 5) (hw : pf_wf (gT S k)) (a b : Int32) : sm_call xs n_X3_hasPair [.ref (pl k), .int a, .int b] (hp S) = some (some (.int (b2i (hs_P (pf_p (gT S k)) a b))), hp S) := c_hasPair (hp_pt (pl_q hk)) (pf_ok' hw) a b
def wa_F (F : PF) (c : Int32) : Int32 := if hs_C (pf_n F) c then pf_w F c.toNatClampNeg else 0
theorem wa_eq {F : PF} (h : pf_wf F) (c : Int32) : wt_A (pf_of F) (pf_n F) c = wa_F F c := by
  unfold wt_A wa_F
  cases hb : hs_C (pf_n F) c with
  | false => rfl
  | true =>
    obtain ⟨j, hj, rfl⟩ := hs_C_of hb (by have := h.1; omega)
    rw [nI_clamp (by have := h.1; omega)]
    exact ls_get _ (by have := h.1; omega)
theorem q_worthAt (hk : k < 5) (hw : pf_wf (gT S k)) (c : Int32) : sm_call xs n_X3_worthAt [.ref (pl k), .int c] (hp S) = some (some (.int (wa_F (gT S k) c)), hp S) := by
  rw [c_worthAt (hp_pt (pl_q hk)) (pf_ok' hw) c, wa_eq hw]
def of_F (F : PF) (a b : Int32) : Int32 := if hs_P (pf_p F) a b then pf_d F (a * 5 + b).toNatClampNeg else 0
theorem of_eq {F : PF} (h : pf_wf F) (a b : Int32) : ow_F (pf_of F) (pf_p F) a b = of_F F a b := by
  unfold ow_F of_F
  cases hb : hs_P (pf_p F) a b with
  | false => rfl
  | true =>
    have := h.2
    obtain ⟨i, j, hi, hj, hij, rfl, rfl⟩ := hs_P_of hb (by omega)
    rw [ix_5, nI_clamp (by omega)]
    exact ls_get _ (by omega)
theorem q_owes (hk : k < 5) (hw : pf_wf (gT S k)) (a b : Int32) : sm_call xs n_X3_owes [.ref (pl k), .int a, .int b] (hp S) = some (some (.int (of_F (gT S k) a b)), hp S) := by
  rw [c_owes (hp_pt (pl_q hk)) (pf_ok' hw) a b, of_eq hw]
def so_S (F : PF) (a : Int32) : Nat → Nat → Int32 → Int32
  | 0, _, s => s
  | k + 1, c, s => so_S F a k (c + 1) (s + of_F F a (nI c))
def sd_S (F : PF) (a : Int32) : Nat → Nat → Int32 → Int32
  | 0, _, s => s
  | k + 1, c, s => sd_S F a k (c + 1) (s + of_F F (nI c) a)
theorem so_eq {F : PF} (h : pf_wf F) (a : Int32) : ∀ (k c : Nat) (s : Int32), os_S (pf_of F) (pf_p F) a k c s = so_S F a k c s := by
  intro k
  induction k with
  | zero => intro c s; rfl
  | succ k ih => intro c s; unfold os_S so_S; rw [of_eq h, ih]
theorem sd_eq {F : PF} (h : pf_wf F) (a : Int32) : ∀ (k c : Nat) (s : Int32), od_S (pf_of F) (pf_p F) a k c s = sd_S F a k c s := by
  intro k
  induction k with
  | zero => intro c s; rfl
  | succ k ih => intro c s; unfold od_S sd_S; rw [of_eq h, ih]
theorem q_owesInAll (hk : k < 5) (hw : pf_wf (gT S k)) (a : Int32) : sm_call xs n_X3_owesInAll [.ref (pl k), .int a] (hp S) = some (some (.int (so_S (gT S k) a (pf_p (gT S k)) 0 0)), hp S) := by
  rw [c_owesInAll (hp_pt (pl_q hk)) (pf_ok' hw) a, so_eq hw]
theorem q_isOwedInAll (hk : k < 5) (hw : pf_wf (gT S k)) (a : Int32) : sm_call xs n_X3_isOwedInAll [.ref (pl k), .int a] (hp S) = some (some (.int (sd_S (gT S k) a (pf_p (gT S k)) 0 0)), hp S) := by
  rw [c_isOwedInAll (hp_pt (pl_q hk)) (pf_ok' hw) a, sd_eq hw]
def ba_F (F : PF) (a : Int32) : Int32 := sd_S F a (pf_p F) 0 0 - so_S F a (pf_p F) 0 0
theorem q_balance (hk : k < 5) (hw : pf_wf (gT S k)) (a : Int32) : sm_call xs n_X3_balance [.ref (pl k), .int a] (hp S) = some (some (.int (ba_F (gT S k) a)), hp S) := by
  rw [c_balance (hp_pt (pl_q hk)) (pf_ok' hw) a]
  unfold bl_F ba_F
  rw [so_eq hw, sd_eq hw]
def mk_S (F : PF) : Nat → Nat → Int32 → Int32
  | 0, _, s => s
  | k + 1, c, s => mk_S F k (c + 1) (if pf_w F c ≤ 0 then s else s ||| (1 <<< (nI c &&& 31)))
theorem mk_eq {F : PF} : ∀ (k c : Nat) (s : Int32), c + k ≤ 9 → lk_S (pf_of F) k c s = mk_S F k c s := by
  intro k
  induction k with
  | zero => intro c s _; rfl
  | succ k ih =>
    intro c s hc
    unfold lk_S mk_S
    rw [show (pt_w (pf_of F)).getD c 0 = pf_w F c from ls_get _ (by omega), ih _ _ (by omega)]
theorem q_marbles (hk : k < 5) (hw : pf_wf (gT S k)) : sm_call xs n_X3_marbles [.ref (pl k)] (hp S) = some (some (.int (mk_S (gT S k) (pf_n (gT S k)) 0 0)), hp S) := by
  rw [c_marbles (hp_pt (pl_q hk)) (pf_ok' hw), mk_eq _ _ _ (by have := hw.1; omega)]
-- its writes
theorem q_of {c : Option (Option Value × HH)} {r : Option Value} {P : PT} {F : PF} (hk : k < 5 + gQ S) (h : wr_P c r (hp S) (pl k) P) (e : P = pf_of F) : c = some (r, hp (sT S k F)) := by
  obtain ⟨h', e1, H, f⟩ := h
  rw [e1, hp_T hk (e ▸ H) f]
theorem q_become {j : Nat} (hk : k < 5 + gQ S) (hj : j < 5 + gQ S) (hkj : k ≠ j) : sm_call xs n_X3_become [.ref (pl k), .ref (pl j)] (hp S) = some (none, hp (sT S k (gT S j))) :=
  q_of hk (w_become (hp_pt hk) (hp_pt hj) (by unfold pl; split <;> split <;> omega) (pf_len _) (pf_len _)) rfl
def la_F (F : PF) (c v : Int32) : PF := if hs_C (pf_n F) c then pf_setw F (fu (pf_w F) c.toNatClampNeg v) else F
theorem la_eq (F : PF) (c v : Int32) : pt_lay (pf_of F) (pf_n F) c v = pf_of (la_F F c v) := by
  unfold pt_lay la_F
  cases hs_C (pf_n F) c with
  | false => rfl
  | true =>
    show pt_setw (pf_of F) ((ls 9 (pf_w F)).set _ v) = _
    rw [ls_set]
    rfl
theorem q_land (hk : k < 5) (hw : pf_wf (gT S k)) (c : Int32) : sm_call xs n_X3_land [.ref (pl k), .int c] (hp S) = some (some (.int (wa_F (gT S k) c)), hp (sT S k (la_F (gT S k) c (if wa_F (gT S k) c ≤ 0 then 1 else 0)))) := by
  have h := w_land (xs := xs) (hp_pt (S := S) (pl_q hk)) (pf_ok' hw) c
  rw [wa_eq hw] at h
  exact q_of (pl_q hk) h (la_eq _ _ _)
def ga_F (F : PF) (a v : Int32) : PF := if hs_C (pf_p F) a then pf_setpu F (fu (pf_pu F) a.toNatClampNeg (if pf_pu F a.toNatClampNeg + v < 999 then pf_pu F a.toNatClampNeg + v else 999)) else F
theorem ga_eq {F : PF} (h : pf_wf F) (a v : Int32) : pt_gain (pf_of F) (pf_p F) a v = pf_of (ga_F F a v) := by
  unfold pt_gain ga_F
  cases hb : hs_C (pf_p F) a with
  | false => rfl
  | true =>
    have := h.2
    obtain ⟨j, hj, rfl⟩ := hs_C_of hb (by omega)
    show pt_setpu (pf_of F) ((ls 5 (pf_pu F)).set _ (if (ls 5 (pf_pu F)).getD _ 0 + v < 999 then (ls 5 (pf_pu F)).getD _ 0 + v else 999)) = _
    rw [ls_set, nI_clamp (by omega), ls_get _ (by omega)]
    rfl
theorem q_gain (hk : k < 5) (hw : pf_wf (gT S k)) (a v : Int32) : sm_call xs n_X3_gain [.ref (pl k), .int a, .int v] (hp S) = some (none, hp (sT S k (ga_F (gT S k) a v))) :=
  q_of (pl_q hk) (w_gain (hp_pt (pl_q hk)) (pf_ok' hw) a v) (ga_eq hw a v)
def oe_F (F : PF) (a b v : Int32) : PF := if hs_P (pf_p F) a b then pf_setd F (fu (pf_d F) (a * 5 + b).toNatClampNeg v) else F
theorem oe_eq (F : PF) (a b v : Int32) : pt_owe (pf_of F) (pf_p F) a b v = pf_of (oe_F F a b v) := by
  unfold pt_owe oe_F
  cases hs_P (pf_p F) a b with
  | false => rfl
  | true =>
    show pt_setd (pf_of F) ((ls 25 (pf_d F)).set _ v) = _
    rw [ls_set]
    rfl
theorem q_owe (hk : k < 5) (hw : pf_wf (gT S k)) (a b v : Int32) : sm_call xs n_X3_owe [.ref (pl k), .int a, .int b, .int v] (hp S) = some (none, hp (sT S k (oe_F (gT S k) a b v))) :=
  q_of (pl_q hk) (w_owe (hp_pt (pl_q hk)) (pf_ok' hw) a b v) (oe_eq _ a b v)
theorem q_clear (hk : k < 5) : sm_call xs n_X3_clearMarbles [.ref (pl k)] (hp S) = some (none, hp (sT S k (pf_setw (gT S k) (fun _ => 0)))) :=
  q_of (pl_q hk) (w_clear (hp_pt (pl_q hk)) (ls_len _ _)) (by unfold pt_clr; rw [ls_rep]; rfl)
def ti_F (F : PF) (c v : Int32) : PF := if hs_C (pf_n F) c then pf_setsl F (fu (pf_sl F) c.toNatClampNeg v) else F
theorem ti_eq (F : PF) (c v : Int32) : pt_tilt (pf_of F) (pf_n F) c v = pf_of (ti_F F c v) := by
  unfold pt_tilt ti_F
  cases hs_C (pf_n F) c with
  | false => rfl
  | true =>
    show pt_setsl (pf_of F) ((ls 9 (pf_sl F)).set _ v) = _
    rw [ls_set]
    rfl
def be_F (F : PF) (a : Nat) : PF := (a, 0, pf_s F, (fun _ => 2), (fun _ => 0), pf_k F, (fun _ => 0), (fun _ => 0))
theorem be_eq (F : PF) {a : Nat} : pt_begin (pf_of F) (nI a) = pf_of (be_F F a) := by
  unfold pt_begin
  rw [ls_rep, ls_rep, ls_rep, ls_rep]
  rfl
def jo_F (F : PF) (kd pu : Int32) : PF := if pf_p F < 5 then (pf_n F, pf_p F + 1, pf_s F, pf_sl F, pf_w F, fu (pf_k F) (pf_p F) kd, fu (pf_pu F) (pf_p F) pu, pf_d F) else F
theorem jo_eq (F : PF) (kd pu : Int32) : pt_join (pf_of F) (pf_p F) kd pu = pf_of (jo_F F kd pu) := by
  unfold pt_join jo_F
  by_cases h : pf_p F < 5
  · rw [if_pos h, if_pos h]
    show pt_setp (pt_setpu (pt_setk (pf_of F) ((ls 5 (pf_k F)).set _ kd)) ((ls 5 (pf_pu F)).set _ pu)) _ = _
    rw [ls_set, ls_set]
    rfl
  · rw [if_neg h, if_neg h]
def te_T (F : PF) (v a b c : Int32) : PF := if v = 0 then be_F F a.toNatClampNeg else if v = 1 then ti_F F a b else if v = 2 then la_F F a b else if v = 7 then oe_F F a b c else if v = 8 then pf_setd F (fun _ => 0) else jo_F F (v - 3) a
theorem te_eq (F : PF) (v a b c : Int32) (ha : v = 0 → ¬ a < 0) : pt_tell (pf_of F) (pf_n F) (pf_p F) v a b c = pf_of (te_T F v a b c) := by
  unfold pt_tell te_T
  by_cases v0 : v = 0
  · rw [if_pos v0, if_pos v0]
    obtain ⟨j, hj, rfl⟩ := nI_of (ha v0)
    rw [nI_clamp hj]
    exact be_eq F
  · rw [if_neg v0, if_neg v0]
    by_cases v1 : v = 1
    · rw [if_pos v1, if_pos v1]; exact ti_eq F a b
    · rw [if_neg v1, if_neg v1]
      by_cases v2 : v = 2
      · rw [if_pos v2, if_pos v2]; exact la_eq F a b
      · rw [if_neg v2, if_neg v2]
        by_cases v7 : v = 7
        · rw [if_pos v7, if_pos v7]; exact oe_eq F a b c
        · rw [if_neg v7, if_neg v7]
          by_cases v8 : v = 8
          · rw [if_pos v8, if_pos v8, ls_rep]; rfl
          · rw [if_neg v8, if_neg v8]; exact jo_eq F _ a
theorem q_tell (hk : k < 5) (hw : pf_wf (gT S k)) (v a b c : Int32) (ha : v = 0 → ¬ a < 0) : sm_call xs n_X3_tell [.ref (pl k), .int v, .int a, .int b, .int c] (hp S) = some (none, hp (sT S k (te_T (gT S k) v a b c))) :=
  q_of (pl_q hk) (w_tell (hp_pt (pl_q hk)) (pf_ok' hw) v a b c) (te_eq _ v a b c ha)
end PQ

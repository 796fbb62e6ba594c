section PK
variable {xs : List Int32} {S : GS}
theorem p0_c : sm_cls (hp S) (pl 0) = some 3 := pq_c (by omega)
theorem p0_0 : sm_fld (hp S) (pl 0) 3 0 = some (.int (nI (pf_n (gT S 0)))) := pq_0 (by omega)
theorem p0_1 : sm_fld (hp S) (pl 0) 3 1 = some (.int (nI (pf_p (gT S 0)))) := pq_1 (by omega)
theorem p0_2 : sm_fld (hp S) (pl 0) 3 2 = some (.int (pf_s (gT S 0))) := pq_2 (by omega)
theorem p0_3 : sm_fld (hp S) (pl 0) 3 3 = some (.ref (pl 0 + 1)) := pq_3 (by omega)
theorem p0_4 : sm_fld (hp S) (pl 0) 3 4 = some (.ref (pl 0 + 2)) := pq_4 (by omega)
theorem p0_5 : sm_fld (hp S) (pl 0) 3 5 = some (.ref (pl 0 + 3)) := pq_5 (by omega)
theorem p0_6 : sm_fld (hp S) (pl 0) 3 6 = some (.ref (pl 0 + 4)) := pq_6 (by omega)
theorem p0_7 : sm_fld (hp S) (pl 0) 3 7 = some (.ref (pl 0 + 5)) := pq_7 (by omega)
theorem p0_a1 : sm_arr (hp S) (pl 0 + 1) .int = some (ls 9 (pf_sl (gT S 0))) := pq_a1 (by omega)
theorem p0_a2 : sm_arr (hp S) (pl 0 + 2) .int = some (ls 9 (pf_w (gT S 0))) := pq_a2 (by omega)
theorem p0_a3 : sm_arr (hp S) (pl 0 + 3) .int = some (ls 5 (pf_k (gT S 0))) := pq_a3 (by omega)
theorem p0_a4 : sm_arr (hp S) (pl 0 + 4) .int = some (ls 5 (pf_pu (gT S 0))) := pq_a4 (by omega)
theorem p0_a5 : sm_arr (hp S) (pl 0 + 5) .int = some (ls 25 (pf_d (gT S 0))) := pq_a5 (by omega)
theorem p0_w2 (x : Int32) : sm_fset (hp S) (pl 0) 2 (.int x) = hp (sT S 0 (pf_sets (gT S 0) x)) := pq_w2 (by omega) x
theorem p0_s1 (f : Nat → Int32) {c : Nat} (x : Int32) (hc : c < 9) : sm_aset (hp S) (pl 0 + 1) .int (some (ls 9 f)) (nI c) x = hp (sT S 0 (pf_setsl (gT S 0) (fu f c x))) := pq_s1 (by omega) f x hc
theorem p1_c : sm_cls (hp S) (pl 1) = some 3 := pq_c (by omega)
theorem p1_0 : sm_fld (hp S) (pl 1) 3 0 = some (.int (nI (pf_n (gT S 1)))) := pq_0 (by omega)
theorem p1_1 : sm_fld (hp S) (pl 1) 3 1 = some (.int (nI (pf_p (gT S 1)))) := pq_1 (by omega)
theorem p1_2 : sm_fld (hp S) (pl 1) 3 2 = some (.int (pf_s (gT S 1))) := pq_2 (by omega)
theorem p1_3 : sm_fld (hp S) (pl 1) 3 3 = some (.ref (pl 1 + 1)) := pq_3 (by omega)
theorem p1_4 : sm_fld (hp S) (pl 1) 3 4 = some (.ref (pl 1 + 2)) := pq_4 (by omega)
theorem p1_5 : sm_fld (hp S) (pl 1) 3 5 = some (.ref (pl 1 + 3)) := pq_5 (by omega)
theorem p1_6 : sm_fld (hp S) (pl 1) 3 6 = some (.ref (pl 1 + 4)) := pq_6 (by omega)
theorem p1_7 : sm_fld (hp S) (pl 1) 3 7 = some (.ref (pl 1 + 5)) := pq_7 (by omega)
theorem p1_a1 : sm_arr (hp S) (pl 1 + 1) .int = some (ls 9 (pf_sl (gT S 1))) := pq_a1 (by omega)
theorem p1_a2 : sm_arr (hp S) (pl 1 + 2) .int = some (ls 9 (pf_w (gT S 1))) := pq_a2 (by omega)
theorem p1_a3 : sm_arr (hp S) (pl 1 + 3) .int = some (ls 5 (pf_k (gT S 1))) := pq_a3 (by omega)
theorem p1_a4 : sm_arr (hp S) (pl 1 + 4) .int = some (ls 5 (pf_pu (gT S 1))) := pq_a4 (by omega)
theorem p1_a5 : sm_arr (hp S) (pl 1 + 5) .int = some (ls 25 (pf_d (gT S 1))) := pq_a5 (by omega)
theorem p1_w2 (x : Int32) : sm_fset (hp S) (pl 1) 2 (.int x) = hp (sT S 1 (pf_sets (gT S 1) x)) := pq_w2 (by omega) x
theorem p1_s1 (f : Nat → Int32) {c : Nat} (x : Int32) (hc : c < 9) : sm_aset (hp S) (pl 1 + 1) .int (some (ls 9 f)) (nI c) x = hp (sT S 1 (pf_setsl (gT S 1) (fu f c x))) := pq_s1 (by omega) f x hc
theorem p2_c : sm_cls (hp S) (pl 2) = some 3 := pq_c (by omega)
theorem p2_0 : sm_fld (hp S) (pl 2) 3 0 = some (.int (nI (pf_n (gT S 2)))) := pq_0 (by omega)
theorem p2_1 : sm_fld (hp S) (pl 2) 3 1 = some (.int (nI (pf_p (gT S 2)))) := pq_1 (by omega)
theorem p2_2 : sm_fld (hp S) (pl 2) 3 2 = some (.int (pf_s (gT S 2))) := pq_2 (by omega)
theorem p2_3 : sm_fld (hp S) (pl 2) 3 3 = some (.ref (pl 2 + 1)) := pq_3 (by omega)
theorem p2_4 : sm_fld (hp S) (pl 2) 3 4 = some (.ref (pl 2 + 2)) := pq_4 (by omega)
theorem p2_5 : sm_fld (hp S) (pl 2) 3 5 = some (.ref (pl 2 + 3)) := pq_5 (by omega)
theorem p2_6 : sm_fld (hp S) (pl 2) 3 6 = some (.ref (pl 2 + 4)) := pq_6 (by omega)
theorem p2_7 : sm_fld (hp S) (pl 2) 3 7 = some (.ref (pl 2 + 5)) := pq_7 (by omega)
theorem p2_a1 : sm_arr (hp S) (pl 2 + 1) .int = some (ls 9 (pf_sl (gT S 2))) := pq_a1 (by omega)
theorem p2_a2 : sm_arr (hp S) (pl 2 + 2) .int = some (ls 9 (pf_w (gT S 2))) := pq_a2 (by omega)
theorem p2_a3 : sm_arr (hp S) (pl 2 + 3) .int = some (ls 5 (pf_k (gT S 2))) := pq_a3 (by omega)
theorem p2_a4 : sm_arr (hp S) (pl 2 + 4) .int = some (ls 5 (pf_pu (gT S 2))) := pq_a4 (by omega)
theorem p2_a5 : sm_arr (hp S) (pl 2 + 5) .int = some (ls 25 (pf_d (gT S 2))) := pq_a5 (by omega)
theorem p2_w2 (x : Int32) : sm_fset (hp S) (pl 2) 2 (.int x) = hp (sT S 2 (pf_sets (gT S 2) x)) := pq_w2 (by omega) x
theorem p2_s1 (f : Nat → Int32) {c : Nat} (x : Int32) (hc : c < 9) : sm_aset (hp S) (pl 2 + 1) .int (some (ls 9 f)) (nI c) x = hp (sT S 2 (pf_setsl (gT S 2) (fu f c x))) := pq_s1 (by omega) f x hc
theorem p3_c : sm_cls (hp S) (pl 3) = some 3 := pq_c (by omega)
theorem p3_0 : sm_fld (hp S) (pl 3) 3 0 = some (.int (nI (pf_n (gT S 3)))) := pq_0 (by omega)
theorem p3_1 : sm_fld (hp S) (pl 3) 3 1 = some (.int (nI (pf_p (gT S 3)))) := pq_1 (by omega)
theorem p3_2 : sm_fld (hp S) (pl 3) 3 2 = some (.int (pf_s (gT S 3))) := pq_2 (by omega)
theorem p3_3 : sm_fld (hp S) (pl 3) 3 3 = some (.ref (pl 3 + 1)) := pq_3 (by omega)
theorem p3_4 : sm_fld (hp S) (pl 3) 3 4 = some (.ref (pl 3 + 2)) := pq_4 (by omega)
theorem p3_5 : sm_fld (hp S) (pl 3) 3 5 = some (.ref (pl 3 + 3)) := pq_5 (by omega)
theorem p3_6 : sm_fld (hp S) (pl 3) 3 6 = some (.ref (pl 3 + 4)) := pq_6 (by omega)
theorem p3_7 : sm_fld (hp S) (pl 3) 3 7 = some (.ref (pl 3 + 5)) := pq_7 (by omega)
theorem p3_a1 : sm_arr (hp S) (pl 3 + 1) .int = some (ls 9 (pf_sl (gT S 3))) := pq_a1 (by omega)
theorem p3_a2 : sm_arr (hp S) (pl 3 + 2) .int = some (ls 9 (pf_w (gT S 3))) := pq_a2 (by omega)
theorem p3_a3 : sm_arr (hp S) (pl 3 + 3) .int = some (ls 5 (pf_k (gT S 3))) := pq_a3 (by omega)
theorem p3_a4 : sm_arr (hp S) (pl 3 + 4) .int = some (ls 5 (pf_pu (gT S 3))) := pq_a4 (by omega)
theorem p3_a5 : sm_arr (hp S) (pl 3 + 5) .int = some (ls 25 (pf_d (gT S 3))) := pq_a5 (by omega)
theorem p3_w2 (x : Int32) : sm_fset (hp S) (pl 3) 2 (.int x) = hp (sT S 3 (pf_sets (gT S 3) x)) := pq_w2 (by omega) x
theorem p3_s1 (f : Nat → Int32) {c : Nat} (x : Int32) (hc : c < 9) : sm_aset (hp S) (pl 3 + 1) .int (some (ls 9 f)) (nI c) x = hp (sT S 3 (pf_setsl (gT S 3) (fu f c x))) := pq_s1 (by omega) f x hc
theorem p4_c : sm_cls (hp S) (pl 4) = some 3 := pq_c (by omega)
theorem p4_0 : sm_fld (hp S) (pl 4) 3 0 = some (.int (nI (pf_n (gT S 4)))) := pq_0 (by omega)
theorem p4_1 : sm_fld (hp S) (pl 4) 3 1 = some (.int (nI (pf_p (gT S 4)))) := pq_1 (by omega)
theorem p4_2 : sm_fld (hp S) (pl 4) 3 2 = some (.int (pf_s (gT S 4))) := pq_2 (by omega)
theorem p4_3 : sm_fld (hp S) (pl 4) 3 3 = some (.ref (pl 4 + 1)) := pq_3 (by omega)
theorem p4_4 : sm_fld (hp S) (pl 4) 3 4 = some (.ref (pl 4 + 2)) := pq_4 (by omega)
theorem p4_5 : sm_fld (hp S) (pl 4) 3 5 = some (.ref (pl 4 + 3)) := pq_5 (by omega)
theorem p4_6 : sm_fld (hp S) (pl 4) 3 6 = some (.ref (pl 4 + 4)) := pq_6 (by omega)
theorem p4_7 : sm_fld (hp S) (pl 4) 3 7 = some (.ref (pl 4 + 5)) := pq_7 (by omega)
theorem p4_a1 : sm_arr (hp S) (pl 4 + 1) .int = some (ls 9 (pf_sl (gT S 4))) := pq_a1 (by omega)
theorem p4_a2 : sm_arr (hp S) (pl 4 + 2) .int = some (ls 9 (pf_w (gT S 4))) := pq_a2 (by omega)
theorem p4_a3 : sm_arr (hp S) (pl 4 + 3) .int = some (ls 5 (pf_k (gT S 4))) := pq_a3 (by omega)
theorem p4_a4 : sm_arr (hp S) (pl 4 + 4) .int = some (ls 5 (pf_pu (gT S 4))) := pq_a4 (by omega)
theorem p4_a5 : sm_arr (hp S) (pl 4 + 5) .int = some (ls 25 (pf_d (gT S 4))) := pq_a5 (by omega)
theorem p4_w2 (x : Int32) : sm_fset (hp S) (pl 4) 2 (.int x) = hp (sT S 4 (pf_sets (gT S 4) x)) := pq_w2 (by omega) x
theorem p4_s1 (f : Nat → Int32) {c : Nat} (x : Int32) (hc : c < 9) : sm_aset (hp S) (pl 4 + 1) .int (some (ls 9 f)) (nI c) x = hp (sT S 4 (pf_setsl (gT S 4) (fu f c x))) := pq_s1 (by omega) f x hc
theorem p1_roll (hw : pf_wf (gT S 1)) (f : Int32) : sm_call xs n_X3_roll [.ref (pl 1), .int f] (hp S) = some (some (.int (rf_F (gT S 1) f)), hp S) := q_roll (by omega) hw f
theorem p1_hasCell (hw : pf_wf (gT S 1)) (c : Int32) : sm_call xs n_X3_hasCell [.ref (pl 1), .int c] (hp S) = some (some (.int (b2i (hs_C (pf_n (gT S 1)) c))), hp S) := q_hasCell (by omega) hw c
theorem p1_hasPlayer (hw : pf_wf (gT S 1)) (c : Int32) : sm_call xs n_X3_hasPlayer [.ref (pl 1), .int c] (hp S) = some (some (.int (b2i (hs_C (pf_p (gT S 1)) c))), hp S) := q_hasPlayer (by omega) hw c
theorem p1_hasPair (hw : pf_wf (gT S 1)) (a b : Int32) : sm_call xs n_X3_hasPair [.ref (pl 1), .int a, .int b] (hp S) = some (some (.int (b2i (hs_P (pf_p (gT S 1)) a b))), hp S) := q_hasPair (by omega) hw a b
theorem p1_worthAt (hw : pf_wf (gT S 1)) (c : Int32) : sm_call xs n_X3_worthAt [.ref (pl 1), .int c] (hp S) = some (some (.int (wa_F (gT S 1) c)), hp S) := q_worthAt (by omega) hw c
theorem p1_owes (hw : pf_wf (gT S 1)) (a b : Int32) : sm_call xs n_X3_owes [.ref (pl 1), .int a, .int b] (hp S) = some (some (.int (of_F (gT S 1) a b)), hp S) := q_owes (by omega) hw a b
theorem p1_owesInAll (hw : pf_wf (gT S 1)) (a : Int32) : sm_call xs n_X3_owesInAll [.ref (pl 1), .int a] (hp S) = some (some (.int (so_S (gT S 1) a (pf_p (gT S 1)) 0 0)), hp S) := q_owesInAll (by omega) hw a
theorem p1_isOwedInAll (hw : pf_wf (gT S 1)) (a : Int32) : sm_call xs n_X3_isOwedInAll [.ref (pl 1), .int a] (hp S) = some (some (.int (sd_S (gT S 1) a (pf_p (gT S 1)) 0 0)), hp S) := q_isOwedInAll (by omega) hw a
theorem p1_balance (hw : pf_wf (gT S 1)) (a : Int32) : sm_call xs n_X3_balance [.ref (pl 1), .int a] (hp S) = some (some (.int (ba_F (gT S 1) a)), hp S) := q_balance (by omega) hw a
theorem p1_marbles (hw : pf_wf (gT S 1))  : sm_call xs n_X3_marbles [.ref (pl 1)] (hp S) = some (some (.int (mk_S (gT S 1) (pf_n (gT S 1)) 0 0)), hp S) := q_marbles (by omega) hw 
theorem p1_land (hw : pf_wf (gT S 1)) (c : Int32) : sm_call xs n_X3_land [.ref (pl 1), .int c] (hp S) = some (some (.int (wa_F (gT S 1) c)), hp (sT S 1 (la_F (gT S 1) c (if wa_F (gT S 1) c ≤ 0 then 1 else 0)))) := q_land (by omega) hw c
theorem p1_gain (hw : pf_wf (gT S 1)) (a v : Int32) : sm_call xs n_X3_gain [.ref (pl 1), .int a, .int v] (hp S) = some (none, hp (sT S 1 (ga_F (gT S 1) a v))) := q_gain (by omega) hw a v
theorem p1_owe (hw : pf_wf (gT S 1)) (a b v : Int32) : sm_call xs n_X3_owe [.ref (pl 1), .int a, .int b, .int v] (hp S) = some (none, hp (sT S 1 (oe_F (gT S 1) a b v))) := q_owe (by omega) hw a b v
theorem p4_roll (hw : pf_wf (gT S 4)) (f : Int32) : sm_call xs n_X3_roll [.ref (pl 4), .int f] (hp S) = some (some (.int (rf_F (gT S 4) f)), hp S) := q_roll (by omega) hw f
theorem p4_hasCell (hw : pf_wf (gT S 4)) (c : Int32) : sm_call xs n_X3_hasCell [.ref (pl 4), .int c] (hp S) = some (some (.int (b2i (hs_C (pf_n (gT S 4)) c))), hp S) := q_hasCell (by omega) hw c
theorem p4_hasPlayer (hw : pf_wf (gT S 4)) (c : Int32) : sm_call xs n_X3_hasPlayer [.ref (pl 4), .int c] (hp S) = some (some (.int (b2i (hs_C (pf_p (gT S 4)) c))), hp S) := q_hasPlayer (by omega) hw c
theorem p4_hasPair (hw : pf_wf (gT S 4)) (a b : Int32) : sm_call xs n_X3_hasPair [.ref (pl 4), .int a, .int b] (hp S) = some (some (.int (b2i (hs_P (pf_p (gT S 4)) a b))), hp S) := q_hasPair (by omega) hw a b
theorem p4_worthAt (hw : pf_wf (gT S 4)) (c : Int32) : sm_call xs n_X3_worthAt [.ref (pl 4), .int c] (hp S) = some (some (.int (wa_F (gT S 4) c)), hp S) := q_worthAt (by omega) hw c
theorem p4_owes (hw : pf_wf (gT S 4)) (a b : Int32) : sm_call xs n_X3_owes [.ref (pl 4), .int a, .int b] (hp S) = some (some (.int (of_F (gT S 4) a b)), hp S) := q_owes (by omega) hw a b
theorem p4_owesInAll (hw : pf_wf (gT S 4)) (a : Int32) : sm_call xs n_X3_owesInAll [.ref (pl 4), .int a] (hp S) = some (some (.int (so_S (gT S 4) a (pf_p (gT S 4)) 0 0)), hp S) := q_owesInAll (by omega) hw a
theorem p4_isOwedInAll (hw : pf_wf (gT S 4)) (a : Int32) : sm_call xs n_X3_isOwedInAll [.ref (pl 4), .int a] (hp S) = some (some (.int (sd_S (gT S 4) a (pf_p (gT S 4)) 0 0)), hp S) := q_isOwedInAll (by omega) hw a
theorem p4_balance (hw : pf_wf (gT S 4)) (a : Int32) : sm_call xs n_X3_balance [.ref (pl 4), .int a] (hp S) = some (some (.int (ba_F (gT S 4) a)), hp S) := q_balance (by omega) hw a
theorem p4_marbles (hw : pf_wf (gT S 4))  : sm_call xs n_X3_marbles [.ref (pl 4)] (hp S) = some (some (.int (mk_S (gT S 4) (pf_n (gT S 4)) 0 0)), hp S) := q_marbles (by omega) hw 
theorem p4_land (hw : pf_wf (gT S 4)) (c : Int32) : sm_call xs n_X3_land [.ref (pl 4), .int c] (hp S) = some (some (.int (wa_F (gT S 4) c)), hp (sT S 4 (la_F (gT S 4) c (if wa_F (gT S 4) c ≤ 0 then 1 else 0)))) := q_land (by omega) hw c
theorem p4_gain (hw : pf_wf (gT S 4)) (a v : Int32) : sm_call xs n_X3_gain [.ref (pl 4), .int a, .int v] (hp S) = some (none, hp (sT S 4 (ga_F (gT S 4) a v))) := q_gain (by omega) hw a v
theorem p4_owe (hw : pf_wf (gT S 4)) (a b v : Int32) : sm_call xs n_X3_owe [.ref (pl 4), .int a, .int b, .int v] (hp S) = some (none, hp (sT S 4 (oe_F (gT S 4) a b v))) := q_owe (by omega) hw a b v
theorem p4_clear : sm_call xs n_X3_clearMarbles [.ref (pl 4)] (hp S) = some (none, hp (sT S 4 (pf_setw (gT S 4) (fun _ => 0)))) := q_clear (by omega)
theorem pb_10 : sm_call xs n_X3_become [.ref (pl 1), .ref (pl 0)] (hp S) = some (none, hp (sT S 1 (gT S 0))) := q_become (by omega) (by omega) (by omega)
theorem pb_21 : sm_call xs n_X3_become [.ref (pl 2), .ref (pl 1)] (hp S) = some (none, hp (sT S 2 (gT S 1))) := q_become (by omega) (by omega) (by omega)
theorem pb_31 : sm_call xs n_X3_become [.ref (pl 3), .ref (pl 1)] (hp S) = some (none, hp (sT S 3 (gT S 1))) := q_become (by omega) (by omega) (by omega)
theorem pb_12 : sm_call xs n_X3_become [.ref (pl 1), .ref (pl 2)] (hp S) = some (none, hp (sT S 1 (gT S 2))) := q_become (by omega) (by omega) (by omega)
theorem pb_13 : sm_call xs n_X3_become [.ref (pl 1), .ref (pl 3)] (hp S) = some (none, hp (sT S 1 (gT S 3))) := q_become (by omega) (by omega) (by omega)
theorem pb_41 : sm_call xs n_X3_become [.ref (pl 4), .ref (pl 1)] (hp S) = some (none, hp (sT S 4 (gT S 1))) := q_become (by omega) (by omega) (by omega)
theorem ci_0_255 {h : HH} (c : Int32) : sm_call xs n_X10_in [.long c.toInt64, .long 0, .long 255] h = some (some (.int (b2i (rg_B 0 255 c))), h) := by rw [c_in, in_L (a := 0) (b := 255) rfl rfl]
theorem ci_0_1 {h : HH} (c : Int32) : sm_call xs n_X10_in [.long c.toInt64, .long 0, .long 1] h = some (some (.int (b2i (rg_B 0 1 c))), h) := by rw [c_in, in_L (a := 0) (b := 1) rfl rfl]
theorem ci_0_9 {h : HH} (c : Int32) : sm_call xs n_X10_in [.long c.toInt64, .long 0, .long 9] h = some (some (.int (b2i (rg_B 0 9 c))), h) := by rw [c_in, in_L (a := 0) (b := 9) rfl rfl]
theorem ci_0_9999 {h : HH} (c : Int32) : sm_call xs n_X10_in [.long c.toInt64, .long 0, .long 9999] h = some (some (.int (b2i (rg_B 0 9999 c))), h) := by rw [c_in, in_L (a := 0) (b := 9999) rfl rfl]
theorem ci_1_99 {h : HH} (c : Int32) : sm_call xs n_X10_in [.long c.toInt64, .long 1, .long 99] h = some (some (.int (b2i (rg_B 1 99 c))), h) := by rw [c_in, in_L (a := 1) (b := 99) rfl rfl]
theorem ci_0_4 {h : HH} (c : Int32) : sm_call xs n_X10_in [.long c.toInt64, .long 0, .long 4] h = some (some (.int (b2i (rg_B 0 4 c))), h) := by rw [c_in, in_L (a := 0) (b := 4) rfl rfl]
theorem ci_0_8 {h : HH} (c : Int32) : sm_call xs n_X10_in [.long c.toInt64, .long 0, .long 8] h = some (some (.int (b2i (rg_B 0 8 c))), h) := by rw [c_in, in_L (a := 0) (b := 8) rfl rfl]
theorem ci_1_8 {h : HH} (c : Int32) : sm_call xs n_X10_in [.long c.toInt64, .long 1, .long 8] h = some (some (.int (b2i (rg_B 1 8 c))), h) := by rw [c_in, in_L (a := 1) (b := 8) rfl rfl]
theorem ci_0_10 {h : HH} (c : Int32) : sm_call xs n_X10_in [.long c.toInt64, .long 0, .long 10] h = some (some (.int (b2i (rg_B 0 10 c))), h) := by rw [c_in, in_L (a := 0) (b := 10) rfl rfl]
theorem ci_0_6 {h : HH} (c : Int32) : sm_call xs n_X10_in [.long c.toInt64, .long 0, .long 6] h = some (some (.int (b2i (rg_B 0 6 c))), h) := by rw [c_in, in_L (a := 0) (b := 6) rfl rfl]
end PK
theorem cf_n (n p : Nat) (G D : Nat → Int32) : pf_n (cF n p G D) = (n) := id rfl
theorem cf_p (n p : Nat) (G D : Nat → Int32) : pf_p (cF n p G D) = (p) := id rfl
theorem cf_s (n p : Nat) (G D : Nat → Int32) : pf_s (cF n p G D) = (D 39) := id rfl
theorem cf_sl (n p : Nat) (G D : Nat → Int32) : pf_sl (cF n p G D) = (fun c => G (1 + c)) := id rfl
theorem cf_w (n p : Nat) (G D : Nat → Int32) : pf_w (cF n p G D) = (D) := id rfl
theorem cf_k (n p : Nat) (G D : Nat → Int32) : pf_k (cF n p G D) = (fun j => G (11 + j)) := id rfl
theorem cf_pu (n p : Nat) (G D : Nat → Int32) : pf_pu (cF n p G D) = (fun j => D (9 + j)) := id rfl
theorem cf_d (n p : Nat) (G D : Nat → Int32) : pf_d (cF n p G D) = (fun k => D (14 + k)) := id rfl
theorem cf_wf {n p : Nat} (hn : n ≤ 9) (hp : p ≤ 5) (G D : Nat → Int32) : pf_wf (cF n p G D) := ⟨hn, hp⟩
/-- which of the patches of the past the i-th remembered one is -/
def pt_t (nw sz i : Nat) : Nat := (nw + 8 + i - sz) % 8
/-- what the two have in common -/
def cplx (n p len sz nw sn : Nat) (S : GS) : Prop := gk0 n p (gA S 1) (gA S 2) ∧ dok n p (gA S 5) ∧ gT S 0 = cF n p (gA S 1) (gA S 2) ∧ gT S 1 = cF n p (gA S 1) (gA S 5)
  ∧ (gA S 9 0 = gN S 9 ∧ (gN S 9 = 0 ∨ (gN S 9 = 1 ∧ gT S 2 = cF n p (gA S 1) (fun k => gA S 8 (40 * 0 + k)) ∧ dok n p (fun k => gA S 8 (40 * 0 + k)))))
  ∧ (gA S 9 1 = gN S 10 ∧ (gN S 10 = 0 ∨ (gN S 10 = 1 ∧ gT S 3 = cF n p (gA S 1) (fun k => gA S 8 (40 * 1 + k)) ∧ dok n p (fun k => gA S 8 (40 * 1 + k)))))
  ∧ (gN S 0 = nI sz ∧ gN S 1 = nI nw ∧ gI S 12 = nI sz ∧ sz ≤ 8 ∧ nw < 8 ∧ nw ≤ gQ S ∧ gQ S ≤ 8 ∧ (∀ i, i < sz → pt_t nw sz i < gQ S ∧ gT S (5 + pt_t nw sz i) = cF n p (gA S 1) (fun k => gA S 7 (40 * i + k)) ∧ dok n p (fun k => gA S 7 (40 * i + k))))
  ∧ (gN S 2 = nI sn ∧ gI S 17 = nI sn ∧ sn ≤ 6 ∧ gR S 0 = gA S 11 ∧ gR S 1 = gA S 12)
  ∧ (gN S 3 = nI len ∧ gI S 6 = nI len ∧ len ≤ 160 ∧ gR S 2 = gA S 6) ∧ gR S 5 0 = 0
def cpl (S : GS) : Prop := ∃ n p len sz nw sn, cplx n p len sz nw sn S
/-- a call of both: the same answer, and they still have it in common -/
def jt (xs : List Int32) (S : GS) (m1 m2 : Nat) (as : List Value) : Prop := ∃ v S1 S2, sm_call xs m1 (.ref 0 :: as) (hp S) = some (some v, hp S1) ∧ sm_call xs m2 (.ref 45 :: as) (hp S1) = some (some v, hp S2) ∧ cpl S2
theorem jt_same {xs : List Int32} {S : GS} {m1 m2 : Nat} {as : List Value} (v : Value) (C : cpl S) (h1 : sm_call xs m1 (.ref 0 :: as) (hp S) = some (some v, hp S)) (h2 : sm_call xs m2 (.ref 45 :: as) (hp S) = some (some v, hp S)) : jt xs S m1 m2 as := ⟨v, S, S, h1, h2, C⟩


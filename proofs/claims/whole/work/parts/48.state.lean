theorem zr_some (a : Option Value) (h : HH) : sm_rr (some (a, h)) = a := id rfl
theorem zh_some (a : Option Value) (h : HH) : sm_rh (some (a, h)) = h := id rfl
-- rows as functions: the first n
def ls (n : Nat) (f : Nat → Int32) : List Int32 := (List.range n).map f
theorem ls_len (n : Nat) (f : Nat → Int32) : (ls n f).length = n := by simp [ls]
theorem ls_get {n k : Nat} (f : Nat → Int32) (hk : k < n) : (ls n f).getD k 0 = f k := by
  simp [ls, List.getD_eq_getElem?_getD, hk]
theorem ls_set (n k : Nat) (f : Nat → Int32) (x : Int32) : (ls n f).set k x = ls n (fu f k x) := by
  apply List.ext_getElem
  · simp [ls]
  · intro j h1 h2
    simp only [ls, List.getElem_set, List.getElem_map, List.getElem_range, fu]
    by_cases h : k = j
    · rw [if_pos h, if_pos h.symm]
    · rw [if_neg h, if_neg (fun e => h e.symm)]
theorem ls_rep (n : Nat) (v : Int32) : List.replicate n v = ls n (fun _ => v) := by
  apply List.ext_getElem
  · simp [ls]
  · intro j h1 h2
    simp [ls]
theorem ls_of {l : List Int32} {n : Nat} (h : l.length = n) : l = ls n (fun k => l.getD k 0) := by
  apply List.ext_getElem
  · rw [ls_len, h]
  · intro j h1 h2
    simp [ls, List.getD_eq_getElem?_getD, h1]
theorem ls_ext {n : Nat} {f g : Nat → Int32} (h : ∀ k, k < n → f k = g k) : ls n f = ls n g := by
  unfold ls
  apply List.map_congr_left
  intro k hk
  exact h k (List.mem_range.mp hk)
theorem fu_s {α : Type} (f : Nat → α) (k : Nat) (v : α) : fu f k v k = v := if_pos rfl
theorem fu_n {α : Type} {f : Nat → α} {k j : Nat} {v : α} (h : j ≠ k) : fu f k v j = f j := if_neg h
theorem fu_fu {α : Type} (f : Nat → α) (k : Nat) (a b : α) : fu (fu f k a) k b = fu f k b := by
  funext j
  unfold fu
  by_cases h : j = k
  · rw [if_pos h, if_pos h]
  · rw [if_neg h, if_neg h, if_neg h]
theorem fu_id {α : Type} (f : Nat → α) (k : Nat) : fu f k (f k) = f := by
  funext j
  unfold fu
  by_cases h : j = k
  · rw [if_pos h, h]
  · rw [if_neg h]
theorem ai_r {n k : Nat} {f : Nat → Int32} (h : k < n ∧ n ≤ 1000) : sm_inr (some (ls n f)) (nI k) = true := sm_inr_nI (by rw [ls_len]; exact h.1) (by rw [ls_len]; omega)
theorem ai_e {n k : Nat} {f : Nat → Int32} (h : k < n ∧ n ≤ 1000) : sm_el (some (ls n f)) (nI k) = f k := (sm_el_nI (by omega)).trans (ls_get f h.1)
/-- a patch, its rows as functions: cells, players, shots; slope, worth, kind, purse, debts -/
abbrev PF : Type := Nat × Nat × Int32 × (Nat → Int32) × (Nat → Int32) × (Nat → Int32) × (Nat → Int32) × (Nat → Int32)
def pf_n (F : PF) : Nat := F.1
def pf_p (F : PF) : Nat := F.2.1
def pf_s (F : PF) : Int32 := F.2.2.1
def pf_sl (F : PF) : Nat → Int32 := F.2.2.2.1
def pf_w (F : PF) : Nat → Int32 := F.2.2.2.2.1
def pf_k (F : PF) : Nat → Int32 := F.2.2.2.2.2.1
def pf_pu (F : PF) : Nat → Int32 := F.2.2.2.2.2.2.1
def pf_d (F : PF) : Nat → Int32 := F.2.2.2.2.2.2.2
def pf_sets (F : PF) (x : Int32) : PF := (F.1, F.2.1, x, F.2.2.2)
def pf_setsl (F : PF) (f : Nat → Int32) : PF := (F.1, F.2.1, F.2.2.1, f, F.2.2.2.2)
def pf_setw (F : PF) (f : Nat → Int32) : PF := (F.1, F.2.1, F.2.2.1, F.2.2.2.1, f, F.2.2.2.2.2)
def pf_setpu (F : PF) (f : Nat → Int32) : PF := (F.1, F.2.1, F.2.2.1, F.2.2.2.1, F.2.2.2.2.1, F.2.2.2.2.2.1, f, F.2.2.2.2.2.2.2)
def pf_setd (F : PF) (f : Nat → Int32) : PF := (F.1, F.2.1, F.2.2.1, F.2.2.2.1, F.2.2.2.2.1, F.2.2.2.2.2.1, F.2.2.2.2.2.2.1, f)
def pf_of (F : PF) : PT := (nI (pf_n F), nI (pf_p F), pf_s F, ls 9 (pf_sl F), ls 9 (pf_w F), ls 5 (pf_k F), ls 5 (pf_pu F), ls 25 (pf_d F))
theorem pf_ok {F : PF} (hn : pf_n F ≤ 9) (hp : pf_p F ≤ 5) : pt_ok (pf_of F) (pf_n F) (pf_p F) := ⟨rfl, rfl, hn, hp, ls_len _ _, ls_len _ _, ls_len _ _, ls_len _ _, ls_len _ _⟩
theorem pf_len (F : PF) : pt_len (pf_of F) := ⟨ls_len _ _, ls_len _ _, ls_len _ _, ls_len _ _, ls_len _ _⟩
/-- the state: patches (0 told, 1 now, 2 kept0, 3 kept1, 4 trial, 5.. of the past), how many of the past are made, its own numbers and rows, the numbers and rows of the reference -/
abbrev GS : Type := (Nat → PF) × Nat × (Nat → Int32) × (Nat → Nat → Int32) × (Nat → Int32) × (Nat → Nat → Int32)
def gT (S : GS) : Nat → PF := S.1
def gQ (S : GS) : Nat := S.2.1
def gN (S : GS) : Nat → Int32 := S.2.2.1
def gR (S : GS) : Nat → Nat → Int32 := S.2.2.2.1
def gI (S : GS) : Nat → Int32 := S.2.2.2.2.1
def gA (S : GS) : Nat → Nat → Int32 := S.2.2.2.2.2
def sT (S : GS) (k : Nat) (F : PF) : GS := (fu (gT S) k F, S.2)
def sQ (S : GS) (q : Nat) : GS := (gT S, q, S.2.2)
def sN (S : GS) (k : Nat) (x : Int32) : GS := (gT S, gQ S, fu (gN S) k x, S.2.2.2)
def sR (S : GS) (k : Nat) (f : Nat → Int32) : GS := (gT S, gQ S, gN S, fu (gR S) k f, S.2.2.2.2)
def sI (S : GS) (k : Nat) (x : Int32) : GS := (gT S, gQ S, gN S, gR S, fu (gI S) k x, gA S)
def sA (S : GS) (k : Nat) (f : Nat → Int32) : GS := (gT S, gQ S, gN S, gR S, gI S, fu (gA S) k f)

theorem gT_sT (S : GS) (k : Nat) (x : PF) : gT (sT S k x) = fu (gT S) k x := id rfl
theorem gQ_sT (S : GS) (k : Nat) (x : PF) : gQ (sT S k x) = gQ S := id rfl
theorem gN_sT (S : GS) (k : Nat) (x : PF) : gN (sT S k x) = gN S := id rfl
theorem gR_sT (S : GS) (k : Nat) (x : PF) : gR (sT S k x) = gR S := id rfl
theorem gI_sT (S : GS) (k : Nat) (x : PF) : gI (sT S k x) = gI S := id rfl
theorem gA_sT (S : GS) (k : Nat) (x : PF) : gA (sT S k x) = gA S := id rfl
theorem gT_sQ (S : GS) (q : Nat) : gT (sQ S q) = gT S := id rfl
theorem gQ_sQ (S : GS) (q : Nat) : gQ (sQ S q) = q := id rfl
theorem gN_sQ (S : GS) (q : Nat) : gN (sQ S q) = gN S := id rfl
theorem gR_sQ (S : GS) (q : Nat) : gR (sQ S q) = gR S := id rfl
theorem gI_sQ (S : GS) (q : Nat) : gI (sQ S q) = gI S := id rfl
theorem gA_sQ (S : GS) (q : Nat) : gA (sQ S q) = gA S := id rfl
theorem gT_sN (S : GS) (k : Nat) (x : Int32) : gT (sN S k x) = gT S := id rfl
theorem gQ_sN (S : GS) (k : Nat) (x : Int32) : gQ (sN S k x) = gQ S := id rfl
theorem gN_sN (S : GS) (k : Nat) (x : Int32) : gN (sN S k x) = fu (gN S) k x := id rfl
theorem gR_sN (S : GS) (k : Nat) (x : Int32) : gR (sN S k x) = gR S := id rfl
theorem gI_sN (S : GS) (k : Nat) (x : Int32) : gI (sN S k x) = gI S := id rfl
theorem gA_sN (S : GS) (k : Nat) (x : Int32) : gA (sN S k x) = gA S := id rfl
theorem gT_sR (S : GS) (k : Nat) (x : Nat → Int32) : gT (sR S k x) = gT S := id rfl
theorem gQ_sR (S : GS) (k : Nat) (x : Nat → Int32) : gQ (sR S k x) = gQ S := id rfl
theorem gN_sR (S : GS) (k : Nat) (x : Nat → Int32) : gN (sR S k x) = gN S := id rfl
theorem gR_sR (S : GS) (k : Nat) (x : Nat → Int32) : gR (sR S k x) = fu (gR S) k x := id rfl
theorem gI_sR (S : GS) (k : Nat) (x : Nat → Int32) : gI (sR S k x) = gI S := id rfl
theorem gA_sR (S : GS) (k : Nat) (x : Nat → Int32) : gA (sR S k x) = gA S := id rfl
theorem gT_sI (S : GS) (k : Nat) (x : Int32) : gT (sI S k x) = gT S := id rfl
theorem gQ_sI (S : GS) (k : Nat) (x : Int32) : gQ (sI S k x) = gQ S := id rfl
theorem gN_sI (S : GS) (k : Nat) (x : Int32) : gN (sI S k x) = gN S := id rfl
theorem gR_sI (S : GS) (k : Nat) (x : Int32) : gR (sI S k x) = gR S := id rfl
theorem gI_sI (S : GS) (k : Nat) (x : Int32) : gI (sI S k x) = fu (gI S) k x := id rfl
theorem gA_sI (S : GS) (k : Nat) (x : Int32) : gA (sI S k x) = gA S := id rfl
theorem gT_sA (S : GS) (k : Nat) (x : Nat → Int32) : gT (sA S k x) = gT S := id rfl
theorem gQ_sA (S : GS) (k : Nat) (x : Nat → Int32) : gQ (sA S k x) = gQ S := id rfl
theorem gN_sA (S : GS) (k : Nat) (x : Nat → Int32) : gN (sA S k x) = gN S := id rfl
theorem gR_sA (S : GS) (k : Nat) (x : Nat → Int32) : gR (sA S k x) = gR S := id rfl
theorem gI_sA (S : GS) (k : Nat) (x : Nat → Int32) : gI (sA S k x) = gI S := id rfl
theorem gA_sA (S : GS) (k : Nat) (x : Nat → Int32) : gA (sA S k x) = fu (gA S) k x := id rfl
theorem pf_n_sets (F : PF) (x : Int32) : pf_n (pf_sets F x) = pf_n F := id rfl
theorem pf_p_sets (F : PF) (x : Int32) : pf_p (pf_sets F x) = pf_p F := id rfl
theorem pf_s_sets (F : PF) (x : Int32) : pf_s (pf_sets F x) = x := id rfl
theorem pf_sl_sets (F : PF) (x : Int32) : pf_sl (pf_sets F x) = pf_sl F := id rfl
theorem pf_w_sets (F : PF) (x : Int32) : pf_w (pf_sets F x) = pf_w F := id rfl
theorem pf_k_sets (F : PF) (x : Int32) : pf_k (pf_sets F x) = pf_k F := id rfl
theorem pf_pu_sets (F : PF) (x : Int32) : pf_pu (pf_sets F x) = pf_pu F := id rfl
theorem pf_d_sets (F : PF) (x : Int32) : pf_d (pf_sets F x) = pf_d F := id rfl
theorem pf_n_setsl (F : PF) (x : Nat → Int32) : pf_n (pf_setsl F x) = pf_n F := id rfl
theorem pf_p_setsl (F : PF) (x : Nat → Int32) : pf_p (pf_setsl F x) = pf_p F := id rfl
theorem pf_s_setsl (F : PF) (x : Nat → Int32) : pf_s (pf_setsl F x) = pf_s F := id rfl
theorem pf_sl_setsl (F : PF) (x : Nat → Int32) : pf_sl (pf_setsl F x) = x := id rfl
theorem pf_w_setsl (F : PF) (x : Nat → Int32) : pf_w (pf_setsl F x) = pf_w F := id rfl
theorem pf_k_setsl (F : PF) (x : Nat → Int32) : pf_k (pf_setsl F x) = pf_k F := id rfl
theorem pf_pu_setsl (F : PF) (x : Nat → Int32) : pf_pu (pf_setsl F x) = pf_pu F := id rfl
theorem pf_d_setsl (F : PF) (x : Nat → Int32) : pf_d (pf_setsl F x) = pf_d F := id rfl
theorem pf_n_setw (F : PF) (x : Nat → Int32) : pf_n (pf_setw F x) = pf_n F := id rfl
theorem pf_p_setw (F : PF) (x : Nat → Int32) : pf_p (pf_setw F x) = pf_p F := id rfl
theorem pf_s_setw (F : PF) (x : Nat → Int32) : pf_s (pf_setw F x) = pf_s F := id rfl
theorem pf_sl_setw (F : PF) (x : Nat → Int32) : pf_sl (pf_setw F x) = pf_sl F := id rfl
theorem pf_w_setw (F : PF) (x : Nat → Int32) : pf_w (pf_setw F x) = x := id rfl
theorem pf_k_setw (F : PF) (x : Nat → Int32) : pf_k (pf_setw F x) = pf_k F := id rfl
theorem pf_pu_setw (F : PF) (x : Nat → Int32) : pf_pu (pf_setw F x) = pf_pu F := id rfl
theorem pf_d_setw (F : PF) (x : Nat → Int32) : pf_d (pf_setw F x) = pf_d F := id rfl
theorem pf_n_setpu (F : PF) (x : Nat → Int32) : pf_n (pf_setpu F x) = pf_n F := id rfl
theorem pf_p_setpu (F : PF) (x : Nat → Int32) : pf_p (pf_setpu F x) = pf_p F := id rfl
theorem pf_s_setpu (F : PF) (x : Nat → Int32) : pf_s (pf_setpu F x) = pf_s F := id rfl
theorem pf_sl_setpu (F : PF) (x : Nat → Int32) : pf_sl (pf_setpu F x) = pf_sl F := id rfl
theorem pf_w_setpu (F : PF) (x : Nat → Int32) : pf_w (pf_setpu F x) = pf_w F := id rfl
theorem pf_k_setpu (F : PF) (x : Nat → Int32) : pf_k (pf_setpu F x) = pf_k F := id rfl
theorem pf_pu_setpu (F : PF) (x : Nat → Int32) : pf_pu (pf_setpu F x) = x := id rfl
theorem pf_d_setpu (F : PF) (x : Nat → Int32) : pf_d (pf_setpu F x) = pf_d F := id rfl
theorem pf_n_setd (F : PF) (x : Nat → Int32) : pf_n (pf_setd F x) = pf_n F := id rfl
theorem pf_p_setd (F : PF) (x : Nat → Int32) : pf_p (pf_setd F x) = pf_p F := id rfl
theorem pf_s_setd (F : PF) (x : Nat → Int32) : pf_s (pf_setd F x) = pf_s F := id rfl
theorem pf_sl_setd (F : PF) (x : Nat → Int32) : pf_sl (pf_setd F x) = pf_sl F := id rfl
theorem pf_w_setd (F : PF) (x : Nat → Int32) : pf_w (pf_setd F x) = pf_w F := id rfl
theorem pf_k_setd (F : PF) (x : Nat → Int32) : pf_k (pf_setd F x) = pf_k F := id rfl
theorem pf_pu_setd (F : PF) (x : Nat → Int32) : pf_pu (pf_setd F x) = pf_pu F := id rfl
theorem pf_d_setd (F : PF) (x : Nat → Int32) : pf_d (pf_setd F x) = x := id rfl
/-- where patch k lies -/
def pl (k : Nat) : Nat := if k < 5 then 6 * k + 1 else 6 * k + 30
def pc_cell (i : Nat) (P : PT) (o : Nat) : AE := match o with
  | 0 => pt_O i P
  | 1 => .inl (.int, pt_sl P)
  | 2 => .inl (.int, pt_w P)
  | 3 => .inl (.int, pt_k P)
  | 4 => .inl (.int, pt_pu P)
  | _ => .inl (.int, pt_d P)
def pb_L (q : Nat) : List (Option Nat) := (List.range 8).map (fun k => if (k + 7) % 8 < q then some (60 + 6 * ((k + 7) % 8)) else none)
def g_O (S : GS) : List Value := [.ref (pl 0), .ref (pl 1), .ref (pl 2), .ref (pl 3), .int (gN S 9), .int (gN S 10), .ref (pl 4), .ref 31, .ref 33, .ref 36, .ref 40, .ref 41, .ref 42, .ref 43, .ref 44]
def g_mid (S : GS) (o : Nat) : AE := match o with
  | 0 => .inr (.inr (2, [.int (gN S 0), .int (gN S 1), .ref 32]))
  | 1 => .inr (.inl (pb_L (gQ S)))
  | 2 => .inr (.inr (5, [.int (gN S 2), .ref 34, .ref 35]))
  | 3 => .inl (.int, ls 6 (gR S 0))
  | 4 => .inl (.int, ls 6 (gR S 1))
  | 5 => .inr (.inr (7, [.int (gN S 3), .int (gN S 4), .ref 37, .ref 38, .ref 39, .int (gN S 5), .int (gN S 6), .int (gN S 7), .int (gN S 8)]))
  | 6 => .inl (.char, ls 160 (gR S 2))
  | 7 => .inl (.int, ls 14 (gR S 3))
  | 8 => .inl (.int, ls 42 (gR S 4))
  | 9 => .inr (.inr (6, []))
  | 10 => .inr (.inr (4, []))
  | 11 => .inr (.inr (1, []))
  | 12 => .inr (.inr (0, []))
  | 13 => .inl (.int, ls 32 (gR S 5))
  | 14 => .inr (.inr (10, md_O 45 (gI S)))
  | 15 => .inl (.int, ls 16 (gA S 1))
  | 16 => .inl (.int, ls 40 (gA S 2))
  | 17 => .inl (.int, ls 16 (gA S 3))
  | 18 => .inl (.int, ls 40 (gA S 4))
  | 19 => .inl (.int, ls 40 (gA S 5))
  | 20 => .inl (.int, ls 160 (gA S 6))
  | 21 => .inl (.int, ls 320 (gA S 7))
  | 22 => .inl (.int, ls 80 (gA S 8))
  | 23 => .inl (.boolean, ls 2 (gA S 9))
  | 24 => .inl (.int, ls 9 (gA S 10))
  | 25 => .inl (.int, ls 6 (gA S 11))
  | 26 => .inl (.int, ls 6 (gA S 12))
  | 27 => .inl (.int, ls 32 (gA S 13))
  | _ => .inl (.int, ls 5 (gA S 14))
def g_cell (S : GS) (j : Nat) : AE :=
  if j = 0 then .inr (.inr (9, g_O S))
  else if j < 31 then pc_cell (pl ((j - 1) / 6)) (pf_of (gT S ((j - 1) / 6))) ((j - 1) % 6)
  else if j < 60 then g_mid S (j - 31)
  else pc_cell (pl (5 + (j - 60) / 6)) (pf_of (gT S (5 + (j - 60) / 6))) ((j - 60) % 6)
def hp (S : GS) : HH := (List.range (60 + 6 * gQ S)).map (g_cell S)
theorem hp_len (S : GS) : (hp S).length = 60 + 6 * gQ S := by simp [hp]
theorem hp_get {S : GS} {j : Nat} (hj : j < 60 + 6 * gQ S) : (hp S)[j]? = some (g_cell S j) := by
  simp [hp, hj]
theorem hp_of {h : HH} {S : GS} (hl : h.length = 60 + 6 * gQ S) (hc : ∀ j, j < 60 + 6 * gQ S → h[j]? = some (g_cell S j)) : h = hp S := by
  apply List.ext_getElem?
  intro j
  by_cases hj : j < 60 + 6 * gQ S
  · rw [hc j hj, hp_get hj]
  · rw [List.getElem?_eq_none (by omega), List.getElem?_eq_none (by rw [hp_len]; omega)]
theorem hp_set {S S' : GS} {j : Nat} {e : AE} (hq : gQ S' = gQ S) (he : g_cell S' j = e) (ho : ∀ z, z ≠ j → g_cell S' z = g_cell S z) : (hp S).set j e = hp S' := by
  apply hp_of
  · rw [List.length_set, hp_len, hq]
  · intro z hz
    by_cases hzj : z = j
    · subst hzj
      rw [List.getElem?_set_self (by rw [hp_len]; omega), he]
    · rw [List.getElem?_set_ne (fun e => hzj e.symm), hp_get (by omega), ho z hzj]
theorem hp_mid {S : GS} (j : Nat) (h1 : 31 ≤ j) (h2 : j < 60) : (hp S)[j]? = some (g_mid S (j - 31)) := by
  rw [hp_get (by omega)]
  unfold g_cell
  rw [if_neg (by omega), if_neg (by omega), if_pos h2]
theorem hp_0 (S : GS) : (hp S)[0]? = some (.inr (.inr (9, g_O S))) := by
  rw [hp_get (by omega)]
  rfl
/-- a change of one cell of the middle -/
theorem hp_setm {S S' : GS} (j : Nat) {e : AE} (h1 : 31 ≤ j) (h2 : j < 60) (hq : gQ S' = gQ S) (hT : gT S' = gT S) (h9 : g_O S' = g_O S) (he : g_mid S' (j - 31) = e) (ho : ∀ o, o < 29 → o ≠ j - 31 → g_mid S' o = g_mid S o) : (hp S).set j e = hp S' := by
  apply hp_set hq
  · unfold g_cell
    rw [if_neg (by omega), if_neg (by omega), if_pos h2, he]
  · intro z hz
    unfold g_cell
    rw [hT, h9]
    by_cases a : z = 0
    · rw [if_pos a, if_pos a]
    · rw [if_neg a, if_neg a]
      by_cases b : z < 31
      · rw [if_pos b, if_pos b]
      · rw [if_neg b, if_neg b]
        by_cases c : z < 60
        · rw [if_pos c, if_pos c, ho (z - 31) (by omega) (by omega)]
        · rw [if_neg c, if_neg c]
theorem gO_sN {S : GS} {k : Nat} {x : Int32} (h : k ≠ 9) (h2 : k ≠ 10) : g_O (sN S k x) = g_O S := by
  unfold g_O
  rw [gN_sN, fu_n (fun e => h e.symm), fu_n (fun e => h2 e.symm)]

theorem hf_0_0 (S : GS) : sm_fld (hp S) 0 9 0 = some (.ref (pl 0)) := fld_O (hp_0 S) rfl
theorem hf_0_1 (S : GS) : sm_fld (hp S) 0 9 1 = some (.ref (pl 1)) := fld_O (hp_0 S) rfl
theorem hf_0_2 (S : GS) : sm_fld (hp S) 0 9 2 = some (.ref (pl 2)) := fld_O (hp_0 S) rfl
theorem hf_0_3 (S : GS) : sm_fld (hp S) 0 9 3 = some (.ref (pl 3)) := fld_O (hp_0 S) rfl
theorem hf_0_4 (S : GS) : sm_fld (hp S) 0 9 4 = some (.int (gN S 9)) := fld_O (hp_0 S) rfl
theorem hf_0_5 (S : GS) : sm_fld (hp S) 0 9 5 = some (.int (gN S 10)) := fld_O (hp_0 S) rfl
theorem hf_0_6 (S : GS) : sm_fld (hp S) 0 9 6 = some (.ref (pl 4)) := fld_O (hp_0 S) rfl
theorem hf_0_7 (S : GS) : sm_fld (hp S) 0 9 7 = some (.ref 31) := fld_O (hp_0 S) rfl
theorem hf_0_8 (S : GS) : sm_fld (hp S) 0 9 8 = some (.ref 33) := fld_O (hp_0 S) rfl
theorem hf_0_9 (S : GS) : sm_fld (hp S) 0 9 9 = some (.ref 36) := fld_O (hp_0 S) rfl
theorem hf_0_10 (S : GS) : sm_fld (hp S) 0 9 10 = some (.ref 40) := fld_O (hp_0 S) rfl
theorem hf_0_11 (S : GS) : sm_fld (hp S) 0 9 11 = some (.ref 41) := fld_O (hp_0 S) rfl
theorem hf_0_12 (S : GS) : sm_fld (hp S) 0 9 12 = some (.ref 42) := fld_O (hp_0 S) rfl
theorem hf_0_13 (S : GS) : sm_fld (hp S) 0 9 13 = some (.ref 43) := fld_O (hp_0 S) rfl
theorem hf_0_14 (S : GS) : sm_fld (hp S) 0 9 14 = some (.ref 44) := fld_O (hp_0 S) rfl
theorem hf_31_0 (S : GS) : sm_fld (hp S) 31 2 0 = some (.int (gN S 0)) := fld_O (hp_mid 31 (by omega) (by omega)) rfl
theorem hf_31_1 (S : GS) : sm_fld (hp S) 31 2 1 = some (.int (gN S 1)) := fld_O (hp_mid 31 (by omega) (by omega)) rfl
theorem hf_31_2 (S : GS) : sm_fld (hp S) 31 2 2 = some (.ref 32) := fld_O (hp_mid 31 (by omega) (by omega)) rfl
theorem hf_33_0 (S : GS) : sm_fld (hp S) 33 5 0 = some (.int (gN S 2)) := fld_O (hp_mid 33 (by omega) (by omega)) rfl
theorem hf_33_1 (S : GS) : sm_fld (hp S) 33 5 1 = some (.ref 34) := fld_O (hp_mid 33 (by omega) (by omega)) rfl
theorem hf_33_2 (S : GS) : sm_fld (hp S) 33 5 2 = some (.ref 35) := fld_O (hp_mid 33 (by omega) (by omega)) rfl
theorem hf_36_0 (S : GS) : sm_fld (hp S) 36 7 0 = some (.int (gN S 3)) := fld_O (hp_mid 36 (by omega) (by omega)) rfl
theorem hf_36_1 (S : GS) : sm_fld (hp S) 36 7 1 = some (.int (gN S 4)) := fld_O (hp_mid 36 (by omega) (by omega)) rfl
theorem hf_36_2 (S : GS) : sm_fld (hp S) 36 7 2 = some (.ref 37) := fld_O (hp_mid 36 (by omega) (by omega)) rfl
theorem hf_36_3 (S : GS) : sm_fld (hp S) 36 7 3 = some (.ref 38) := fld_O (hp_mid 36 (by omega) (by omega)) rfl
theorem hf_36_4 (S : GS) : sm_fld (hp S) 36 7 4 = some (.ref 39) := fld_O (hp_mid 36 (by omega) (by omega)) rfl
theorem hf_36_5 (S : GS) : sm_fld (hp S) 36 7 5 = some (.int (gN S 5)) := fld_O (hp_mid 36 (by omega) (by omega)) rfl
theorem hf_36_6 (S : GS) : sm_fld (hp S) 36 7 6 = some (.int (gN S 6)) := fld_O (hp_mid 36 (by omega) (by omega)) rfl
theorem hf_36_7 (S : GS) : sm_fld (hp S) 36 7 7 = some (.int (gN S 7)) := fld_O (hp_mid 36 (by omega) (by omega)) rfl
theorem hf_36_8 (S : GS) : sm_fld (hp S) 36 7 8 = some (.int (gN S 8)) := fld_O (hp_mid 36 (by omega) (by omega)) rfl
theorem hf_45_0 (S : GS) : sm_fld (hp S) 45 10 0 = some (.ref 46) := fld_O (hp_mid 45 (by omega) (by omega)) rfl
theorem hf_45_1 (S : GS) : sm_fld (hp S) 45 10 1 = some (.ref 47) := fld_O (hp_mid 45 (by omega) (by omega)) rfl
theorem hf_45_2 (S : GS) : sm_fld (hp S) 45 10 2 = some (.ref 48) := fld_O (hp_mid 45 (by omega) (by omega)) rfl
theorem hf_45_3 (S : GS) : sm_fld (hp S) 45 10 3 = some (.ref 49) := fld_O (hp_mid 45 (by omega) (by omega)) rfl
theorem hf_45_4 (S : GS) : sm_fld (hp S) 45 10 4 = some (.ref 50) := fld_O (hp_mid 45 (by omega) (by omega)) rfl
theorem hf_45_5 (S : GS) : sm_fld (hp S) 45 10 5 = some (.ref 51) := fld_O (hp_mid 45 (by omega) (by omega)) rfl
theorem hf_45_6 (S : GS) : sm_fld (hp S) 45 10 6 = some (.int (gI S 6)) := fld_O (hp_mid 45 (by omega) (by omega)) rfl
theorem hf_45_7 (S : GS) : sm_fld (hp S) 45 10 7 = some (.int (gI S 7)) := fld_O (hp_mid 45 (by omega) (by omega)) rfl
theorem hf_45_8 (S : GS) : sm_fld (hp S) 45 10 8 = some (.int (gI S 8)) := fld_O (hp_mid 45 (by omega) (by omega)) rfl
theorem hf_45_9 (S : GS) : sm_fld (hp S) 45 10 9 = some (.int (gI S 9)) := fld_O (hp_mid 45 (by omega) (by omega)) rfl
theorem hf_45_10 (S : GS) : sm_fld (hp S) 45 10 10 = some (.int (gI S 10)) := fld_O (hp_mid 45 (by omega) (by omega)) rfl
theorem hf_45_11 (S : GS) : sm_fld (hp S) 45 10 11 = some (.int (gI S 11)) := fld_O (hp_mid 45 (by omega) (by omega)) rfl
theorem hf_45_12 (S : GS) : sm_fld (hp S) 45 10 12 = some (.int (gI S 12)) := fld_O (hp_mid 45 (by omega) (by omega)) rfl
theorem hf_45_13 (S : GS) : sm_fld (hp S) 45 10 13 = some (.ref 52) := fld_O (hp_mid 45 (by omega) (by omega)) rfl
theorem hf_45_14 (S : GS) : sm_fld (hp S) 45 10 14 = some (.ref 53) := fld_O (hp_mid 45 (by omega) (by omega)) rfl
theorem hf_45_15 (S : GS) : sm_fld (hp S) 45 10 15 = some (.ref 54) := fld_O (hp_mid 45 (by omega) (by omega)) rfl
theorem hf_45_16 (S : GS) : sm_fld (hp S) 45 10 16 = some (.ref 55) := fld_O (hp_mid 45 (by omega) (by omega)) rfl
theorem hf_45_17 (S : GS) : sm_fld (hp S) 45 10 17 = some (.int (gI S 17)) := fld_O (hp_mid 45 (by omega) (by omega)) rfl
theorem hf_45_18 (S : GS) : sm_fld (hp S) 45 10 18 = some (.ref 56) := fld_O (hp_mid 45 (by omega) (by omega)) rfl
theorem hf_45_19 (S : GS) : sm_fld (hp S) 45 10 19 = some (.ref 57) := fld_O (hp_mid 45 (by omega) (by omega)) rfl
theorem hf_45_20 (S : GS) : sm_fld (hp S) 45 10 20 = some (.ref 58) := fld_O (hp_mid 45 (by omega) (by omega)) rfl
theorem hf_45_21 (S : GS) : sm_fld (hp S) 45 10 21 = some (.ref 59) := fld_O (hp_mid 45 (by omega) (by omega)) rfl
theorem hc_0 (S : GS) : sm_cls (hp S) 0 = some 9 := by unfold sm_cls; rw [hp_0 S]
theorem hc_31 (S : GS) : sm_cls (hp S) 31 = some 2 := by unfold sm_cls; rw [hp_mid (S := S) 31 (by omega) (by omega)]; rfl
theorem hc_33 (S : GS) : sm_cls (hp S) 33 = some 5 := by unfold sm_cls; rw [hp_mid (S := S) 33 (by omega) (by omega)]; rfl
theorem hc_36 (S : GS) : sm_cls (hp S) 36 = some 7 := by unfold sm_cls; rw [hp_mid (S := S) 36 (by omega) (by omega)]; rfl
theorem hc_40 (S : GS) : sm_cls (hp S) 40 = some 6 := by unfold sm_cls; rw [hp_mid (S := S) 40 (by omega) (by omega)]; rfl
theorem hc_41 (S : GS) : sm_cls (hp S) 41 = some 4 := by unfold sm_cls; rw [hp_mid (S := S) 41 (by omega) (by omega)]; rfl
theorem hc_42 (S : GS) : sm_cls (hp S) 42 = some 1 := by unfold sm_cls; rw [hp_mid (S := S) 42 (by omega) (by omega)]; rfl
theorem hc_43 (S : GS) : sm_cls (hp S) 43 = some 0 := by unfold sm_cls; rw [hp_mid (S := S) 43 (by omega) (by omega)]; rfl
theorem hc_45 (S : GS) : sm_cls (hp S) 45 = some 10 := by unfold sm_cls; rw [hp_mid (S := S) 45 (by omega) (by omega)]; rfl
theorem ha_34 (S : GS) : sm_arr (hp S) 34 .int = some (ls 6 (gR S 0)) := by unfold sm_arr; rw [hp_mid (S := S) 34 (by omega) (by omega)]; rfl
theorem ha_35 (S : GS) : sm_arr (hp S) 35 .int = some (ls 6 (gR S 1)) := by unfold sm_arr; rw [hp_mid (S := S) 35 (by omega) (by omega)]; rfl
theorem ha_37 (S : GS) : sm_arr (hp S) 37 .char = some (ls 160 (gR S 2)) := by unfold sm_arr; rw [hp_mid (S := S) 37 (by omega) (by omega)]; rfl
theorem ha_38 (S : GS) : sm_arr (hp S) 38 .int = some (ls 14 (gR S 3)) := by unfold sm_arr; rw [hp_mid (S := S) 38 (by omega) (by omega)]; rfl
theorem ha_39 (S : GS) : sm_arr (hp S) 39 .int = some (ls 42 (gR S 4)) := by unfold sm_arr; rw [hp_mid (S := S) 39 (by omega) (by omega)]; rfl
theorem ha_44 (S : GS) : sm_arr (hp S) 44 .int = some (ls 32 (gR S 5)) := by unfold sm_arr; rw [hp_mid (S := S) 44 (by omega) (by omega)]; rfl
theorem ha_46 (S : GS) : sm_arr (hp S) 46 .int = some (ls 16 (gA S 1)) := by unfold sm_arr; rw [hp_mid (S := S) 46 (by omega) (by omega)]; rfl
theorem ha_47 (S : GS) : sm_arr (hp S) 47 .int = some (ls 40 (gA S 2)) := by unfold sm_arr; rw [hp_mid (S := S) 47 (by omega) (by omega)]; rfl
theorem ha_48 (S : GS) : sm_arr (hp S) 48 .int = some (ls 16 (gA S 3)) := by unfold sm_arr; rw [hp_mid (S := S) 48 (by omega) (by omega)]; rfl
theorem ha_49 (S : GS) : sm_arr (hp S) 49 .int = some (ls 40 (gA S 4)) := by unfold sm_arr; rw [hp_mid (S := S) 49 (by omega) (by omega)]; rfl
theorem ha_50 (S : GS) : sm_arr (hp S) 50 .int = some (ls 40 (gA S 5)) := by unfold sm_arr; rw [hp_mid (S := S) 50 (by omega) (by omega)]; rfl
theorem ha_51 (S : GS) : sm_arr (hp S) 51 .int = some (ls 160 (gA S 6)) := by unfold sm_arr; rw [hp_mid (S := S) 51 (by omega) (by omega)]; rfl
theorem ha_52 (S : GS) : sm_arr (hp S) 52 .int = some (ls 320 (gA S 7)) := by unfold sm_arr; rw [hp_mid (S := S) 52 (by omega) (by omega)]; rfl
theorem ha_53 (S : GS) : sm_arr (hp S) 53 .int = some (ls 80 (gA S 8)) := by unfold sm_arr; rw [hp_mid (S := S) 53 (by omega) (by omega)]; rfl
theorem ha_54 (S : GS) : sm_arr (hp S) 54 .boolean = some (ls 2 (gA S 9)) := by unfold sm_arr; rw [hp_mid (S := S) 54 (by omega) (by omega)]; rfl
theorem ha_55 (S : GS) : sm_arr (hp S) 55 .int = some (ls 9 (gA S 10)) := by unfold sm_arr; rw [hp_mid (S := S) 55 (by omega) (by omega)]; rfl
theorem ha_56 (S : GS) : sm_arr (hp S) 56 .int = some (ls 6 (gA S 11)) := by unfold sm_arr; rw [hp_mid (S := S) 56 (by omega) (by omega)]; rfl
theorem ha_57 (S : GS) : sm_arr (hp S) 57 .int = some (ls 6 (gA S 12)) := by unfold sm_arr; rw [hp_mid (S := S) 57 (by omega) (by omega)]; rfl
theorem ha_58 (S : GS) : sm_arr (hp S) 58 .int = some (ls 32 (gA S 13)) := by unfold sm_arr; rw [hp_mid (S := S) 58 (by omega) (by omega)]; rfl
theorem ha_59 (S : GS) : sm_arr (hp S) 59 .int = some (ls 5 (gA S 14)) := by unfold sm_arr; rw [hp_mid (S := S) 59 (by omega) (by omega)]; rfl
theorem ss_31_0 (S : GS) (x : Int32) : (hp S).set 31 (.inr (.inr (2, [.int x, .int (gN S 1), .ref 32]))) = hp (sN S 0 x) := hp_setm 31 (by omega) (by omega) rfl rfl (gO_sN (by omega) (by omega)) rfl (by
    intro o hlt ho
    match o with
    | 0 => exact absurd rfl ho | 1 => rfl | 2 => rfl | 3 => rfl | 4 => rfl | 5 => rfl | 6 => rfl | 7 => rfl | 8 => rfl | 9 => rfl | 10 => rfl | 11 => rfl | 12 => rfl | 13 => rfl | 14 => rfl | 15 => rfl | 16 => rfl | 17 => rfl | 18 => rfl | 19 => rfl | 20 => rfl | 21 => rfl | 22 => rfl | 23 => rfl | 24 => rfl | 25 => rfl | 26 => rfl | 27 => rfl
    | n + 28 => rfl)
theorem hw_31_0 (S : GS) (x : Int32) : sm_fset (hp S) 31 0 (.int x) = hp (sN S 0 x) := by unfold sm_fset; rw [hp_mid (S := S) 31 (by omega) (by omega)]; exact ss_31_0 S x
theorem ss_31_1 (S : GS) (x : Int32) : (hp S).set 31 (.inr (.inr (2, [.int (gN S 0), .int x, .ref 32]))) = hp (sN S 1 x) := hp_setm 31 (by omega) (by omega) rfl rfl (gO_sN (by omega) (by omega)) rfl (by
    intro o hlt ho
    match o with
    | 0 => exact absurd rfl ho | 1 => rfl | 2 => rfl | 3 => rfl | 4 => rfl | 5 => rfl | 6 => rfl | 7 => rfl | 8 => rfl | 9 => rfl | 10 => rfl | 11 => rfl | 12 => rfl | 13 => rfl | 14 => rfl | 15 => rfl | 16 => rfl | 17 => rfl | 18 => rfl | 19 => rfl | 20 => rfl | 21 => rfl | 22 => rfl | 23 => rfl | 24 => rfl | 25 => rfl | 26 => rfl | 27 => rfl
    | n + 28 => rfl)
theorem hw_31_1 (S : GS) (x : Int32) : sm_fset (hp S) 31 1 (.int x) = hp (sN S 1 x) := by unfold sm_fset; rw [hp_mid (S := S) 31 (by omega) (by omega)]; exact ss_31_1 S x
theorem ss_33_0 (S : GS) (x : Int32) : (hp S).set 33 (.inr (.inr (5, [.int x, .ref 34, .ref 35]))) = hp (sN S 2 x) := hp_setm 33 (by omega) (by omega) rfl rfl (gO_sN (by omega) (by omega)) rfl (by
    intro o hlt ho
    match o with
    | 0 => rfl | 1 => rfl | 2 => exact absurd rfl ho | 3 => rfl | 4 => rfl | 5 => rfl | 6 => rfl | 7 => rfl | 8 => rfl | 9 => rfl | 10 => rfl | 11 => rfl | 12 => rfl | 13 => rfl | 14 => rfl | 15 => rfl | 16 => rfl | 17 => rfl | 18 => rfl | 19 => rfl | 20 => rfl | 21 => rfl | 22 => rfl | 23 => rfl | 24 => rfl | 25 => rfl | 26 => rfl | 27 => rfl
    | n + 28 => rfl)
theorem hw_33_0 (S : GS) (x : Int32) : sm_fset (hp S) 33 0 (.int x) = hp (sN S 2 x) := by unfold sm_fset; rw [hp_mid (S := S) 33 (by omega) (by omega)]; exact ss_33_0 S x
theorem ss_36_0 (S : GS) (x : Int32) : (hp S).set 36 (.inr (.inr (7, [.int x, .int (gN S 4), .ref 37, .ref 38, .ref 39, .int (gN S 5), .int (gN S 6), .int (gN S 7), .int (gN S 8)]))) = hp (sN S 3 x) := hp_setm 36 (by omega) (by omega) rfl rfl (gO_sN (by omega) (by omega)) rfl (by
    intro o hlt ho
    match o with
    | 0 => rfl | 1 => rfl | 2 => rfl | 3 => rfl | 4 => rfl | 5 => exact absurd rfl ho | 6 => rfl | 7 => rfl | 8 => rfl | 9 => rfl | 10 => rfl | 11 => rfl | 12 => rfl | 13 => rfl | 14 => rfl | 15 => rfl | 16 => rfl | 17 => rfl | 18 => rfl | 19 => rfl | 20 => rfl | 21 => rfl | 22 => rfl | 23 => rfl | 24 => rfl | 25 => rfl | 26 => rfl | 27 => rfl
    | n + 28 => rfl)
theorem hw_36_0 (S : GS) (x : Int32) : sm_fset (hp S) 36 0 (.int x) = hp (sN S 3 x) := by unfold sm_fset; rw [hp_mid (S := S) 36 (by omega) (by omega)]; exact ss_36_0 S x
theorem ss_36_1 (S : GS) (x : Int32) : (hp S).set 36 (.inr (.inr (7, [.int (gN S 3), .int x, .ref 37, .ref 38, .ref 39, .int (gN S 5), .int (gN S 6), .int (gN S 7), .int (gN S 8)]))) = hp (sN S 4 x) := hp_setm 36 (by omega) (by omega) rfl rfl (gO_sN (by omega) (by omega)) rfl (by
    intro o hlt ho
    match o with
    | 0 => rfl | 1 => rfl | 2 => rfl | 3 => rfl | 4 => rfl | 5 => exact absurd rfl ho | 6 => rfl | 7 => rfl | 8 => rfl | 9 => rfl | 10 => rfl | 11 => rfl | 12 => rfl | 13 => rfl | 14 => rfl | 15 => rfl | 16 => rfl | 17 => rfl | 18 => rfl | 19 => rfl | 20 => rfl | 21 => rfl | 22 => rfl | 23 => rfl | 24 => rfl | 25 => rfl | 26 => rfl | 27 => rfl
    | n + 28 => rfl)
theorem hw_36_1 (S : GS) (x : Int32) : sm_fset (hp S) 36 1 (.int x) = hp (sN S 4 x) := by unfold sm_fset; rw [hp_mid (S := S) 36 (by omega) (by omega)]; exact ss_36_1 S x
theorem ss_36_5 (S : GS) (x : Int32) : (hp S).set 36 (.inr (.inr (7, [.int (gN S 3), .int (gN S 4), .ref 37, .ref 38, .ref 39, .int x, .int (gN S 6), .int (gN S 7), .int (gN S 8)]))) = hp (sN S 5 x) := hp_setm 36 (by omega) (by omega) rfl rfl (gO_sN (by omega) (by omega)) rfl (by
    intro o hlt ho
    match o with
    | 0 => rfl | 1 => rfl | 2 => rfl | 3 => rfl | 4 => rfl | 5 => exact absurd rfl ho | 6 => rfl | 7 => rfl | 8 => rfl | 9 => rfl | 10 => rfl | 11 => rfl | 12 => rfl | 13 => rfl | 14 => rfl | 15 => rfl | 16 => rfl | 17 => rfl | 18 => rfl | 19 => rfl | 20 => rfl | 21 => rfl | 22 => rfl | 23 => rfl | 24 => rfl | 25 => rfl | 26 => rfl | 27 => rfl
    | n + 28 => rfl)
theorem hw_36_5 (S : GS) (x : Int32) : sm_fset (hp S) 36 5 (.int x) = hp (sN S 5 x) := by unfold sm_fset; rw [hp_mid (S := S) 36 (by omega) (by omega)]; exact ss_36_5 S x
theorem ss_36_6 (S : GS) (x : Int32) : (hp S).set 36 (.inr (.inr (7, [.int (gN S 3), .int (gN S 4), .ref 37, .ref 38, .ref 39, .int (gN S 5), .int x, .int (gN S 7), .int (gN S 8)]))) = hp (sN S 6 x) := hp_setm 36 (by omega) (by omega) rfl rfl (gO_sN (by omega) (by omega)) rfl (by
    intro o hlt ho
    match o with
    | 0 => rfl | 1 => rfl | 2 => rfl | 3 => rfl | 4 => rfl | 5 => exact absurd rfl ho | 6 => rfl | 7 => rfl | 8 => rfl | 9 => rfl | 10 => rfl | 11 => rfl | 12 => rfl | 13 => rfl | 14 => rfl | 15 => rfl | 16 => rfl | 17 => rfl | 18 => rfl | 19 => rfl | 20 => rfl | 21 => rfl | 22 => rfl | 23 => rfl | 24 => rfl | 25 => rfl | 26 => rfl | 27 => rfl
    | n + 28 => rfl)
theorem hw_36_6 (S : GS) (x : Int32) : sm_fset (hp S) 36 6 (.int x) = hp (sN S 6 x) := by unfold sm_fset; rw [hp_mid (S := S) 36 (by omega) (by omega)]; exact ss_36_6 S x
theorem ss_36_7 (S : GS) (x : Int32) : (hp S).set 36 (.inr (.inr (7, [.int (gN S 3), .int (gN S 4), .ref 37, .ref 38, .ref 39, .int (gN S 5), .int (gN S 6), .int x, .int (gN S 8)]))) = hp (sN S 7 x) := hp_setm 36 (by omega) (by omega) rfl rfl (gO_sN (by omega) (by omega)) rfl (by
    intro o hlt ho
    match o with
    | 0 => rfl | 1 => rfl | 2 => rfl | 3 => rfl | 4 => rfl | 5 => exact absurd rfl ho | 6 => rfl | 7 => rfl | 8 => rfl | 9 => rfl | 10 => rfl | 11 => rfl | 12 => rfl | 13 => rfl | 14 => rfl | 15 => rfl | 16 => rfl | 17 => rfl | 18 => rfl | 19 => rfl | 20 => rfl | 21 => rfl | 22 => rfl | 23 => rfl | 24 => rfl | 25 => rfl | 26 => rfl | 27 => rfl
    | n + 28 => rfl)
theorem hw_36_7 (S : GS) (x : Int32) : sm_fset (hp S) 36 7 (.int x) = hp (sN S 7 x) := by unfold sm_fset; rw [hp_mid (S := S) 36 (by omega) (by omega)]; exact ss_36_7 S x
theorem ss_36_8 (S : GS) (x : Int32) : (hp S).set 36 (.inr (.inr (7, [.int (gN S 3), .int (gN S 4), .ref 37, .ref 38, .ref 39, .int (gN S 5), .int (gN S 6), .int (gN S 7), .int x]))) = hp (sN S 8 x) := hp_setm 36 (by omega) (by omega) rfl rfl (gO_sN (by omega) (by omega)) rfl (by
    intro o hlt ho
    match o with
    | 0 => rfl | 1 => rfl | 2 => rfl | 3 => rfl | 4 => rfl | 5 => exact absurd rfl ho | 6 => rfl | 7 => rfl | 8 => rfl | 9 => rfl | 10 => rfl | 11 => rfl | 12 => rfl | 13 => rfl | 14 => rfl | 15 => rfl | 16 => rfl | 17 => rfl | 18 => rfl | 19 => rfl | 20 => rfl | 21 => rfl | 22 => rfl | 23 => rfl | 24 => rfl | 25 => rfl | 26 => rfl | 27 => rfl
    | n + 28 => rfl)
theorem hw_36_8 (S : GS) (x : Int32) : sm_fset (hp S) 36 8 (.int x) = hp (sN S 8 x) := by unfold sm_fset; rw [hp_mid (S := S) 36 (by omega) (by omega)]; exact ss_36_8 S x
theorem hw_0_4 (S : GS) (x : Int32) : sm_fset (hp S) 0 4 (.int x) = hp (sN S 9 x) := by
  unfold sm_fset
  rw [hp_0 S]
  refine hp_set rfl rfl (fun z hz => ?_)
  unfold g_cell
  rw [if_neg hz, if_neg hz]
  by_cases b : z < 31
  · rw [if_pos b, if_pos b]; rfl
  · rw [if_neg b, if_neg b]
    by_cases c : z < 60
    · rw [if_pos c, if_pos c]
      match z - 31 with
      | 0 => rfl | 1 => rfl | 2 => rfl | 3 => rfl | 4 => rfl | 5 => rfl | 6 => rfl | 7 => rfl | 8 => rfl | 9 => rfl | 10 => rfl | 11 => rfl | 12 => rfl | 13 => rfl | 14 => rfl | 15 => rfl | 16 => rfl | 17 => rfl | 18 => rfl | 19 => rfl | 20 => rfl | 21 => rfl | 22 => rfl | 23 => rfl | 24 => rfl | 25 => rfl | 26 => rfl | 27 => rfl
      | n + 28 => rfl
    · rw [if_neg c, if_neg c]; rfl
theorem hw_0_5 (S : GS) (x : Int32) : sm_fset (hp S) 0 5 (.int x) = hp (sN S 10 x) := by
  unfold sm_fset
  rw [hp_0 S]
  refine hp_set rfl rfl (fun z hz => ?_)
  unfold g_cell
  rw [if_neg hz, if_neg hz]
  by_cases b : z < 31
  · rw [if_pos b, if_pos b]; rfl
  · rw [if_neg b, if_neg b]
    by_cases c : z < 60
    · rw [if_pos c, if_pos c]
      match z - 31 with
      | 0 => rfl | 1 => rfl | 2 => rfl | 3 => rfl | 4 => rfl | 5 => rfl | 6 => rfl | 7 => rfl | 8 => rfl | 9 => rfl | 10 => rfl | 11 => rfl | 12 => rfl | 13 => rfl | 14 => rfl | 15 => rfl | 16 => rfl | 17 => rfl | 18 => rfl | 19 => rfl | 20 => rfl | 21 => rfl | 22 => rfl | 23 => rfl | 24 => rfl | 25 => rfl | 26 => rfl | 27 => rfl
      | n + 28 => rfl
    · rw [if_neg c, if_neg c]; rfl
theorem ss_45_6 (S : GS) (x : Int32) : (hp S).set 45 (.inr (.inr (10, [.ref 46, .ref 47, .ref 48, .ref 49, .ref 50, .ref 51, .int x, .int (gI S 7), .int (gI S 8), .int (gI S 9), .int (gI S 10), .int (gI S 11), .int (gI S 12), .ref 52, .ref 53, .ref 54, .ref 55, .int (gI S 17), .ref 56, .ref 57, .ref 58, .ref 59]))) = hp (sI S 6 x) := hp_setm 45 (by omega) (by omega) rfl rfl (rfl) rfl (by
    intro o hlt ho
    match o with
    | 0 => rfl | 1 => rfl | 2 => rfl | 3 => rfl | 4 => rfl | 5 => rfl | 6 => rfl | 7 => rfl | 8 => rfl | 9 => rfl | 10 => rfl | 11 => rfl | 12 => rfl | 13 => rfl | 14 => exact absurd rfl ho | 15 => rfl | 16 => rfl | 17 => rfl | 18 => rfl | 19 => rfl | 20 => rfl | 21 => rfl | 22 => rfl | 23 => rfl | 24 => rfl | 25 => rfl | 26 => rfl | 27 => rfl
    | n + 28 => rfl)
theorem hw_45_6 (S : GS) (x : Int32) : sm_fset (hp S) 45 6 (.int x) = hp (sI S 6 x) := by unfold sm_fset; rw [hp_mid (S := S) 45 (by omega) (by omega)]; exact ss_45_6 S x
theorem ss_45_7 (S : GS) (x : Int32) : (hp S).set 45 (.inr (.inr (10, [.ref 46, .ref 47, .ref 48, .ref 49, .ref 50, .ref 51, .int (gI S 6), .int x, .int (gI S 8), .int (gI S 9), .int (gI S 10), .int (gI S 11), .int (gI S 12), .ref 52, .ref 53, .ref 54, .ref 55, .int (gI S 17), .ref 56, .ref 57, .ref 58, .ref 59]))) = hp (sI S 7 x) := hp_setm 45 (by omega) (by omega) rfl rfl (rfl) rfl (by
    intro o hlt ho
    match o with
    | 0 => rfl | 1 => rfl | 2 => rfl | 3 => rfl | 4 => rfl | 5 => rfl | 6 => rfl | 7 => rfl | 8 => rfl | 9 => rfl | 10 => rfl | 11 => rfl | 12 => rfl | 13 => rfl | 14 => exact absurd rfl ho | 15 => rfl | 16 => rfl | 17 => rfl | 18 => rfl | 19 => rfl | 20 => rfl | 21 => rfl | 22 => rfl | 23 => rfl | 24 => rfl | 25 => rfl | 26 => rfl | 27 => rfl
    | n + 28 => rfl)
theorem hw_45_7 (S : GS) (x : Int32) : sm_fset (hp S) 45 7 (.int x) = hp (sI S 7 x) := by unfold sm_fset; rw [hp_mid (S := S) 45 (by omega) (by omega)]; exact ss_45_7 S x
theorem ss_45_8 (S : GS) (x : Int32) : (hp S).set 45 (.inr (.inr (10, [.ref 46, .ref 47, .ref 48, .ref 49, .ref 50, .ref 51, .int (gI S 6), .int (gI S 7), .int x, .int (gI S 9), .int (gI S 10), .int (gI S 11), .int (gI S 12), .ref 52, .ref 53, .ref 54, .ref 55, .int (gI S 17), .ref 56, .ref 57, .ref 58, .ref 59]))) = hp (sI S 8 x) := hp_setm 45 (by omega) (by omega) rfl rfl (rfl) rfl (by
    intro o hlt ho
    match o with
    | 0 => rfl | 1 => rfl | 2 => rfl | 3 => rfl | 4 => rfl | 5 => rfl | 6 => rfl | 7 => rfl | 8 => rfl | 9 => rfl | 10 => rfl | 11 => rfl | 12 => rfl | 13 => rfl | 14 => exact absurd rfl ho | 15 => rfl | 16 => rfl | 17 => rfl | 18 => rfl | 19 => rfl | 20 => rfl | 21 => rfl | 22 => rfl | 23 => rfl | 24 => rfl | 25 => rfl | 26 => rfl | 27 => rfl
    | n + 28 => rfl)
theorem hw_45_8 (S : GS) (x : Int32) : sm_fset (hp S) 45 8 (.int x) = hp (sI S 8 x) := by unfold sm_fset; rw [hp_mid (S := S) 45 (by omega) (by omega)]; exact ss_45_8 S x
theorem ss_45_9 (S : GS) (x : Int32) : (hp S).set 45 (.inr (.inr (10, [.ref 46, .ref 47, .ref 48, .ref 49, .ref 50, .ref 51, .int (gI S 6), .int (gI S 7), .int (gI S 8), .int x, .int (gI S 10), .int (gI S 11), .int (gI S 12), .ref 52, .ref 53, .ref 54, .ref 55, .int (gI S 17), .ref 56, .ref 57, .ref 58, .ref 59]))) = hp (sI S 9 x) := hp_setm 45 (by omega) (by omega) rfl rfl (rfl) rfl (by
    intro o hlt ho
    match o with
    | 0 => rfl | 1 => rfl | 2 => rfl | 3 => rfl | 4 => rfl | 5 => rfl | 6 => rfl | 7 => rfl | 8 => rfl | 9 => rfl | 10 => rfl | 11 => rfl | 12 => rfl | 13 => rfl | 14 => exact absurd rfl ho | 15 => rfl | 16 => rfl | 17 => rfl | 18 => rfl | 19 => rfl | 20 => rfl | 21 => rfl | 22 => rfl | 23 => rfl | 24 => rfl | 25 => rfl | 26 => rfl | 27 => rfl
    | n + 28 => rfl)
theorem hw_45_9 (S : GS) (x : Int32) : sm_fset (hp S) 45 9 (.int x) = hp (sI S 9 x) := by unfold sm_fset; rw [hp_mid (S := S) 45 (by omega) (by omega)]; exact ss_45_9 S x
theorem ss_45_10 (S : GS) (x : Int32) : (hp S).set 45 (.inr (.inr (10, [.ref 46, .ref 47, .ref 48, .ref 49, .ref 50, .ref 51, .int (gI S 6), .int (gI S 7), .int (gI S 8), .int (gI S 9), .int x, .int (gI S 11), .int (gI S 12), .ref 52, .ref 53, .ref 54, .ref 55, .int (gI S 17), .ref 56, .ref 57, .ref 58, .ref 59]))) = hp (sI S 10 x) := hp_setm 45 (by omega) (by omega) rfl rfl (rfl) rfl (by
    intro o hlt ho
    match o with
    | 0 => rfl | 1 => rfl | 2 => rfl | 3 => rfl | 4 => rfl | 5 => rfl | 6 => rfl | 7 => rfl | 8 => rfl | 9 => rfl | 10 => rfl | 11 => rfl | 12 => rfl | 13 => rfl | 14 => exact absurd rfl ho | 15 => rfl | 16 => rfl | 17 => rfl | 18 => rfl | 19 => rfl | 20 => rfl | 21 => rfl | 22 => rfl | 23 => rfl | 24 => rfl | 25 => rfl | 26 => rfl | 27 => rfl
    | n + 28 => rfl)
theorem hw_45_10 (S : GS) (x : Int32) : sm_fset (hp S) 45 10 (.int x) = hp (sI S 10 x) := by unfold sm_fset; rw [hp_mid (S := S) 45 (by omega) (by omega)]; exact ss_45_10 S x
theorem ss_45_11 (S : GS) (x : Int32) : (hp S).set 45 (.inr (.inr (10, [.ref 46, .ref 47, .ref 48, .ref 49, .ref 50, .ref 51, .int (gI S 6), .int (gI S 7), .int (gI S 8), .int (gI S 9), .int (gI S 10), .int x, .int (gI S 12), .ref 52, .ref 53, .ref 54, .ref 55, .int (gI S 17), .ref 56, .ref 57, .ref 58, .ref 59]))) = hp (sI S 11 x) := hp_setm 45 (by omega) (by omega) rfl rfl (rfl) rfl (by
    intro o hlt ho
    match o with
    | 0 => rfl | 1 => rfl | 2 => rfl | 3 => rfl | 4 => rfl | 5 => rfl | 6 => rfl | 7 => rfl | 8 => rfl | 9 => rfl | 10 => rfl | 11 => rfl | 12 => rfl | 13 => rfl | 14 => exact absurd rfl ho | 15 => rfl | 16 => rfl | 17 => rfl | 18 => rfl | 19 => rfl | 20 => rfl | 21 => rfl | 22 => rfl | 23 => rfl | 24 => rfl | 25 => rfl | 26 => rfl | 27 => rfl
    | n + 28 => rfl)
theorem hw_45_11 (S : GS) (x : Int32) : sm_fset (hp S) 45 11 (.int x) = hp (sI S 11 x) := by unfold sm_fset; rw [hp_mid (S := S) 45 (by omega) (by omega)]; exact ss_45_11 S x
theorem ss_45_12 (S : GS) (x : Int32) : (hp S).set 45 (.inr (.inr (10, [.ref 46, .ref 47, .ref 48, .ref 49, .ref 50, .ref 51, .int (gI S 6), .int (gI S 7), .int (gI S 8), .int (gI S 9), .int (gI S 10), .int (gI S 11), .int x, .ref 52, .ref 53, .ref 54, .ref 55, .int (gI S 17), .ref 56, .ref 57, .ref 58, .ref 59]))) = hp (sI S 12 x) := hp_setm 45 (by omega) (by omega) rfl rfl (rfl) rfl (by
    intro o hlt ho
    match o with
    | 0 => rfl | 1 => rfl | 2 => rfl | 3 => rfl | 4 => rfl | 5 => rfl | 6 => rfl | 7 => rfl | 8 => rfl | 9 => rfl | 10 => rfl | 11 => rfl | 12 => rfl | 13 => rfl | 14 => exact absurd rfl ho | 15 => rfl | 16 => rfl | 17 => rfl | 18 => rfl | 19 => rfl | 20 => rfl | 21 => rfl | 22 => rfl | 23 => rfl | 24 => rfl | 25 => rfl | 26 => rfl | 27 => rfl
    | n + 28 => rfl)
theorem hw_45_12 (S : GS) (x : Int32) : sm_fset (hp S) 45 12 (.int x) = hp (sI S 12 x) := by unfold sm_fset; rw [hp_mid (S := S) 45 (by omega) (by omega)]; exact ss_45_12 S x
theorem ss_45_17 (S : GS) (x : Int32) : (hp S).set 45 (.inr (.inr (10, [.ref 46, .ref 47, .ref 48, .ref 49, .ref 50, .ref 51, .int (gI S 6), .int (gI S 7), .int (gI S 8), .int (gI S 9), .int (gI S 10), .int (gI S 11), .int (gI S 12), .ref 52, .ref 53, .ref 54, .ref 55, .int x, .ref 56, .ref 57, .ref 58, .ref 59]))) = hp (sI S 17 x) := hp_setm 45 (by omega) (by omega) rfl rfl (rfl) rfl (by
    intro o hlt ho
    match o with
    | 0 => rfl | 1 => rfl | 2 => rfl | 3 => rfl | 4 => rfl | 5 => rfl | 6 => rfl | 7 => rfl | 8 => rfl | 9 => rfl | 10 => rfl | 11 => rfl | 12 => rfl | 13 => rfl | 14 => exact absurd rfl ho | 15 => rfl | 16 => rfl | 17 => rfl | 18 => rfl | 19 => rfl | 20 => rfl | 21 => rfl | 22 => rfl | 23 => rfl | 24 => rfl | 25 => rfl | 26 => rfl | 27 => rfl
    | n + 28 => rfl)
theorem hw_45_17 (S : GS) (x : Int32) : sm_fset (hp S) 45 17 (.int x) = hp (sI S 17 x) := by unfold sm_fset; rw [hp_mid (S := S) 45 (by omega) (by omega)]; exact ss_45_17 S x
theorem sa_34 (S : GS) (f : Nat → Int32) : (hp S).set 34 (.inl (.int, ls 6 f)) = hp (sR S 0 f) := hp_setm 34 (by omega) (by omega) rfl rfl (rfl) rfl (by
    intro o hlt ho
    match o with
    | 0 => rfl | 1 => rfl | 2 => rfl | 3 => exact absurd rfl ho | 4 => rfl | 5 => rfl | 6 => rfl | 7 => rfl | 8 => rfl | 9 => rfl | 10 => rfl | 11 => rfl | 12 => rfl | 13 => rfl | 14 => rfl | 15 => rfl | 16 => rfl | 17 => rfl | 18 => rfl | 19 => rfl | 20 => rfl | 21 => rfl | 22 => rfl | 23 => rfl | 24 => rfl | 25 => rfl | 26 => rfl | 27 => rfl
    | n + 28 => rfl)
theorem hs_34 (S : GS) (f : Nat → Int32) {k : Nat} (x : Int32) (h : k < 6 ∧ 6 ≤ 1000) : sm_aset (hp S) 34 .int (some (ls 6 f)) (nI k) x = hp (sR S 0 (fu f k x)) := by rw [sm_aset_nI (by omega), ls_set]; exact sa_34 S _
theorem sa_35 (S : GS) (f : Nat → Int32) : (hp S).set 35 (.inl (.int, ls 6 f)) = hp (sR S 1 f) := hp_setm 35 (by omega) (by omega) rfl rfl (rfl) rfl (by
    intro o hlt ho
    match o with
    | 0 => rfl | 1 => rfl | 2 => rfl | 3 => rfl | 4 => exact absurd rfl ho | 5 => rfl | 6 => rfl | 7 => rfl | 8 => rfl | 9 => rfl | 10 => rfl | 11 => rfl | 12 => rfl | 13 => rfl | 14 => rfl | 15 => rfl | 16 => rfl | 17 => rfl | 18 => rfl | 19 => rfl | 20 => rfl | 21 => rfl | 22 => rfl | 23 => rfl | 24 => rfl | 25 => rfl | 26 => rfl | 27 => rfl
    | n + 28 => rfl)
theorem hs_35 (S : GS) (f : Nat → Int32) {k : Nat} (x : Int32) (h : k < 6 ∧ 6 ≤ 1000) : sm_aset (hp S) 35 .int (some (ls 6 f)) (nI k) x = hp (sR S 1 (fu f k x)) := by rw [sm_aset_nI (by omega), ls_set]; exact sa_35 S _
theorem sa_37 (S : GS) (f : Nat → Int32) : (hp S).set 37 (.inl (.char, ls 160 f)) = hp (sR S 2 f) := hp_setm 37 (by omega) (by omega) rfl rfl (rfl) rfl (by
    intro o hlt ho
    match o with
    | 0 => rfl | 1 => rfl | 2 => rfl | 3 => rfl | 4 => rfl | 5 => rfl | 6 => exact absurd rfl ho | 7 => rfl | 8 => rfl | 9 => rfl | 10 => rfl | 11 => rfl | 12 => rfl | 13 => rfl | 14 => rfl | 15 => rfl | 16 => rfl | 17 => rfl | 18 => rfl | 19 => rfl | 20 => rfl | 21 => rfl | 22 => rfl | 23 => rfl | 24 => rfl | 25 => rfl | 26 => rfl | 27 => rfl
    | n + 28 => rfl)
theorem sa_38 (S : GS) (f : Nat → Int32) : (hp S).set 38 (.inl (.int, ls 14 f)) = hp (sR S 3 f) := hp_setm 38 (by omega) (by omega) rfl rfl (rfl) rfl (by
    intro o hlt ho
    match o with
    | 0 => rfl | 1 => rfl | 2 => rfl | 3 => rfl | 4 => rfl | 5 => rfl | 6 => rfl | 7 => exact absurd rfl ho | 8 => rfl | 9 => rfl | 10 => rfl | 11 => rfl | 12 => rfl | 13 => rfl | 14 => rfl | 15 => rfl | 16 => rfl | 17 => rfl | 18 => rfl | 19 => rfl | 20 => rfl | 21 => rfl | 22 => rfl | 23 => rfl | 24 => rfl | 25 => rfl | 26 => rfl | 27 => rfl
    | n + 28 => rfl)
theorem hs_38 (S : GS) (f : Nat → Int32) {k : Nat} (x : Int32) (h : k < 14 ∧ 14 ≤ 1000) : sm_aset (hp S) 38 .int (some (ls 14 f)) (nI k) x = hp (sR S 3 (fu f k x)) := by rw [sm_aset_nI (by omega), ls_set]; exact sa_38 S _
theorem sa_39 (S : GS) (f : Nat → Int32) : (hp S).set 39 (.inl (.int, ls 42 f)) = hp (sR S 4 f) := hp_setm 39 (by omega) (by omega) rfl rfl (rfl) rfl (by
    intro o hlt ho
    match o with
    | 0 => rfl | 1 => rfl | 2 => rfl | 3 => rfl | 4 => rfl | 5 => rfl | 6 => rfl | 7 => rfl | 8 => exact absurd rfl ho | 9 => rfl | 10 => rfl | 11 => rfl | 12 => rfl | 13 => rfl | 14 => rfl | 15 => rfl | 16 => rfl | 17 => rfl | 18 => rfl | 19 => rfl | 20 => rfl | 21 => rfl | 22 => rfl | 23 => rfl | 24 => rfl | 25 => rfl | 26 => rfl | 27 => rfl
    | n + 28 => rfl)
theorem hs_39 (S : GS) (f : Nat → Int32) {k : Nat} (x : Int32) (h : k < 42 ∧ 42 ≤ 1000) : sm_aset (hp S) 39 .int (some (ls 42 f)) (nI k) x = hp (sR S 4 (fu f k x)) := by rw [sm_aset_nI (by omega), ls_set]; exact sa_39 S _
theorem sa_44 (S : GS) (f : Nat → Int32) : (hp S).set 44 (.inl (.int, ls 32 f)) = hp (sR S 5 f) := hp_setm 44 (by omega) (by omega) rfl rfl (rfl) rfl (by
    intro o hlt ho
    match o with
    | 0 => rfl | 1 => rfl | 2 => rfl | 3 => rfl | 4 => rfl | 5 => rfl | 6 => rfl | 7 => rfl | 8 => rfl | 9 => rfl | 10 => rfl | 11 => rfl | 12 => rfl | 13 => exact absurd rfl ho | 14 => rfl | 15 => rfl | 16 => rfl | 17 => rfl | 18 => rfl | 19 => rfl | 20 => rfl | 21 => rfl | 22 => rfl | 23 => rfl | 24 => rfl | 25 => rfl | 26 => rfl | 27 => rfl
    | n + 28 => rfl)
theorem hs_44 (S : GS) (f : Nat → Int32) {k : Nat} (x : Int32) (h : k < 32 ∧ 32 ≤ 1000) : sm_aset (hp S) 44 .int (some (ls 32 f)) (nI k) x = hp (sR S 5 (fu f k x)) := by rw [sm_aset_nI (by omega), ls_set]; exact sa_44 S _
theorem sa_46 (S : GS) (f : Nat → Int32) : (hp S).set 46 (.inl (.int, ls 16 f)) = hp (sA S 1 f) := hp_setm 46 (by omega) (by omega) rfl rfl (rfl) rfl (by
    intro o hlt ho
    match o with
    | 0 => rfl | 1 => rfl | 2 => rfl | 3 => rfl | 4 => rfl | 5 => rfl | 6 => rfl | 7 => rfl | 8 => rfl | 9 => rfl | 10 => rfl | 11 => rfl | 12 => rfl | 13 => rfl | 14 => rfl | 15 => exact absurd rfl ho | 16 => rfl | 17 => rfl | 18 => rfl | 19 => rfl | 20 => rfl | 21 => rfl | 22 => rfl | 23 => rfl | 24 => rfl | 25 => rfl | 26 => rfl | 27 => rfl
    | n + 28 => rfl)
theorem hs_46 (S : GS) (f : Nat → Int32) {k : Nat} (x : Int32) (h : k < 16 ∧ 16 ≤ 1000) : sm_aset (hp S) 46 .int (some (ls 16 f)) (nI k) x = hp (sA S 1 (fu f k x)) := by rw [sm_aset_nI (by omega), ls_set]; exact sa_46 S _
theorem sa_47 (S : GS) (f : Nat → Int32) : (hp S).set 47 (.inl (.int, ls 40 f)) = hp (sA S 2 f) := hp_setm 47 (by omega) (by omega) rfl rfl (rfl) rfl (by
    intro o hlt ho
    match o with
    | 0 => rfl | 1 => rfl | 2 => rfl | 3 => rfl | 4 => rfl | 5 => rfl | 6 => rfl | 7 => rfl | 8 => rfl | 9 => rfl | 10 => rfl | 11 => rfl | 12 => rfl | 13 => rfl | 14 => rfl | 15 => rfl | 16 => exact absurd rfl ho | 17 => rfl | 18 => rfl | 19 => rfl | 20 => rfl | 21 => rfl | 22 => rfl | 23 => rfl | 24 => rfl | 25 => rfl | 26 => rfl | 27 => rfl
    | n + 28 => rfl)
theorem hs_47 (S : GS) (f : Nat → Int32) {k : Nat} (x : Int32) (h : k < 40 ∧ 40 ≤ 1000) : sm_aset (hp S) 47 .int (some (ls 40 f)) (nI k) x = hp (sA S 2 (fu f k x)) := by rw [sm_aset_nI (by omega), ls_set]; exact sa_47 S _
theorem sa_48 (S : GS) (f : Nat → Int32) : (hp S).set 48 (.inl (.int, ls 16 f)) = hp (sA S 3 f) := hp_setm 48 (by omega) (by omega) rfl rfl (rfl) rfl (by
    intro o hlt ho
    match o with
    | 0 => rfl | 1 => rfl | 2 => rfl | 3 => rfl | 4 => rfl | 5 => rfl | 6 => rfl | 7 => rfl | 8 => rfl | 9 => rfl | 10 => rfl | 11 => rfl | 12 => rfl | 13 => rfl | 14 => rfl | 15 => rfl | 16 => rfl | 17 => exact absurd rfl ho | 18 => rfl | 19 => rfl | 20 => rfl | 21 => rfl | 22 => rfl | 23 => rfl | 24 => rfl | 25 => rfl | 26 => rfl | 27 => rfl
    | n + 28 => rfl)
theorem hs_48 (S : GS) (f : Nat → Int32) {k : Nat} (x : Int32) (h : k < 16 ∧ 16 ≤ 1000) : sm_aset (hp S) 48 .int (some (ls 16 f)) (nI k) x = hp (sA S 3 (fu f k x)) := by rw [sm_aset_nI (by omega), ls_set]; exact sa_48 S _
theorem sa_49 (S : GS) (f : Nat → Int32) : (hp S).set 49 (.inl (.int, ls 40 f)) = hp (sA S 4 f) := hp_setm 49 (by omega) (by omega) rfl rfl (rfl) rfl (by
    intro o hlt ho
    match o with
    | 0 => rfl | 1 => rfl | 2 => rfl | 3 => rfl | 4 => rfl | 5 => rfl | 6 => rfl | 7 => rfl | 8 => rfl | 9 => rfl | 10 => rfl | 11 => rfl | 12 => rfl | 13 => rfl | 14 => rfl | 15 => rfl | 16 => rfl | 17 => rfl | 18 => exact absurd rfl ho | 19 => rfl | 20 => rfl | 21 => rfl | 22 => rfl | 23 => rfl | 24 => rfl | 25 => rfl | 26 => rfl | 27 => rfl
    | n + 28 => rfl)
theorem hs_49 (S : GS) (f : Nat → Int32) {k : Nat} (x : Int32) (h : k < 40 ∧ 40 ≤ 1000) : sm_aset (hp S) 49 .int (some (ls 40 f)) (nI k) x = hp (sA S 4 (fu f k x)) := by rw [sm_aset_nI (by omega), ls_set]; exact sa_49 S _
theorem sa_50 (S : GS) (f : Nat → Int32) : (hp S).set 50 (.inl (.int, ls 40 f)) = hp (sA S 5 f) := hp_setm 50 (by omega) (by omega) rfl rfl (rfl) rfl (by
    intro o hlt ho
    match o with
    | 0 => rfl | 1 => rfl | 2 => rfl | 3 => rfl | 4 => rfl | 5 => rfl | 6 => rfl | 7 => rfl | 8 => rfl | 9 => rfl | 10 => rfl | 11 => rfl | 12 => rfl | 13 => rfl | 14 => rfl | 15 => rfl | 16 => rfl | 17 => rfl | 18 => rfl | 19 => exact absurd rfl ho | 20 => rfl | 21 => rfl | 22 => rfl | 23 => rfl | 24 => rfl | 25 => rfl | 26 => rfl | 27 => rfl
    | n + 28 => rfl)
theorem hs_50 (S : GS) (f : Nat → Int32) {k : Nat} (x : Int32) (h : k < 40 ∧ 40 ≤ 1000) : sm_aset (hp S) 50 .int (some (ls 40 f)) (nI k) x = hp (sA S 5 (fu f k x)) := by rw [sm_aset_nI (by omega), ls_set]; exact sa_50 S _
theorem sa_51 (S : GS) (f : Nat → Int32) : (hp S).set 51 (.inl (.int, ls 160 f)) = hp (sA S 6 f) := hp_setm 51 (by omega) (by omega) rfl rfl (rfl) rfl (by
    intro o hlt ho
    match o with
    | 0 => rfl | 1 => rfl | 2 => rfl | 3 => rfl | 4 => rfl | 5 => rfl | 6 => rfl | 7 => rfl | 8 => rfl | 9 => rfl | 10 => rfl | 11 => rfl | 12 => rfl | 13 => rfl | 14 => rfl | 15 => rfl | 16 => rfl | 17 => rfl | 18 => rfl | 19 => rfl | 20 => exact absurd rfl ho | 21 => rfl | 22 => rfl | 23 => rfl | 24 => rfl | 25 => rfl | 26 => rfl | 27 => rfl
    | n + 28 => rfl)
theorem hs_51 (S : GS) (f : Nat → Int32) {k : Nat} (x : Int32) (h : k < 160 ∧ 160 ≤ 1000) : sm_aset (hp S) 51 .int (some (ls 160 f)) (nI k) x = hp (sA S 6 (fu f k x)) := by rw [sm_aset_nI (by omega), ls_set]; exact sa_51 S _
theorem sa_52 (S : GS) (f : Nat → Int32) : (hp S).set 52 (.inl (.int, ls 320 f)) = hp (sA S 7 f) := hp_setm 52 (by omega) (by omega) rfl rfl (rfl) rfl (by
    intro o hlt ho
    match o with
    | 0 => rfl | 1 => rfl | 2 => rfl | 3 => rfl | 4 => rfl | 5 => rfl | 6 => rfl | 7 => rfl | 8 => rfl | 9 => rfl | 10 => rfl | 11 => rfl | 12 => rfl | 13 => rfl | 14 => rfl | 15 => rfl | 16 => rfl | 17 => rfl | 18 => rfl | 19 => rfl | 20 => rfl | 21 => exact absurd rfl ho | 22 => rfl | 23 => rfl | 24 => rfl | 25 => rfl | 26 => rfl | 27 => rfl
    | n + 28 => rfl)
theorem hs_52 (S : GS) (f : Nat → Int32) {k : Nat} (x : Int32) (h : k < 320 ∧ 320 ≤ 1000) : sm_aset (hp S) 52 .int (some (ls 320 f)) (nI k) x = hp (sA S 7 (fu f k x)) := by rw [sm_aset_nI (by omega), ls_set]; exact sa_52 S _
theorem sa_53 (S : GS) (f : Nat → Int32) : (hp S).set 53 (.inl (.int, ls 80 f)) = hp (sA S 8 f) := hp_setm 53 (by omega) (by omega) rfl rfl (rfl) rfl (by
    intro o hlt ho
    match o with
    | 0 => rfl | 1 => rfl | 2 => rfl | 3 => rfl | 4 => rfl | 5 => rfl | 6 => rfl | 7 => rfl | 8 => rfl | 9 => rfl | 10 => rfl | 11 => rfl | 12 => rfl | 13 => rfl | 14 => rfl | 15 => rfl | 16 => rfl | 17 => rfl | 18 => rfl | 19 => rfl | 20 => rfl | 21 => rfl | 22 => exact absurd rfl ho | 23 => rfl | 24 => rfl | 25 => rfl | 26 => rfl | 27 => rfl
    | n + 28 => rfl)
theorem hs_53 (S : GS) (f : Nat → Int32) {k : Nat} (x : Int32) (h : k < 80 ∧ 80 ≤ 1000) : sm_aset (hp S) 53 .int (some (ls 80 f)) (nI k) x = hp (sA S 8 (fu f k x)) := by rw [sm_aset_nI (by omega), ls_set]; exact sa_53 S _
theorem sa_54 (S : GS) (f : Nat → Int32) : (hp S).set 54 (.inl (.boolean, ls 2 f)) = hp (sA S 9 f) := hp_setm 54 (by omega) (by omega) rfl rfl (rfl) rfl (by
    intro o hlt ho
    match o with
    | 0 => rfl | 1 => rfl | 2 => rfl | 3 => rfl | 4 => rfl | 5 => rfl | 6 => rfl | 7 => rfl | 8 => rfl | 9 => rfl | 10 => rfl | 11 => rfl | 12 => rfl | 13 => rfl | 14 => rfl | 15 => rfl | 16 => rfl | 17 => rfl | 18 => rfl | 19 => rfl | 20 => rfl | 21 => rfl | 22 => rfl | 23 => exact absurd rfl ho | 24 => rfl | 25 => rfl | 26 => rfl | 27 => rfl
    | n + 28 => rfl)
theorem sa_55 (S : GS) (f : Nat → Int32) : (hp S).set 55 (.inl (.int, ls 9 f)) = hp (sA S 10 f) := hp_setm 55 (by omega) (by omega) rfl rfl (rfl) rfl (by
    intro o hlt ho
    match o with
    | 0 => rfl | 1 => rfl | 2 => rfl | 3 => rfl | 4 => rfl | 5 => rfl | 6 => rfl | 7 => rfl | 8 => rfl | 9 => rfl | 10 => rfl | 11 => rfl | 12 => rfl | 13 => rfl | 14 => rfl | 15 => rfl | 16 => rfl | 17 => rfl | 18 => rfl | 19 => rfl | 20 => rfl | 21 => rfl | 22 => rfl | 23 => rfl | 24 => exact absurd rfl ho | 25 => rfl | 26 => rfl | 27 => rfl
    | n + 28 => rfl)
theorem hs_55 (S : GS) (f : Nat → Int32) {k : Nat} (x : Int32) (h : k < 9 ∧ 9 ≤ 1000) : sm_aset (hp S) 55 .int (some (ls 9 f)) (nI k) x = hp (sA S 10 (fu f k x)) := by rw [sm_aset_nI (by omega), ls_set]; exact sa_55 S _
theorem sa_56 (S : GS) (f : Nat → Int32) : (hp S).set 56 (.inl (.int, ls 6 f)) = hp (sA S 11 f) := hp_setm 56 (by omega) (by omega) rfl rfl (rfl) rfl (by
    intro o hlt ho
    match o with
    | 0 => rfl | 1 => rfl | 2 => rfl | 3 => rfl | 4 => rfl | 5 => rfl | 6 => rfl | 7 => rfl | 8 => rfl | 9 => rfl | 10 => rfl | 11 => rfl | 12 => rfl | 13 => rfl | 14 => rfl | 15 => rfl | 16 => rfl | 17 => rfl | 18 => rfl | 19 => rfl | 20 => rfl | 21 => rfl | 22 => rfl | 23 => rfl | 24 => rfl | 25 => exact absurd rfl ho | 26 => rfl | 27 => rfl
    | n + 28 => rfl)
theorem hs_56 (S : GS) (f : Nat → Int32) {k : Nat} (x : Int32) (h : k < 6 ∧ 6 ≤ 1000) : sm_aset (hp S) 56 .int (some (ls 6 f)) (nI k) x = hp (sA S 11 (fu f k x)) := by rw [sm_aset_nI (by omega), ls_set]; exact sa_56 S _
theorem sa_57 (S : GS) (f : Nat → Int32) : (hp S).set 57 (.inl (.int, ls 6 f)) = hp (sA S 12 f) := hp_setm 57 (by omega) (by omega) rfl rfl (rfl) rfl (by
    intro o hlt ho
    match o with
    | 0 => rfl | 1 => rfl | 2 => rfl | 3 => rfl | 4 => rfl | 5 => rfl | 6 => rfl | 7 => rfl | 8 => rfl | 9 => rfl | 10 => rfl | 11 => rfl | 12 => rfl | 13 => rfl | 14 => rfl | 15 => rfl | 16 => rfl | 17 => rfl | 18 => rfl | 19 => rfl | 20 => rfl | 21 => rfl | 22 => rfl | 23 => rfl | 24 => rfl | 25 => rfl | 26 => exact absurd rfl ho | 27 => rfl
    | n + 28 => rfl)
theorem hs_57 (S : GS) (f : Nat → Int32) {k : Nat} (x : Int32) (h : k < 6 ∧ 6 ≤ 1000) : sm_aset (hp S) 57 .int (some (ls 6 f)) (nI k) x = hp (sA S 12 (fu f k x)) := by rw [sm_aset_nI (by omega), ls_set]; exact sa_57 S _
theorem sa_58 (S : GS) (f : Nat → Int32) : (hp S).set 58 (.inl (.int, ls 32 f)) = hp (sA S 13 f) := hp_setm 58 (by omega) (by omega) rfl rfl (rfl) rfl (by
    intro o hlt ho
    match o with
    | 0 => rfl | 1 => rfl | 2 => rfl | 3 => rfl | 4 => rfl | 5 => rfl | 6 => rfl | 7 => rfl | 8 => rfl | 9 => rfl | 10 => rfl | 11 => rfl | 12 => rfl | 13 => rfl | 14 => rfl | 15 => rfl | 16 => rfl | 17 => rfl | 18 => rfl | 19 => rfl | 20 => rfl | 21 => rfl | 22 => rfl | 23 => rfl | 24 => rfl | 25 => rfl | 26 => rfl | 27 => exact absurd rfl ho
    | n + 28 => rfl)
theorem hs_58 (S : GS) (f : Nat → Int32) {k : Nat} (x : Int32) (h : k < 32 ∧ 32 ≤ 1000) : sm_aset (hp S) 58 .int (some (ls 32 f)) (nI k) x = hp (sA S 13 (fu f k x)) := by rw [sm_aset_nI (by omega), ls_set]; exact sa_58 S _
theorem sa_59 (S : GS) (f : Nat → Int32) : (hp S).set 59 (.inl (.int, ls 5 f)) = hp (sA S 14 f) := hp_setm 59 (by omega) (by omega) rfl rfl (rfl) rfl (by
    intro o hlt ho
    match o with
    | 0 => rfl | 1 => rfl | 2 => rfl | 3 => rfl | 4 => rfl | 5 => rfl | 6 => rfl | 7 => rfl | 8 => rfl | 9 => rfl | 10 => rfl | 11 => rfl | 12 => rfl | 13 => rfl | 14 => rfl | 15 => rfl | 16 => rfl | 17 => rfl | 18 => rfl | 19 => rfl | 20 => rfl | 21 => rfl | 22 => rfl | 23 => rfl | 24 => rfl | 25 => rfl | 26 => rfl | 27 => rfl
    | n + 28 => exact absurd (show n + 28 = 59 - 31 by omega) ho)
theorem hs_59 (S : GS) (f : Nat → Int32) {k : Nat} (x : Int32) (h : k < 5 ∧ 5 ≤ 1000) : sm_aset (hp S) 59 .int (some (ls 5 f)) (nI k) x = hp (sA S 14 (fu f k x)) := by rw [sm_aset_nI (by omega), ls_set]; exact sa_59 S _

def i0_G (c : Nat) : Int32 := if c = 0 then 6 else if c ≤ 9 then 2 else 0
def S_0 : GS := (fun _ => cF 6 0 i0_G (fun _ => 0), 0, fun _ => 0, fun _ _ => 0, fun _ => 0, fun k => if k = 1 then i0_G else fun _ => 0)
def h_0 : HH := (List.range 45).map (g_cell S_0)
set_option maxRecDepth 100000 in
theorem i_9 (xs : List Int32) : sm_call0 xs 300 n_X9_init [.ref 0] [.inr (.inr (9, sm_dfl 9))] = some (none, h_0) := by rfl
set_option maxRecDepth 100000 in
theorem i_10 (xs : List Int32) : sm_call0 xs 300 n_X10_init [.ref 45] (h_0 ++ [.inr (.inr (10, sm_dfl 10))]) = some (none, hp S_0) := by rfl

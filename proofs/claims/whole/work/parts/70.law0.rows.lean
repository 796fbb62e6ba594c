set_option maxRecDepth 100000 in
theorem c0_L_law {xs : List Int32} {h : HH} {a0 : Nat} : sm_call xs n_L_law [.ref a0] h = sm_run xs n_L_law 0 [some (.ref a0), none, none, none] [] h := sx_call hm_L_law (Nat.le_of_ble_eq_true rfl) rfl
set_option maxRecDepth 100000 in
theorem s_L_law_0 {xs : List Int32} {l0 l1 l2 l3 : Option Value} {st : List Value} {h : HH} (hl : h.length < sm_B) : sm_run xs n_L_law 0 [l0, l1, l2, l3] st h = sm_run xs n_L_law 3 [l0, l1, l2, l3] (.ref h.length :: st) (h ++ [.inr (.inr (9, sm_dfl 9))]) := sx_new (q := (9, [62, 63, 44])) hm_L_law rfl rfl hl
set_option maxRecDepth 100000 in
theorem s_L_law_3 {xs : List Int32} {l0 l1 l2 l3 : Option Value} {st : List Value} {h : HH} {x : Nat} : sm_run xs n_L_law 3 [l0, l1, l2, l3] (.ref x :: st) h = sm_run xs n_L_law 4 [l0, l1, l2, l3] (.ref x :: .ref x :: st) h := sx_pur (.dup) hm_L_law rfl rfl rfl rfl
set_option maxRecDepth 100000 in
theorem s_L_law_3i {xs : List Int32} {l0 l1 l2 l3 : Option Value} {st : List Value} {h : HH} {x : Int32} : sm_run xs n_L_law 3 [l0, l1, l2, l3] (.int x :: st) h = sm_run xs n_L_law 4 [l0, l1, l2, l3] (.int x :: .int x :: st) h := sx_pur (.dup) hm_L_law rfl rfl rfl rfl
set_option maxRecDepth 100000 in
theorem s_L_law_4 {xs : List Int32} {l0 l1 l2 l3 : Option Value} {st : List Value} {h : HH} {i : Nat} (hs : (st.map fun v => v.category).sum ≤ 8) (hc : (sm_call xs n_X9_init [.ref i] h).isSome = true) : sm_run xs n_L_law 4 [l0, l1, l2, l3] (.ref i :: st) h = sm_run xs n_L_law 7 [l0, l1, l2, l3] ((sm_rr (sm_call xs n_X9_init [.ref i] h)).toList ++ st) (sm_rh (sm_call xs n_X9_init [.ref i] h)) := sx_spc (k := mi_X9_init) (as := [.ref i]) (rest := st) hm_L_law rfl pk_13_9 hm_X9_init (by decide) ⟨by show 0 ≤ _; simp only [List.length_cons]; omega, rfl, rfl⟩ hs hc
set_option maxRecDepth 100000 in
theorem s_L_law_7 {xs : List Int32} {l0 l1 l2 l3 : Option Value} {st : List Value} {h : HH} {x : Nat} : sm_run xs n_L_law 7 [l0, l1, l2, l3] (.ref x :: st) h = sm_run xs n_L_law 8 [sm_clr l0, some (.ref x), l2, l3] st h := sx_pur (.astore_n 1) hm_L_law rfl rfl rfl rfl
set_option maxRecDepth 100000 in
theorem s_L_law_8 {xs : List Int32} {l0 l1 l2 l3 : Option Value} {st : List Value} {h : HH} (hl : h.length < sm_B) : sm_run xs n_L_law 8 [l0, l1, l2, l3] st h = sm_run xs n_L_law 11 [l0, l1, l2, l3] (.ref h.length :: st) (h ++ [.inr (.inr (10, sm_dfl 10))]) := sx_new (q := (10, [701, 702, 55])) hm_L_law rfl rfl hl
set_option maxRecDepth 100000 in
theorem s_L_law_11 {xs : List Int32} {l0 l1 l2 l3 : Option Value} {st : List Value} {h : HH} {x : Nat} : sm_run xs n_L_law 11 [l0, l1, l2, l3] (.ref x :: st) h = sm_run xs n_L_law 12 [l0, l1, l2, l3] (.ref x :: .ref x :: st) h := sx_pur (.dup) hm_L_law rfl rfl rfl rfl
set_option maxRecDepth 100000 in
theorem s_L_law_11i {xs : List Int32} {l0 l1 l2 l3 : Option Value} {st : List Value} {h : HH} {x : Int32} : sm_run xs n_L_law 11 [l0, l1, l2, l3] (.int x :: st) h = sm_run xs n_L_law 12 [l0, l1, l2, l3] (.int x :: .int x :: st) h := sx_pur (.dup) hm_L_law rfl rfl rfl rfl
set_option maxRecDepth 100000 in
theorem s_L_law_12 {xs : List Int32} {l0 l1 l2 l3 : Option Value} {st : List Value} {h : HH} {i : Nat} (hs : (st.map fun v => v.category).sum ≤ 8) (hc : (sm_call xs n_X10_init [.ref i] h).isSome = true) : sm_run xs n_L_law 12 [l0, l1, l2, l3] (.ref i :: st) h = sm_run xs n_L_law 15 [l0, l1, l2, l3] ((sm_rr (sm_call xs n_X10_init [.ref i] h)).toList ++ st) (sm_rh (sm_call xs n_X10_init [.ref i] h)) := sx_spc (k := mi_X10_init) (as := [.ref i]) (rest := st) hm_L_law rfl pk_13_12 hm_X10_init (by decide) ⟨by show 0 ≤ _; simp only [List.length_cons]; omega, rfl, rfl⟩ hs hc
set_option maxRecDepth 100000 in
theorem s_L_law_15 {xs : List Int32} {l0 l1 l2 l3 : Option Value} {st : List Value} {h : HH} {x : Nat} : sm_run xs n_L_law 15 [l0, l1, l2, l3] (.ref x :: st) h = sm_run xs n_L_law 16 [l0, sm_clr l1, some (.ref x), l3] st h := sx_pur (.astore_n 2) hm_L_law rfl rfl rfl rfl
set_option maxRecDepth 100000 in
theorem s_L_law_16 {xs : List Int32} {l0 l1 l2 l3 : Option Value} {st : List Value} {h : HH} : sm_run xs n_L_law 16 [l0, l1, l2, l3] st h = sm_run xs n_L_law 17 [l0, l1, l2, l3] (.int 0 :: st) h := sx_pur (.iconst 0) hm_L_law rfl rfl rfl rfl
set_option maxRecDepth 100000 in
theorem s_L_law_17 {xs : List Int32} {l0 l1 l2 l3 : Option Value} {st : List Value} {h : HH} {x : Int32} : sm_run xs n_L_law 17 [l0, l1, l2, l3] (.int x :: st) h = sm_run xs n_L_law 18 [l0, l1, sm_clr l2, some (.int x)] st h := sx_pur (.istore_n 3) hm_L_law rfl rfl rfl rfl
set_option maxRecDepth 100000 in
theorem s_L_law_18 {xs : List Int32} {l0 l1 l2 : Option Value} {st : List Value} {h : HH} {x : Int32} : sm_run xs n_L_law 18 [l0, l1, l2, some (.int x)] st h = sm_run xs n_L_law 19 [l0, l1, l2, some (.int x)] (.int x :: st) h := sx_pur (.iload_n 3) hm_L_law rfl rfl rfl rfl
set_option maxRecDepth 100000 in
theorem s_L_law_19 {xs : List Int32} {l1 l2 l3 : Option Value} {st : List Value} {h : HH} {x : Nat} : sm_run xs n_L_law 19 [some (.ref x), l1, l2, l3] st h = sm_run xs n_L_law 20 [some (.ref x), l1, l2, l3] (.ref x :: st) h := sx_pur (.aload_n 0) hm_L_law rfl rfl rfl rfl
set_option maxRecDepth 100000 in
theorem s_L_law_20 {xs : List Int32} {l0 l1 l2 l3 : Option Value} {st : List Value} {h : HH} (hh : h[sm_B + 9]? = none) : sm_run xs n_L_law 20 [l0, l1, l2, l3] (.ref (sm_B + 9) :: st) h = sm_run xs n_L_law 21 [l0, l1, l2, l3] (.int (Int32.ofNat xs.length) :: st) h := sx_slen hm_L_law rfl hh
set_option maxRecDepth 100000 in
theorem s_L_law_21 {xs : List Int32} {l0 l1 l2 l3 : Option Value} {st : List Value} {h : HH} : sm_run xs n_L_law 21 [l0, l1, l2, l3] st h = sm_run xs n_L_law 22 [l0, l1, l2, l3] (.int 5 :: st) h := sx_pur (.iconst 5) hm_L_law rfl rfl rfl rfl
set_option maxRecDepth 100000 in
theorem s_L_law_22 {xs : List Int32} {l0 l1 l2 l3 : Option Value} {st : List Value} {h : HH} {x y : Int32} : sm_run xs n_L_law 22 [l0, l1, l2, l3] (.int y :: .int x :: st) h = sm_run xs n_L_law 23 [l0, l1, l2, l3] (.int (x - y) :: st) h := sx_pur (.isub) hm_L_law rfl rfl rfl rfl
set_option maxRecDepth 100000 in
theorem s_L_law_23 {xs : List Int32} {l0 l1 l2 l3 : Option Value} {st : List Value} {h : HH} {x y : Int32} : sm_run xs n_L_law 23 [l0, l1, l2, l3] (.int y :: .int x :: st) h = if y < x then sm_run xs n_L_law 914 [l0, l1, l2, l3] st h else sm_run xs n_L_law 26 [l0, l1, l2, l3] st h := sx_icmp hm_L_law rfl rfl rfl
set_option maxRecDepth 100000 in
theorem s_L_law_26 {xs : List Int32} {l1 l2 l3 : Option Value} {st : List Value} {h : HH} {x : Nat} : sm_run xs n_L_law 26 [some (.ref x), l1, l2, l3] st h = sm_run xs n_L_law 27 [some (.ref x), l1, l2, l3] (.ref x :: st) h := sx_pur (.aload_n 0) hm_L_law rfl rfl rfl rfl
set_option maxRecDepth 100000 in
theorem s_L_law_27 {xs : List Int32} {l0 l1 l2 : Option Value} {st : List Value} {h : HH} {x : Int32} : sm_run xs n_L_law 27 [l0, l1, l2, some (.int x)] st h = sm_run xs n_L_law 28 [l0, l1, l2, some (.int x)] (.int x :: st) h := sx_pur (.iload_n 3) hm_L_law rfl rfl rfl rfl
set_option maxRecDepth 100000 in
theorem s_L_law_28 {xs : List Int32} {l0 l1 l2 l3 : Option Value} {st : List Value} {h : HH} {j : Int32} (hh : h[sm_B + 9]? = none) (hin : sm_inr (some xs) j = true) : sm_run xs n_L_law 28 [l0, l1, l2, l3] (.int j :: .ref (sm_B + 9) :: st) h = sm_run xs n_L_law 29 [l0, l1, l2, l3] (.int (sm_el (some xs) j) :: st) h := sx_sald hm_L_law rfl hh hin
set_option maxRecDepth 100000 in
theorem s_L_law_29 {xs : List Int32} {l0 l1 l2 l3 : Option Value} {st : List Value} {h : HH} : sm_run xs n_L_law 29 [l0, l1, l2, l3] st h = sm_run xs n_L_law 31 [l0, l1, l2, l3] (.int 31 :: st) h := sx_pur (.bipush 31) hm_L_law rfl rfl rfl rfl
set_option maxRecDepth 100000 in
theorem s_L_law_31 {xs : List Int32} {l0 l1 l2 l3 : Option Value} {st : List Value} {h : HH} {x y : Int32} : sm_run xs n_L_law 31 [l0, l1, l2, l3] (.int y :: .int x :: st) h = sm_run xs n_L_law 32 [l0, l1, l2, l3] (.int (x &&& y) :: st) h := sx_pur (.iand) hm_L_law rfl rfl rfl rfl
set_option maxRecDepth 100000 in
theorem s_L_law_32 {xs : List Int32} {l0 l1 l2 l3 : Option Value} {st : List Value} {h : HH} {x : Int32} : sm_run xs n_L_law 32 [l0, l1, l2, l3] (.int x :: st) h = if x = 0 then sm_run xs n_L_law 156 [l0, l1, l2, l3] st h else if x = 1 then sm_run xs n_L_law 179 [l0, l1, l2, l3] st h else if x = 2 then sm_run xs n_L_law 192 [l0, l1, l2, l3] st h else if x = 3 then sm_run xs n_L_law 205 [l0, l1, l2, l3] st h else if x = 4 then sm_run xs n_L_law 218 [l0, l1, l2, l3] st h else if x = 5 then sm_run xs n_L_law 251 [l0, l1, l2, l3] st h else if x = 6 then sm_run xs n_L_law 284 [l0, l1, l2, l3] st h else if x = 7 then sm_run xs n_L_law 317 [l0, l1, l2, l3] st h else if x = 8 then sm_run xs n_L_law 350 [l0, l1, l2, l3] st h else if x = 9 then sm_run xs n_L_law 393 [l0, l1, l2, l3] st h else if x = 10 then sm_run xs n_L_law 436 [l0, l1, l2, l3] st h else if x = 11 then sm_run xs n_L_law 449 [l0, l1, l2, l3] st h else if x = 12 then sm_run xs n_L_law 472 [l0, l1, l2, l3] st h else if x = 13 then sm_run xs n_L_law 495 [l0, l1, l2, l3] st h else if x = 14 then sm_run xs n_L_law 528 [l0, l1, l2, l3] st h else if x = 15 then sm_run xs n_L_law 571 [l0, l1, l2, l3] st h else if x = 16 then sm_run xs n_L_law 604 [l0, l1, l2, l3] st h else if x = 17 then sm_run xs n_L_law 637 [l0, l1, l2, l3] st h else if x = 18 then sm_run xs n_L_law 660 [l0, l1, l2, l3] st h else if x = 19 then sm_run xs n_L_law 693 [l0, l1, l2, l3] st h else if x = 20 then sm_run xs n_L_law 706 [l0, l1, l2, l3] st h else if x = 21 then sm_run xs n_L_law 729 [l0, l1, l2, l3] st h else if x = 22 then sm_run xs n_L_law 783 [l0, l1, l2, l3] st h else if x = 23 then sm_run xs n_L_law 796 [l0, l1, l2, l3] st h else if x = 24 then sm_run xs n_L_law 819 [l0, l1, l2, l3] st h else if x = 25 then sm_run xs n_L_law 832 [l0, l1, l2, l3] st h else if x = 26 then sm_run xs n_L_law 885 [l0, l1, l2, l3] st h else sm_run xs n_L_law 908 [l0, l1, l2, l3] st h := by
  by_cases h0 : x = 0
  · subst h0; exact sx_ctl (i := .tableswitch 876 0 26 #[124, 147, 160, 173, 186, 219, 252, 285, 318, 361, 404, 417, 440, 463, 496, 539, 572, 605, 628, 661, 674, 697, 751, 764, 787, 800, 853]) hm_L_law rfl rfl rfl rfl
  rw [if_neg h0]
  by_cases h1 : x = 1
  · subst h1; exact sx_ctl (i := .tableswitch 876 0 26 #[124, 147, 160, 173, 186, 219, 252, 285, 318, 361, 404, 417, 440, 463, 496, 539, 572, 605, 628, 661, 674, 697, 751, 764, 787, 800, 853]) hm_L_law rfl rfl rfl rfl
  rw [if_neg h1]
  by_cases h2 : x = 2
  · subst h2; exact sx_ctl (i := .tableswitch 876 0 26 #[124, 147, 160, 173, 186, 219, 252, 285, 318, 361, 404, 417, 440, 463, 496, 539, 572, 605, 628, 661, 674, 697, 751, 764, 787, 800, 853]) hm_L_law rfl rfl rfl rfl
  rw [if_neg h2]
  by_cases h3 : x = 3
  · subst h3; exact sx_ctl (i := .tableswitch 876 0 26 #[124, 147, 160, 173, 186, 219, 252, 285, 318, 361, 404, 417, 440, 463, 496, 539, 572, 605, 628, 661, 674, 697, 751, 764, 787, 800, 853]) hm_L_law rfl rfl rfl rfl
  rw [if_neg h3]
  by_cases h4 : x = 4
  · subst h4; exact sx_ctl (i := .tableswitch 876 0 26 #[124, 147, 160, 173, 186, 219, 252, 285, 318, 361, 404, 417, 440, 463, 496, 539, 572, 605, 628, 661, 674, 697, 751, 764, 787, 800, 853]) hm_L_law rfl rfl rfl rfl
  rw [if_neg h4]
  by_cases h5 : x = 5
  · subst h5; exact sx_ctl (i := .tableswitch 876 0 26 #[124, 147, 160, 173, 186, 219, 252, 285, 318, 361, 404, 417, 440, 463, 496, 539, 572, 605, 628, 661, 674, 697, 751, 764, 787, 800, 853]) hm_L_law rfl rfl rfl rfl
  rw [if_neg h5]
  by_cases h6 : x = 6
  · subst h6; exact sx_ctl (i := .tableswitch 876 0 26 #[124, 147, 160, 173, 186, 219, 252, 285, 318, 361, 404, 417, 440, 463, 496, 539, 572, 605, 628, 661, 674, 697, 751, 764, 787, 800, 853]) hm_L_law rfl rfl rfl rfl
  rw [if_neg h6]
  by_cases h7 : x = 7
  · subst h7; exact sx_ctl (i := .tableswitch 876 0 26 #[124, 147, 160, 173, 186, 219, 252, 285, 318, 361, 404, 417, 440, 463, 496, 539, 572, 605, 628, 661, 674, 697, 751, 764, 787, 800, 853]) hm_L_law rfl rfl rfl rfl
  rw [if_neg h7]
  by_cases h8 : x = 8
  · subst h8; exact sx_ctl (i := .tableswitch 876 0 26 #[124, 147, 160, 173, 186, 219, 252, 285, 318, 361, 404, 417, 440, 463, 496, 539, 572, 605, 628, 661, 674, 697, 751, 764, 787, 800, 853]) hm_L_law rfl rfl rfl rfl
  rw [if_neg h8]
  by_cases h9 : x = 9
  · subst h9; exact sx_ctl (i := .tableswitch 876 0 26 #[124, 147, 160, 173, 186, 219, 252, 285, 318, 361, 404, 417, 440, 463, 496, 539, 572, 605, 628, 661, 674, 697, 751, 764, 787, 800, 853]) hm_L_law rfl rfl rfl rfl
  rw [if_neg h9]
  by_cases h10 : x = 10
  · subst h10; exact sx_ctl (i := .tableswitch 876 0 26 #[124, 147, 160, 173, 186, 219, 252, 285, 318, 361, 404, 417, 440, 463, 496, 539, 572, 605, 628, 661, 674, 697, 751, 764, 787, 800, 853]) hm_L_law rfl rfl rfl rfl
  rw [if_neg h10]
  by_cases h11 : x = 11
  · subst h11; exact sx_ctl (i := .tableswitch 876 0 26 #[124, 147, 160, 173, 186, 219, 252, 285, 318, 361, 404, 417, 440, 463, 496, 539, 572, 605, 628, 661, 674, 697, 751, 764, 787, 800, 853]) hm_L_law rfl rfl rfl rfl
  rw [if_neg h11]
  by_cases h12 : x = 12
  · subst h12; exact sx_ctl (i := .tableswitch 876 0 26 #[124, 147, 160, 173, 186, 219, 252, 285, 318, 361, 404, 417, 440, 463, 496, 539, 572, 605, 628, 661, 674, 697, 751, 764, 787, 800, 853]) hm_L_law rfl rfl rfl rfl
  rw [if_neg h12]
  by_cases h13 : x = 13
  · subst h13; exact sx_ctl (i := .tableswitch 876 0 26 #[124, 147, 160, 173, 186, 219, 252, 285, 318, 361, 404, 417, 440, 463, 496, 539, 572, 605, 628, 661, 674, 697, 751, 764, 787, 800, 853]) hm_L_law rfl rfl rfl rfl
  rw [if_neg h13]
  by_cases h14 : x = 14
  · subst h14; exact sx_ctl (i := .tableswitch 876 0 26 #[124, 147, 160, 173, 186, 219, 252, 285, 318, 361, 404, 417, 440, 463, 496, 539, 572, 605, 628, 661, 674, 697, 751, 764, 787, 800, 853]) hm_L_law rfl rfl rfl rfl
  rw [if_neg h14]
  by_cases h15 : x = 15
  · subst h15; exact sx_ctl (i := .tableswitch 876 0 26 #[124, 147, 160, 173, 186, 219, 252, 285, 318, 361, 404, 417, 440, 463, 496, 539, 572, 605, 628, 661, 674, 697, 751, 764, 787, 800, 853]) hm_L_law rfl rfl rfl rfl
  rw [if_neg h15]
  by_cases h16 : x = 16
  · subst h16; exact sx_ctl (i := .tableswitch 876 0 26 #[124, 147, 160, 173, 186, 219, 252, 285, 318, 361, 404, 417, 440, 463, 496, 539, 572, 605, 628, 661, 674, 697, 751, 764, 787, 800, 853]) hm_L_law rfl rfl rfl rfl
  rw [if_neg h16]
  by_cases h17 : x = 17
  · subst h17; exact sx_ctl (i := .tableswitch 876 0 26 #[124, 147, 160, 173, 186, 219, 252, 285, 318, 361, 404, 417, 440, 463, 496, 539, 572, 605, 628, 661, 674, 697, 751, 764, 787, 800, 853]) hm_L_law rfl rfl rfl rfl
  rw [if_neg h17]
  by_cases h18 : x = 18
  · subst h18; exact sx_ctl (i := .tableswitch 876 0 26 #[124, 147, 160, 173, 186, 219, 252, 285, 318, 361, 404, 417, 440, 463, 496, 539, 572, 605, 628, 661, 674, 697, 751, 764, 787, 800, 853]) hm_L_law rfl rfl rfl rfl
  rw [if_neg h18]
  by_cases h19 : x = 19
  · subst h19; exact sx_ctl (i := .tableswitch 876 0 26 #[124, 147, 160, 173, 186, 219, 252, 285, 318, 361, 404, 417, 440, 463, 496, 539, 572, 605, 628, 661, 674, 697, 751, 764, 787, 800, 853]) hm_L_law rfl rfl rfl rfl
  rw [if_neg h19]
  by_cases h20 : x = 20
  · subst h20; exact sx_ctl (i := .tableswitch 876 0 26 #[124, 147, 160, 173, 186, 219, 252, 285, 318, 361, 404, 417, 440, 463, 496, 539, 572, 605, 628, 661, 674, 697, 751, 764, 787, 800, 853]) hm_L_law rfl rfl rfl rfl
  rw [if_neg h20]
  by_cases h21 : x = 21
  · subst h21; exact sx_ctl (i := .tableswitch 876 0 26 #[124, 147, 160, 173, 186, 219, 252, 285, 318, 361, 404, 417, 440, 463, 496, 539, 572, 605, 628, 661, 674, 697, 751, 764, 787, 800, 853]) hm_L_law rfl rfl rfl rfl
  rw [if_neg h21]
  by_cases h22 : x = 22
  · subst h22; exact sx_ctl (i := .tableswitch 876 0 26 #[124, 147, 160, 173, 186, 219, 252, 285, 318, 361, 404, 417, 440, 463, 496, 539, 572, 605, 628, 661, 674, 697, 751, 764, 787, 800, 853]) hm_L_law rfl rfl rfl rfl
  rw [if_neg h22]
  by_cases h23 : x = 23
  · subst h23; exact sx_ctl (i := .tableswitch 876 0 26 #[124, 147, 160, 173, 186, 219, 252, 285, 318, 361, 404, 417, 440, 463, 496, 539, 572, 605, 628, 661, 674, 697, 751, 764, 787, 800, 853]) hm_L_law rfl rfl rfl rfl
  rw [if_neg h23]
  by_cases h24 : x = 24
  · subst h24; exact sx_ctl (i := .tableswitch 876 0 26 #[124, 147, 160, 173, 186, 219, 252, 285, 318, 361, 404, 417, 440, 463, 496, 539, 572, 605, 628, 661, 674, 697, 751, 764, 787, 800, 853]) hm_L_law rfl rfl rfl rfl
  rw [if_neg h24]
  by_cases h25 : x = 25
  · subst h25; exact sx_ctl (i := .tableswitch 876 0 26 #[124, 147, 160, 173, 186, 219, 252, 285, 318, 361, 404, 417, 440, 463, 496, 539, 572, 605, 628, 661, 674, 697, 751, 764, 787, 800, 853]) hm_L_law rfl rfl rfl rfl
  rw [if_neg h25]
  by_cases h26 : x = 26
  · subst h26; exact sx_ctl (i := .tableswitch 876 0 26 #[124, 147, 160, 173, 186, 219, 252, 285, 318, 361, 404, 417, 440, 463, 496, 539, 572, 605, 628, 661, 674, 697, 751, 764, 787, 800, 853]) hm_L_law rfl rfl rfl rfl
  rw [if_neg h26]
  refine sx_ctl (i := .tableswitch 876 0 26 #[124, 147, 160, 173, 186, 219, 252, 285, 318, 361, 404, 417, 440, 463, 496, 539, 572, 605, 628, 661, 674, 697, 751, 764, 787, 800, 853]) hm_L_law rfl rfl rfl ?_
  show sm_tsw 876 0 26 #[124, 147, 160, 173, 186, 219, 252, 285, 318, 361, 404, 417, 440, 463, 496, 539, 572, 605, 628, 661, 674, 697, 751, 764, 787, 800, 853] 32 (.int x :: st) = some (908, st)
  unfold sm_tsw
  dsimp only
  rw [if_pos (by
    have g0 : x.toInt ≠ 0 := fun q => h0 (Int32.toInt_inj.mp q)
    have g1 : x.toInt ≠ 1 := fun q => h1 (Int32.toInt_inj.mp q)
    have g2 : x.toInt ≠ 2 := fun q => h2 (Int32.toInt_inj.mp q)
    have g3 : x.toInt ≠ 3 := fun q => h3 (Int32.toInt_inj.mp q)
    have g4 : x.toInt ≠ 4 := fun q => h4 (Int32.toInt_inj.mp q)
    have g5 : x.toInt ≠ 5 := fun q => h5 (Int32.toInt_inj.mp q)
    have g6 : x.toInt ≠ 6 := fun q => h6 (Int32.toInt_inj.mp q)
    have g7 : x.toInt ≠ 7 := fun q => h7 (Int32.toInt_inj.mp q)
    have g8 : x.toInt ≠ 8 := fun q => h8 (Int32.toInt_inj.mp q)
    have g9 : x.toInt ≠ 9 := fun q => h9 (Int32.toInt_inj.mp q)
    have g10 : x.toInt ≠ 10 := fun q => h10 (Int32.toInt_inj.mp q)
    have g11 : x.toInt ≠ 11 := fun q => h11 (Int32.toInt_inj.mp q)
    have g12 : x.toInt ≠ 12 := fun q => h12 (Int32.toInt_inj.mp q)
    have g13 : x.toInt ≠ 13 := fun q => h13 (Int32.toInt_inj.mp q)
    have g14 : x.toInt ≠ 14 := fun q => h14 (Int32.toInt_inj.mp q)
    have g15 : x.toInt ≠ 15 := fun q => h15 (Int32.toInt_inj.mp q)
    have g16 : x.toInt ≠ 16 := fun q => h16 (Int32.toInt_inj.mp q)
    have g17 : x.toInt ≠ 17 := fun q => h17 (Int32.toInt_inj.mp q)
    have g18 : x.toInt ≠ 18 := fun q => h18 (Int32.toInt_inj.mp q)
    have g19 : x.toInt ≠ 19 := fun q => h19 (Int32.toInt_inj.mp q)
    have g20 : x.toInt ≠ 20 := fun q => h20 (Int32.toInt_inj.mp q)
    have g21 : x.toInt ≠ 21 := fun q => h21 (Int32.toInt_inj.mp q)
    have g22 : x.toInt ≠ 22 := fun q => h22 (Int32.toInt_inj.mp q)
    have g23 : x.toInt ≠ 23 := fun q => h23 (Int32.toInt_inj.mp q)
    have g24 : x.toInt ≠ 24 := fun q => h24 (Int32.toInt_inj.mp q)
    have g25 : x.toInt ≠ 25 := fun q => h25 (Int32.toInt_inj.mp q)
    have g26 : x.toInt ≠ 26 := fun q => h26 (Int32.toInt_inj.mp q)
    omega)]
  rfl
set_option maxRecDepth 100000 in
theorem s_L_law_156 {xs : List Int32} {l0 l2 l3 : Option Value} {st : List Value} {h : HH} {x : Nat} : sm_run xs n_L_law 156 [l0, some (.ref x), l2, l3] st h = sm_run xs n_L_law 157 [l0, some (.ref x), l2, l3] (.ref x :: st) h := sx_pur (.aload_n 1) hm_L_law rfl rfl rfl rfl
set_option maxRecDepth 100000 in
theorem s_L_law_157 {xs : List Int32} {l1 l2 l3 : Option Value} {st : List Value} {h : HH} {x : Nat} : sm_run xs n_L_law 157 [some (.ref x), l1, l2, l3] st h = sm_run xs n_L_law 158 [some (.ref x), l1, l2, l3] (.ref x :: st) h := sx_pur (.aload_n 0) hm_L_law rfl rfl rfl rfl
set_option maxRecDepth 100000 in
theorem s_L_law_158 {xs : List Int32} {l0 l1 l2 : Option Value} {st : List Value} {h : HH} {x : Int32} : sm_run xs n_L_law 158 [l0, l1, l2, some (.int x)] st h = sm_run xs n_L_law 159 [l0, l1, l2, some (.int x)] (.int x :: st) h := sx_pur (.iload_n 3) hm_L_law rfl rfl rfl rfl
set_option maxRecDepth 100000 in
theorem s_L_law_159 {xs : List Int32} {l0 l1 l2 l3 : Option Value} {st : List Value} {h : HH} : sm_run xs n_L_law 159 [l0, l1, l2, l3] st h = sm_run xs n_L_law 160 [l0, l1, l2, l3] (.int 1 :: st) h := sx_pur (.iconst 1) hm_L_law rfl rfl rfl rfl
set_option maxRecDepth 100000 in
theorem s_L_law_160 {xs : List Int32} {l0 l1 l2 l3 : Option Value} {st : List Value} {h : HH} {x y : Int32} : sm_run xs n_L_law 160 [l0, l1, l2, l3] (.int y :: .int x :: st) h = sm_run xs n_L_law 161 [l0, l1, l2, l3] (.int (x + y) :: st) h := sx_pur (.iadd) hm_L_law rfl rfl rfl rfl
set_option maxRecDepth 100000 in
theorem s_L_law_161 {xs : List Int32} {l0 l1 l2 l3 : Option Value} {st : List Value} {h : HH} {j : Int32} (hh : h[sm_B + 9]? = none) (hin : sm_inr (some xs) j = true) : sm_run xs n_L_law 161 [l0, l1, l2, l3] (.int j :: .ref (sm_B + 9) :: st) h = sm_run xs n_L_law 162 [l0, l1, l2, l3] (.int (sm_el (some xs) j) :: st) h := sx_sald hm_L_law rfl hh hin
set_option maxRecDepth 100000 in
theorem s_L_law_162 {xs : List Int32} {l0 l1 l2 l3 : Option Value} {st : List Value} {h : HH} {i : Nat} {b0 : Int32} (hs : (st.map fun v => v.category).sum ≤ 8) (hcl : sm_cls h i = some 9) (hc : (sm_call xs n_X9_write [.ref i, .int b0] h).isSome = true) : sm_run xs n_L_law 162 [l0, l1, l2, l3] (.int b0 :: .ref i :: st) h = sm_run xs n_L_law 165 [l0, l1, l2, l3] ((sm_rr (sm_call xs n_X9_write [.ref i, .int b0] h)).toList ++ st) (sm_rh (sm_call xs n_X9_write [.ref i, .int b0] h)) := sx_vrt (ci := 9) (en := (9, 13, 0, [263, 264, 265, 44, 266])) (k := mi_X9_write) (as := [.ref i, .int b0]) (rest := st) hm_L_law rfl vk_13_13 rfl hm_X9_write (by decide) ⟨by show 1 ≤ _; simp only [List.length_cons]; omega, rfl, rfl⟩ hs hcl hc
set_option maxRecDepth 100000 in
theorem s_L_law_165 {xs : List Int32} {l0 l1 l3 : Option Value} {st : List Value} {h : HH} {x : Nat} : sm_run xs n_L_law 165 [l0, l1, some (.ref x), l3] st h = sm_run xs n_L_law 166 [l0, l1, some (.ref x), l3] (.ref x :: st) h := sx_pur (.aload_n 2) hm_L_law rfl rfl rfl rfl
set_option maxRecDepth 100000 in
theorem s_L_law_166 {xs : List Int32} {l1 l2 l3 : Option Value} {st : List Value} {h : HH} {x : Nat} : sm_run xs n_L_law 166 [some (.ref x), l1, l2, l3] st h = sm_run xs n_L_law 167 [some (.ref x), l1, l2, l3] (.ref x :: st) h := sx_pur (.aload_n 0) hm_L_law rfl rfl rfl rfl
set_option maxRecDepth 100000 in
theorem s_L_law_167 {xs : List Int32} {l0 l1 l2 : Option Value} {st : List Value} {h : HH} {x : Int32} : sm_run xs n_L_law 167 [l0, l1, l2, some (.int x)] st h = sm_run xs n_L_law 168 [l0, l1, l2, some (.int x)] (.int x :: st) h := sx_pur (.iload_n 3) hm_L_law rfl rfl rfl rfl
set_option maxRecDepth 100000 in
theorem s_L_law_168 {xs : List Int32} {l0 l1 l2 l3 : Option Value} {st : List Value} {h : HH} : sm_run xs n_L_law 168 [l0, l1, l2, l3] st h = sm_run xs n_L_law 169 [l0, l1, l2, l3] (.int 1 :: st) h := sx_pur (.iconst 1) hm_L_law rfl rfl rfl rfl
set_option maxRecDepth 100000 in
theorem s_L_law_169 {xs : List Int32} {l0 l1 l2 l3 : Option Value} {st : List Value} {h : HH} {x y : Int32} : sm_run xs n_L_law 169 [l0, l1, l2, l3] (.int y :: .int x :: st) h = sm_run xs n_L_law 170 [l0, l1, l2, l3] (.int (x + y) :: st) h := sx_pur (.iadd) hm_L_law rfl rfl rfl rfl
set_option maxRecDepth 100000 in
theorem s_L_law_170 {xs : List Int32} {l0 l1 l2 l3 : Option Value} {st : List Value} {h : HH} {j : Int32} (hh : h[sm_B + 9]? = none) (hin : sm_inr (some xs) j = true) : sm_run xs n_L_law 170 [l0, l1, l2, l3] (.int j :: .ref (sm_B + 9) :: st) h = sm_run xs n_L_law 171 [l0, l1, l2, l3] (.int (sm_el (some xs) j) :: st) h := sx_sald hm_L_law rfl hh hin
set_option maxRecDepth 100000 in
theorem s_L_law_171 {xs : List Int32} {l0 l1 l2 l3 : Option Value} {st : List Value} {h : HH} {i : Nat} {b0 : Int32} (hs : (st.map fun v => v.category).sum ≤ 8) (hcl : sm_cls h i = some 10) (hc : (sm_call xs n_X10_write [.ref i, .int b0] h).isSome = true) : sm_run xs n_L_law 171 [l0, l1, l2, l3] (.int b0 :: .ref i :: st) h = sm_run xs n_L_law 174 [l0, l1, l2, l3] ((sm_rr (sm_call xs n_X10_write [.ref i, .int b0] h)).toList ++ st) (sm_rh (sm_call xs n_X10_write [.ref i, .int b0] h)) := sx_vrt (ci := 10) (en := (10, 15, 0, [775, 776, 777, 55, 778])) (k := mi_X10_write) (as := [.ref i, .int b0]) (rest := st) hm_L_law rfl vk_13_17 rfl hm_X10_write (by decide) ⟨by show 1 ≤ _; simp only [List.length_cons]; omega, rfl, rfl⟩ hs hcl hc
set_option maxRecDepth 100000 in
theorem s_L_law_174 {xs : List Int32} {l0 l1 l2 l3 : Option Value} {st : List Value} {h : HH} {x y : Int32} : sm_run xs n_L_law 174 [l0, l1, l2, l3] (.int y :: .int x :: st) h = if x = y then sm_run xs n_L_law 908 [l0, l1, l2, l3] st h else sm_run xs n_L_law 177 [l0, l1, l2, l3] st h := sx_icmp hm_L_law rfl rfl rfl
set_option maxRecDepth 100000 in
theorem s_L_law_177 {xs : List Int32} {l0 l1 l2 l3 : Option Value} {st : List Value} {h : HH} : sm_run xs n_L_law 177 [l0, l1, l2, l3] st h = sm_run xs n_L_law 178 [l0, l1, l2, l3] (.int 0 :: st) h := sx_pur (.iconst 0) hm_L_law rfl rfl rfl rfl
set_option maxRecDepth 100000 in
theorem s_L_law_178z0 {xs : List Int32} {l0 l1 l2 l3 : Option Value} {h : HH} : sm_run xs n_L_law 178 [l0, l1, l2, l3] [.int 0] h = some (some (.int 0), h) := sm_return hm_L_law rfl rfl
set_option maxRecDepth 100000 in
theorem s_L_law_178z1 {xs : List Int32} {l0 l1 l2 l3 : Option Value} {h : HH} : sm_run xs n_L_law 178 [l0, l1, l2, l3] [.int 1] h = some (some (.int 1), h) := sm_return hm_L_law rfl rfl
set_option maxRecDepth 100000 in
theorem s_L_law_179 {xs : List Int32} {l0 l2 l3 : Option Value} {st : List Value} {h : HH} {x : Nat} : sm_run xs n_L_law 179 [l0, some (.ref x), l2, l3] st h = sm_run xs n_L_law 180 [l0, some (.ref x), l2, l3] (.ref x :: st) h := sx_pur (.aload_n 1) hm_L_law rfl rfl rfl rfl
set_option maxRecDepth 100000 in
theorem s_L_law_180 {xs : List Int32} {l0 l1 l2 l3 : Option Value} {st : List Value} {h : HH} {i : Nat} (hs : (st.map fun v => v.category).sum ≤ 8) (hcl : sm_cls h i = some 9) (hc : (sm_call xs n_X9_erase [.ref i] h).isSome = true) : sm_run xs n_L_law 180 [l0, l1, l2, l3] (.ref i :: st) h = sm_run xs n_L_law 183 [l0, l1, l2, l3] ((sm_rr (sm_call xs n_X9_erase [.ref i] h)).toList ++ st) (sm_rh (sm_call xs n_X9_erase [.ref i] h)) := sx_vrt (ci := 9) (en := (9, 16, 0, [271, 272, 273, 44, 274])) (k := mi_X9_erase) (as := [.ref i]) (rest := st) hm_L_law rfl vk_13_18 rfl hm_X9_erase (by decide) ⟨by show 0 ≤ _; simp only [List.length_cons]; omega, rfl, rfl⟩ hs hcl hc
set_option maxRecDepth 100000 in
theorem s_L_law_183 {xs : List Int32} {l0 l1 l3 : Option Value} {st : List Value} {h : HH} {x : Nat} : sm_run xs n_L_law 183 [l0, l1, some (.ref x), l3] st h = sm_run xs n_L_law 184 [l0, l1, some (.ref x), l3] (.ref x :: st) h := sx_pur (.aload_n 2) hm_L_law rfl rfl rfl rfl
set_option maxRecDepth 100000 in
theorem s_L_law_184 {xs : List Int32} {l0 l1 l2 l3 : Option Value} {st : List Value} {h : HH} {i : Nat} (hs : (st.map fun v => v.category).sum ≤ 8) (hcl : sm_cls h i = some 10) (hc : (sm_call xs n_X10_erase [.ref i] h).isSome = true) : sm_run xs n_L_law 184 [l0, l1, l2, l3] (.ref i :: st) h = sm_run xs n_L_law 187 [l0, l1, l2, l3] ((sm_rr (sm_call xs n_X10_erase [.ref i] h)).toList ++ st) (sm_rh (sm_call xs n_X10_erase [.ref i] h)) := sx_vrt (ci := 10) (en := (10, 17, 0, [783, 784, 785, 55, 786])) (k := mi_X10_erase) (as := [.ref i]) (rest := st) hm_L_law rfl vk_13_22 rfl hm_X10_erase (by decide) ⟨by show 0 ≤ _; simp only [List.length_cons]; omega, rfl, rfl⟩ hs hcl hc
set_option maxRecDepth 100000 in
theorem s_L_law_187 {xs : List Int32} {l0 l1 l2 l3 : Option Value} {st : List Value} {h : HH} {x y : Int32} : sm_run xs n_L_law 187 [l0, l1, l2, l3] (.int y :: .int x :: st) h = if x = y then sm_run xs n_L_law 908 [l0, l1, l2, l3] st h else sm_run xs n_L_law 190 [l0, l1, l2, l3] st h := sx_icmp hm_L_law rfl rfl rfl
set_option maxRecDepth 100000 in
theorem s_L_law_190 {xs : List Int32} {l0 l1 l2 l3 : Option Value} {st : List Value} {h : HH} : sm_run xs n_L_law 190 [l0, l1, l2, l3] st h = sm_run xs n_L_law 191 [l0, l1, l2, l3] (.int 0 :: st) h := sx_pur (.iconst 0) hm_L_law rfl rfl rfl rfl
set_option maxRecDepth 100000 in
theorem s_L_law_191z0 {xs : List Int32} {l0 l1 l2 l3 : Option Value} {h : HH} : sm_run xs n_L_law 191 [l0, l1, l2, l3] [.int 0] h = some (some (.int 0), h) := sm_return hm_L_law rfl rfl
set_option maxRecDepth 100000 in
theorem s_L_law_191z1 {xs : List Int32} {l0 l1 l2 l3 : Option Value} {h : HH} : sm_run xs n_L_law 191 [l0, l1, l2, l3] [.int 1] h = some (some (.int 1), h) := sm_return hm_L_law rfl rfl
set_option maxRecDepth 100000 in
theorem s_L_law_192 {xs : List Int32} {l0 l2 l3 : Option Value} {st : List Value} {h : HH} {x : Nat} : sm_run xs n_L_law 192 [l0, some (.ref x), l2, l3] st h = sm_run xs n_L_law 193 [l0, some (.ref x), l2, l3] (.ref x :: st) h := sx_pur (.aload_n 1) hm_L_law rfl rfl rfl rfl
set_option maxRecDepth 100000 in
theorem s_L_law_193 {xs : List Int32} {l0 l1 l2 l3 : Option Value} {st : List Value} {h : HH} {i : Nat} (hs : (st.map fun v => v.category).sum ≤ 8) (hcl : sm_cls h i = some 9) (hc : (sm_call xs n_X9_fault [.ref i] h).isSome = true) : sm_run xs n_L_law 193 [l0, l1, l2, l3] (.ref i :: st) h = sm_run xs n_L_law 196 [l0, l1, l2, l3] ((sm_rr (sm_call xs n_X9_fault [.ref i] h)).toList ++ st) (sm_rh (sm_call xs n_X9_fault [.ref i] h)) := sx_vrt (ci := 9) (en := (9, 30, 0, [275, 276, 277, 44, 278])) (k := mi_X9_fault) (as := [.ref i]) (rest := st) hm_L_law rfl vk_13_23 rfl hm_X9_fault (by decide) ⟨by show 0 ≤ _; simp only [List.length_cons]; omega, rfl, rfl⟩ hs hcl hc
set_option maxRecDepth 100000 in
theorem s_L_law_196 {xs : List Int32} {l0 l1 l3 : Option Value} {st : List Value} {h : HH} {x : Nat} : sm_run xs n_L_law 196 [l0, l1, some (.ref x), l3] st h = sm_run xs n_L_law 197 [l0, l1, some (.ref x), l3] (.ref x :: st) h := sx_pur (.aload_n 2) hm_L_law rfl rfl rfl rfl
set_option maxRecDepth 100000 in
theorem s_L_law_197 {xs : List Int32} {l0 l1 l2 l3 : Option Value} {st : List Value} {h : HH} {i : Nat} (hs : (st.map fun v => v.category).sum ≤ 8) (hcl : sm_cls h i = some 10) (hc : (sm_call xs n_X10_fault [.ref i] h).isSome = true) : sm_run xs n_L_law 197 [l0, l1, l2, l3] (.ref i :: st) h = sm_run xs n_L_law 200 [l0, l1, l2, l3] ((sm_rr (sm_call xs n_X10_fault [.ref i] h)).toList ++ st) (sm_rh (sm_call xs n_X10_fault [.ref i] h)) := sx_vrt (ci := 10) (en := (10, 44, 0, [787, 788, 789, 55, 790])) (k := mi_X10_fault) (as := [.ref i]) (rest := st) hm_L_law rfl vk_13_26 rfl hm_X10_fault (by decide) ⟨by show 0 ≤ _; simp only [List.length_cons]; omega, rfl, rfl⟩ hs hcl hc
set_option maxRecDepth 100000 in
theorem s_L_law_200 {xs : List Int32} {l0 l1 l2 l3 : Option Value} {st : List Value} {h : HH} {x y : Int32} : sm_run xs n_L_law 200 [l0, l1, l2, l3] (.int y :: .int x :: st) h = if x = y then sm_run xs n_L_law 908 [l0, l1, l2, l3] st h else sm_run xs n_L_law 203 [l0, l1, l2, l3] st h := sx_icmp hm_L_law rfl rfl rfl
set_option maxRecDepth 100000 in
theorem s_L_law_203 {xs : List Int32} {l0 l1 l2 l3 : Option Value} {st : List Value} {h : HH} : sm_run xs n_L_law 203 [l0, l1, l2, l3] st h = sm_run xs n_L_law 204 [l0, l1, l2, l3] (.int 0 :: st) h := sx_pur (.iconst 0) hm_L_law rfl rfl rfl rfl
set_option maxRecDepth 100000 in
theorem s_L_law_204z0 {xs : List Int32} {l0 l1 l2 l3 : Option Value} {h : HH} : sm_run xs n_L_law 204 [l0, l1, l2, l3] [.int 0] h = some (some (.int 0), h) := sm_return hm_L_law rfl rfl
set_option maxRecDepth 100000 in
theorem s_L_law_204z1 {xs : List Int32} {l0 l1 l2 l3 : Option Value} {h : HH} : sm_run xs n_L_law 204 [l0, l1, l2, l3] [.int 1] h = some (some (.int 1), h) := sm_return hm_L_law rfl rfl
set_option maxRecDepth 100000 in
theorem s_L_law_205 {xs : List Int32} {l0 l2 l3 : Option Value} {st : List Value} {h : HH} {x : Nat} : sm_run xs n_L_law 205 [l0, some (.ref x), l2, l3] st h = sm_run xs n_L_law 206 [l0, some (.ref x), l2, l3] (.ref x :: st) h := sx_pur (.aload_n 1) hm_L_law rfl rfl rfl rfl
set_option maxRecDepth 100000 in
theorem s_L_law_206 {xs : List Int32} {l0 l1 l2 l3 : Option Value} {st : List Value} {h : HH} {i : Nat} (hs : (st.map fun v => v.category).sum ≤ 8) (hcl : sm_cls h i = some 9) (hc : (sm_call xs n_X9_patch [.ref i] h).isSome = true) : sm_run xs n_L_law 206 [l0, l1, l2, l3] (.ref i :: st) h = sm_run xs n_L_law 209 [l0, l1, l2, l3] ((sm_rr (sm_call xs n_X9_patch [.ref i] h)).toList ++ st) (sm_rh (sm_call xs n_X9_patch [.ref i] h)) := sx_vrt (ci := 9) (en := (9, 58, 0, [380, 381, 382, 44, 383])) (k := mi_X9_patch) (as := [.ref i]) (rest := st) hm_L_law rfl vk_13_27 rfl hm_X9_patch (by decide) ⟨by show 0 ≤ _; simp only [List.length_cons]; omega, rfl, rfl⟩ hs hcl hc
set_option maxRecDepth 100000 in
theorem s_L_law_209 {xs : List Int32} {l0 l1 l3 : Option Value} {st : List Value} {h : HH} {x : Nat} : sm_run xs n_L_law 209 [l0, l1, some (.ref x), l3] st h = sm_run xs n_L_law 210 [l0, l1, some (.ref x), l3] (.ref x :: st) h := sx_pur (.aload_n 2) hm_L_law rfl rfl rfl rfl
set_option maxRecDepth 100000 in
theorem s_L_law_210 {xs : List Int32} {l0 l1 l2 l3 : Option Value} {st : List Value} {h : HH} {i : Nat} (hs : (st.map fun v => v.category).sum ≤ 8) (hcl : sm_cls h i = some 10) (hc : (sm_call xs n_X10_patch [.ref i] h).isSome = true) : sm_run xs n_L_law 210 [l0, l1, l2, l3] (.ref i :: st) h = sm_run xs n_L_law 213 [l0, l1, l2, l3] ((sm_rr (sm_call xs n_X10_patch [.ref i] h)).toList ++ st) (sm_rh (sm_call xs n_X10_patch [.ref i] h)) := sx_vrt (ci := 10) (en := (10, 59, 0, [843, 844, 845, 55, 846])) (k := mi_X10_patch) (as := [.ref i]) (rest := st) hm_L_law rfl vk_13_30 rfl hm_X10_patch (by decide) ⟨by show 0 ≤ _; simp only [List.length_cons]; omega, rfl, rfl⟩ hs hcl hc
set_option maxRecDepth 100000 in
theorem s_L_law_213 {xs : List Int32} {l0 l1 l2 l3 : Option Value} {st : List Value} {h : HH} {x y : Int32} : sm_run xs n_L_law 213 [l0, l1, l2, l3] (.int y :: .int x :: st) h = if x = y then sm_run xs n_L_law 908 [l0, l1, l2, l3] st h else sm_run xs n_L_law 216 [l0, l1, l2, l3] st h := sx_icmp hm_L_law rfl rfl rfl
set_option maxRecDepth 100000 in
theorem s_L_law_216 {xs : List Int32} {l0 l1 l2 l3 : Option Value} {st : List Value} {h : HH} : sm_run xs n_L_law 216 [l0, l1, l2, l3] st h = sm_run xs n_L_law 217 [l0, l1, l2, l3] (.int 0 :: st) h := sx_pur (.iconst 0) hm_L_law rfl rfl rfl rfl
set_option maxRecDepth 100000 in
theorem s_L_law_217z0 {xs : List Int32} {l0 l1 l2 l3 : Option Value} {h : HH} : sm_run xs n_L_law 217 [l0, l1, l2, l3] [.int 0] h = some (some (.int 0), h) := sm_return hm_L_law rfl rfl
set_option maxRecDepth 100000 in
theorem s_L_law_217z1 {xs : List Int32} {l0 l1 l2 l3 : Option Value} {h : HH} : sm_run xs n_L_law 217 [l0, l1, l2, l3] [.int 1] h = some (some (.int 1), h) := sm_return hm_L_law rfl rfl
set_option maxRecDepth 100000 in
theorem s_L_law_218 {xs : List Int32} {l0 l2 l3 : Option Value} {st : List Value} {h : HH} {x : Nat} : sm_run xs n_L_law 218 [l0, some (.ref x), l2, l3] st h = sm_run xs n_L_law 219 [l0, some (.ref x), l2, l3] (.ref x :: st) h := sx_pur (.aload_n 1) hm_L_law rfl rfl rfl rfl
set_option maxRecDepth 100000 in
theorem s_L_law_219 {xs : List Int32} {l1 l2 l3 : Option Value} {st : List Value} {h : HH} {x : Nat} : sm_run xs n_L_law 219 [some (.ref x), l1, l2, l3] st h = sm_run xs n_L_law 220 [some (.ref x), l1, l2, l3] (.ref x :: st) h := sx_pur (.aload_n 0) hm_L_law rfl rfl rfl rfl
set_option maxRecDepth 100000 in
theorem s_L_law_220 {xs : List Int32} {l0 l1 l2 : Option Value} {st : List Value} {h : HH} {x : Int32} : sm_run xs n_L_law 220 [l0, l1, l2, some (.int x)] st h = sm_run xs n_L_law 221 [l0, l1, l2, some (.int x)] (.int x :: st) h := sx_pur (.iload_n 3) hm_L_law rfl rfl rfl rfl
set_option maxRecDepth 100000 in
theorem s_L_law_221 {xs : List Int32} {l0 l1 l2 l3 : Option Value} {st : List Value} {h : HH} : sm_run xs n_L_law 221 [l0, l1, l2, l3] st h = sm_run xs n_L_law 222 [l0, l1, l2, l3] (.int 1 :: st) h := sx_pur (.iconst 1) hm_L_law rfl rfl rfl rfl
set_option maxRecDepth 100000 in
theorem s_L_law_222 {xs : List Int32} {l0 l1 l2 l3 : Option Value} {st : List Value} {h : HH} {x y : Int32} : sm_run xs n_L_law 222 [l0, l1, l2, l3] (.int y :: .int x :: st) h = sm_run xs n_L_law 223 [l0, l1, l2, l3] (.int (x + y) :: st) h := sx_pur (.iadd) hm_L_law rfl rfl rfl rfl
set_option maxRecDepth 100000 in
theorem s_L_law_223 {xs : List Int32} {l0 l1 l2 l3 : Option Value} {st : List Value} {h : HH} {j : Int32} (hh : h[sm_B + 9]? = none) (hin : sm_inr (some xs) j = true) : sm_run xs n_L_law 223 [l0, l1, l2, l3] (.int j :: .ref (sm_B + 9) :: st) h = sm_run xs n_L_law 224 [l0, l1, l2, l3] (.int (sm_el (some xs) j) :: st) h := sx_sald hm_L_law rfl hh hin
set_option maxRecDepth 100000 in
theorem s_L_law_224 {xs : List Int32} {l1 l2 l3 : Option Value} {st : List Value} {h : HH} {x : Nat} : sm_run xs n_L_law 224 [some (.ref x), l1, l2, l3] st h = sm_run xs n_L_law 225 [some (.ref x), l1, l2, l3] (.ref x :: st) h := sx_pur (.aload_n 0) hm_L_law rfl rfl rfl rfl
set_option maxRecDepth 100000 in
theorem s_L_law_225 {xs : List Int32} {l0 l1 l2 : Option Value} {st : List Value} {h : HH} {x : Int32} : sm_run xs n_L_law 225 [l0, l1, l2, some (.int x)] st h = sm_run xs n_L_law 226 [l0, l1, l2, some (.int x)] (.int x :: st) h := sx_pur (.iload_n 3) hm_L_law rfl rfl rfl rfl
set_option maxRecDepth 100000 in
theorem s_L_law_226 {xs : List Int32} {l0 l1 l2 l3 : Option Value} {st : List Value} {h : HH} : sm_run xs n_L_law 226 [l0, l1, l2, l3] st h = sm_run xs n_L_law 227 [l0, l1, l2, l3] (.int 2 :: st) h := sx_pur (.iconst 2) hm_L_law rfl rfl rfl rfl
set_option maxRecDepth 100000 in
theorem s_L_law_227 {xs : List Int32} {l0 l1 l2 l3 : Option Value} {st : List Value} {h : HH} {x y : Int32} : sm_run xs n_L_law 227 [l0, l1, l2, l3] (.int y :: .int x :: st) h = sm_run xs n_L_law 228 [l0, l1, l2, l3] (.int (x + y) :: st) h := sx_pur (.iadd) hm_L_law rfl rfl rfl rfl
set_option maxRecDepth 100000 in
theorem s_L_law_228 {xs : List Int32} {l0 l1 l2 l3 : Option Value} {st : List Value} {h : HH} {j : Int32} (hh : h[sm_B + 9]? = none) (hin : sm_inr (some xs) j = true) : sm_run xs n_L_law 228 [l0, l1, l2, l3] (.int j :: .ref (sm_B + 9) :: st) h = sm_run xs n_L_law 229 [l0, l1, l2, l3] (.int (sm_el (some xs) j) :: st) h := sx_sald hm_L_law rfl hh hin
set_option maxRecDepth 100000 in
theorem s_L_law_229 {xs : List Int32} {l0 l1 l2 l3 : Option Value} {st : List Value} {h : HH} {i : Nat} {b0 : Int32} {b1 : Int32} (hs : (st.map fun v => v.category).sum ≤ 8) (hcl : sm_cls h i = some 9) (hc : (sm_call xs n_X9_cell [.ref i, .int b0, .int b1] h).isSome = true) : sm_run xs n_L_law 229 [l0, l1, l2, l3] (.int b1 :: .int b0 :: .ref i :: st) h = sm_run xs n_L_law 232 [l0, l1, l2, l3] ((sm_rr (sm_call xs n_X9_cell [.ref i, .int b0, .int b1] h)).toList ++ st) (sm_rh (sm_call xs n_X9_cell [.ref i, .int b0, .int b1] h)) := sx_vrt (ci := 9) (en := (9, 60, 0, [439, 440, 441, 44, 442])) (k := mi_X9_cell) (as := [.ref i, .int b0, .int b1]) (rest := st) hm_L_law rfl vk_13_31 rfl hm_X9_cell (by decide) ⟨by show 2 ≤ _; simp only [List.length_cons]; omega, rfl, rfl⟩ hs hcl hc
set_option maxRecDepth 100000 in
theorem s_L_law_232 {xs : List Int32} {l0 l1 l3 : Option Value} {st : List Value} {h : HH} {x : Nat} : sm_run xs n_L_law 232 [l0, l1, some (.ref x), l3] st h = sm_run xs n_L_law 233 [l0, l1, some (.ref x), l3] (.ref x :: st) h := sx_pur (.aload_n 2) hm_L_law rfl rfl rfl rfl
set_option maxRecDepth 100000 in
theorem s_L_law_233 {xs : List Int32} {l1 l2 l3 : Option Value} {st : List Value} {h : HH} {x : Nat} : sm_run xs n_L_law 233 [some (.ref x), l1, l2, l3] st h = sm_run xs n_L_law 234 [some (.ref x), l1, l2, l3] (.ref x :: st) h := sx_pur (.aload_n 0) hm_L_law rfl rfl rfl rfl
set_option maxRecDepth 100000 in
theorem s_L_law_234 {xs : List Int32} {l0 l1 l2 : Option Value} {st : List Value} {h : HH} {x : Int32} : sm_run xs n_L_law 234 [l0, l1, l2, some (.int x)] st h = sm_run xs n_L_law 235 [l0, l1, l2, some (.int x)] (.int x :: st) h := sx_pur (.iload_n 3) hm_L_law rfl rfl rfl rfl
set_option maxRecDepth 100000 in
theorem s_L_law_235 {xs : List Int32} {l0 l1 l2 l3 : Option Value} {st : List Value} {h : HH} : sm_run xs n_L_law 235 [l0, l1, l2, l3] st h = sm_run xs n_L_law 236 [l0, l1, l2, l3] (.int 1 :: st) h := sx_pur (.iconst 1) hm_L_law rfl rfl rfl rfl
set_option maxRecDepth 100000 in
theorem s_L_law_236 {xs : List Int32} {l0 l1 l2 l3 : Option Value} {st : List Value} {h : HH} {x y : Int32} : sm_run xs n_L_law 236 [l0, l1, l2, l3] (.int y :: .int x :: st) h = sm_run xs n_L_law 237 [l0, l1, l2, l3] (.int (x + y) :: st) h := sx_pur (.iadd) hm_L_law rfl rfl rfl rfl
set_option maxRecDepth 100000 in
theorem s_L_law_237 {xs : List Int32} {l0 l1 l2 l3 : Option Value} {st : List Value} {h : HH} {j : Int32} (hh : h[sm_B + 9]? = none) (hin : sm_inr (some xs) j = true) : sm_run xs n_L_law 237 [l0, l1, l2, l3] (.int j :: .ref (sm_B + 9) :: st) h = sm_run xs n_L_law 238 [l0, l1, l2, l3] (.int (sm_el (some xs) j) :: st) h := sx_sald hm_L_law rfl hh hin
set_option maxRecDepth 100000 in
theorem s_L_law_238 {xs : List Int32} {l1 l2 l3 : Option Value} {st : List Value} {h : HH} {x : Nat} : sm_run xs n_L_law 238 [some (.ref x), l1, l2, l3] st h = sm_run xs n_L_law 239 [some (.ref x), l1, l2, l3] (.ref x :: st) h := sx_pur (.aload_n 0) hm_L_law rfl rfl rfl rfl
set_option maxRecDepth 100000 in
theorem s_L_law_239 {xs : List Int32} {l0 l1 l2 : Option Value} {st : List Value} {h : HH} {x : Int32} : sm_run xs n_L_law 239 [l0, l1, l2, some (.int x)] st h = sm_run xs n_L_law 240 [l0, l1, l2, some (.int x)] (.int x :: st) h := sx_pur (.iload_n 3) hm_L_law rfl rfl rfl rfl
set_option maxRecDepth 100000 in
theorem s_L_law_240 {xs : List Int32} {l0 l1 l2 l3 : Option Value} {st : List Value} {h : HH} : sm_run xs n_L_law 240 [l0, l1, l2, l3] st h = sm_run xs n_L_law 241 [l0, l1, l2, l3] (.int 2 :: st) h := sx_pur (.iconst 2) hm_L_law rfl rfl rfl rfl
set_option maxRecDepth 100000 in
theorem s_L_law_241 {xs : List Int32} {l0 l1 l2 l3 : Option Value} {st : List Value} {h : HH} {x y : Int32} : sm_run xs n_L_law 241 [l0, l1, l2, l3] (.int y :: .int x :: st) h = sm_run xs n_L_law 242 [l0, l1, l2, l3] (.int (x + y) :: st) h := sx_pur (.iadd) hm_L_law rfl rfl rfl rfl
set_option maxRecDepth 100000 in
theorem s_L_law_242 {xs : List Int32} {l0 l1 l2 l3 : Option Value} {st : List Value} {h : HH} {j : Int32} (hh : h[sm_B + 9]? = none) (hin : sm_inr (some xs) j = true) : sm_run xs n_L_law 242 [l0, l1, l2, l3] (.int j :: .ref (sm_B + 9) :: st) h = sm_run xs n_L_law 243 [l0, l1, l2, l3] (.int (sm_el (some xs) j) :: st) h := sx_sald hm_L_law rfl hh hin
set_option maxRecDepth 100000 in
theorem s_L_law_243 {xs : List Int32} {l0 l1 l2 l3 : Option Value} {st : List Value} {h : HH} {i : Nat} {b0 : Int32} {b1 : Int32} (hs : (st.map fun v => v.category).sum ≤ 8) (hcl : sm_cls h i = some 10) (hc : (sm_call xs n_X10_cell [.ref i, .int b0, .int b1] h).isSome = true) : sm_run xs n_L_law 243 [l0, l1, l2, l3] (.int b1 :: .int b0 :: .ref i :: st) h = sm_run xs n_L_law 246 [l0, l1, l2, l3] ((sm_rr (sm_call xs n_X10_cell [.ref i, .int b0, .int b1] h)).toList ++ st) (sm_rh (sm_call xs n_X10_cell [.ref i, .int b0, .int b1] h)) := sx_vrt (ci := 10) (en := (10, 63, 0, [847, 848, 849, 55, 850])) (k := mi_X10_cell) (as := [.ref i, .int b0, .int b1]) (rest := st) hm_L_law rfl vk_13_35 rfl hm_X10_cell (by decide) ⟨by show 2 ≤ _; simp only [List.length_cons]; omega, rfl, rfl⟩ hs hcl hc
set_option maxRecDepth 100000 in
theorem s_L_law_246 {xs : List Int32} {l0 l1 l2 l3 : Option Value} {st : List Value} {h : HH} {x y : Int32} : sm_run xs n_L_law 246 [l0, l1, l2, l3] (.int y :: .int x :: st) h = if x = y then sm_run xs n_L_law 908 [l0, l1, l2, l3] st h else sm_run xs n_L_law 249 [l0, l1, l2, l3] st h := sx_icmp hm_L_law rfl rfl rfl
set_option maxRecDepth 100000 in
theorem s_L_law_249 {xs : List Int32} {l0 l1 l2 l3 : Option Value} {st : List Value} {h : HH} : sm_run xs n_L_law 249 [l0, l1, l2, l3] st h = sm_run xs n_L_law 250 [l0, l1, l2, l3] (.int 0 :: st) h := sx_pur (.iconst 0) hm_L_law rfl rfl rfl rfl
set_option maxRecDepth 100000 in
theorem s_L_law_250z0 {xs : List Int32} {l0 l1 l2 l3 : Option Value} {h : HH} : sm_run xs n_L_law 250 [l0, l1, l2, l3] [.int 0] h = some (some (.int 0), h) := sm_return hm_L_law rfl rfl
set_option maxRecDepth 100000 in
theorem s_L_law_250z1 {xs : List Int32} {l0 l1 l2 l3 : Option Value} {h : HH} : sm_run xs n_L_law 250 [l0, l1, l2, l3] [.int 1] h = some (some (.int 1), h) := sm_return hm_L_law rfl rfl
set_option maxRecDepth 100000 in
theorem s_L_law_251 {xs : List Int32} {l0 l2 l3 : Option Value} {st : List Value} {h : HH} {x : Nat} : sm_run xs n_L_law 251 [l0, some (.ref x), l2, l3] st h = sm_run xs n_L_law 252 [l0, some (.ref x), l2, l3] (.ref x :: st) h := sx_pur (.aload_n 1) hm_L_law rfl rfl rfl rfl
set_option maxRecDepth 100000 in
theorem s_L_law_252 {xs : List Int32} {l1 l2 l3 : Option Value} {st : List Value} {h : HH} {x : Nat} : sm_run xs n_L_law 252 [some (.ref x), l1, l2, l3] st h = sm_run xs n_L_law 253 [some (.ref x), l1, l2, l3] (.ref x :: st) h := sx_pur (.aload_n 0) hm_L_law rfl rfl rfl rfl
set_option maxRecDepth 100000 in
theorem s_L_law_253 {xs : List Int32} {l0 l1 l2 : Option Value} {st : List Value} {h : HH} {x : Int32} : sm_run xs n_L_law 253 [l0, l1, l2, some (.int x)] st h = sm_run xs n_L_law 254 [l0, l1, l2, some (.int x)] (.int x :: st) h := sx_pur (.iload_n 3) hm_L_law rfl rfl rfl rfl
set_option maxRecDepth 100000 in
theorem s_L_law_254 {xs : List Int32} {l0 l1 l2 l3 : Option Value} {st : List Value} {h : HH} : sm_run xs n_L_law 254 [l0, l1, l2, l3] st h = sm_run xs n_L_law 255 [l0, l1, l2, l3] (.int 1 :: st) h := sx_pur (.iconst 1) hm_L_law rfl rfl rfl rfl
set_option maxRecDepth 100000 in
theorem s_L_law_255 {xs : List Int32} {l0 l1 l2 l3 : Option Value} {st : List Value} {h : HH} {x y : Int32} : sm_run xs n_L_law 255 [l0, l1, l2, l3] (.int y :: .int x :: st) h = sm_run xs n_L_law 256 [l0, l1, l2, l3] (.int (x + y) :: st) h := sx_pur (.iadd) hm_L_law rfl rfl rfl rfl
set_option maxRecDepth 100000 in
theorem s_L_law_256 {xs : List Int32} {l0 l1 l2 l3 : Option Value} {st : List Value} {h : HH} {j : Int32} (hh : h[sm_B + 9]? = none) (hin : sm_inr (some xs) j = true) : sm_run xs n_L_law 256 [l0, l1, l2, l3] (.int j :: .ref (sm_B + 9) :: st) h = sm_run xs n_L_law 257 [l0, l1, l2, l3] (.int (sm_el (some xs) j) :: st) h := sx_sald hm_L_law rfl hh hin
set_option maxRecDepth 100000 in
theorem s_L_law_257 {xs : List Int32} {l1 l2 l3 : Option Value} {st : List Value} {h : HH} {x : Nat} : sm_run xs n_L_law 257 [some (.ref x), l1, l2, l3] st h = sm_run xs n_L_law 258 [some (.ref x), l1, l2, l3] (.ref x :: st) h := sx_pur (.aload_n 0) hm_L_law rfl rfl rfl rfl
set_option maxRecDepth 100000 in
theorem s_L_law_258 {xs : List Int32} {l0 l1 l2 : Option Value} {st : List Value} {h : HH} {x : Int32} : sm_run xs n_L_law 258 [l0, l1, l2, some (.int x)] st h = sm_run xs n_L_law 259 [l0, l1, l2, some (.int x)] (.int x :: st) h := sx_pur (.iload_n 3) hm_L_law rfl rfl rfl rfl
set_option maxRecDepth 100000 in
theorem s_L_law_259 {xs : List Int32} {l0 l1 l2 l3 : Option Value} {st : List Value} {h : HH} : sm_run xs n_L_law 259 [l0, l1, l2, l3] st h = sm_run xs n_L_law 260 [l0, l1, l2, l3] (.int 2 :: st) h := sx_pur (.iconst 2) hm_L_law rfl rfl rfl rfl
set_option maxRecDepth 100000 in
theorem s_L_law_260 {xs : List Int32} {l0 l1 l2 l3 : Option Value} {st : List Value} {h : HH} {x y : Int32} : sm_run xs n_L_law 260 [l0, l1, l2, l3] (.int y :: .int x :: st) h = sm_run xs n_L_law 261 [l0, l1, l2, l3] (.int (x + y) :: st) h := sx_pur (.iadd) hm_L_law rfl rfl rfl rfl
set_option maxRecDepth 100000 in
theorem s_L_law_261 {xs : List Int32} {l0 l1 l2 l3 : Option Value} {st : List Value} {h : HH} {j : Int32} (hh : h[sm_B + 9]? = none) (hin : sm_inr (some xs) j = true) : sm_run xs n_L_law 261 [l0, l1, l2, l3] (.int j :: .ref (sm_B + 9) :: st) h = sm_run xs n_L_law 262 [l0, l1, l2, l3] (.int (sm_el (some xs) j) :: st) h := sx_sald hm_L_law rfl hh hin
set_option maxRecDepth 100000 in
theorem s_L_law_262 {xs : List Int32} {l0 l1 l2 l3 : Option Value} {st : List Value} {h : HH} {i : Nat} {b0 : Int32} {b1 : Int32} (hs : (st.map fun v => v.category).sum ≤ 8) (hcl : sm_cls h i = some 9) (hc : (sm_call xs n_X9_player [.ref i, .int b0, .int b1] h).isSome = true) : sm_run xs n_L_law 262 [l0, l1, l2, l3] (.int b1 :: .int b0 :: .ref i :: st) h = sm_run xs n_L_law 265 [l0, l1, l2, l3] ((sm_rr (sm_call xs n_X9_player [.ref i, .int b0, .int b1] h)).toList ++ st) (sm_rh (sm_call xs n_X9_player [.ref i, .int b0, .int b1] h)) := sx_vrt (ci := 9) (en := (9, 67, 0, [444, 445, 446, 44, 447])) (k := mi_X9_player) (as := [.ref i, .int b0, .int b1]) (rest := st) hm_L_law rfl vk_13_36 rfl hm_X9_player (by decide) ⟨by show 2 ≤ _; simp only [List.length_cons]; omega, rfl, rfl⟩ hs hcl hc
set_option maxRecDepth 100000 in
theorem s_L_law_265 {xs : List Int32} {l0 l1 l3 : Option Value} {st : List Value} {h : HH} {x : Nat} : sm_run xs n_L_law 265 [l0, l1, some (.ref x), l3] st h = sm_run xs n_L_law 266 [l0, l1, some (.ref x), l3] (.ref x :: st) h := sx_pur (.aload_n 2) hm_L_law rfl rfl rfl rfl
set_option maxRecDepth 100000 in
theorem s_L_law_266 {xs : List Int32} {l1 l2 l3 : Option Value} {st : List Value} {h : HH} {x : Nat} : sm_run xs n_L_law 266 [some (.ref x), l1, l2, l3] st h = sm_run xs n_L_law 267 [some (.ref x), l1, l2, l3] (.ref x :: st) h := sx_pur (.aload_n 0) hm_L_law rfl rfl rfl rfl
set_option maxRecDepth 100000 in
theorem s_L_law_267 {xs : List Int32} {l0 l1 l2 : Option Value} {st : List Value} {h : HH} {x : Int32} : sm_run xs n_L_law 267 [l0, l1, l2, some (.int x)] st h = sm_run xs n_L_law 268 [l0, l1, l2, some (.int x)] (.int x :: st) h := sx_pur (.iload_n 3) hm_L_law rfl rfl rfl rfl
set_option maxRecDepth 100000 in
theorem s_L_law_268 {xs : List Int32} {l0 l1 l2 l3 : Option Value} {st : List Value} {h : HH} : sm_run xs n_L_law 268 [l0, l1, l2, l3] st h = sm_run xs n_L_law 269 [l0, l1, l2, l3] (.int 1 :: st) h := sx_pur (.iconst 1) hm_L_law rfl rfl rfl rfl
set_option maxRecDepth 100000 in
theorem s_L_law_269 {xs : List Int32} {l0 l1 l2 l3 : Option Value} {st : List Value} {h : HH} {x y : Int32} : sm_run xs n_L_law 269 [l0, l1, l2, l3] (.int y :: .int x :: st) h = sm_run xs n_L_law 270 [l0, l1, l2, l3] (.int (x + y) :: st) h := sx_pur (.iadd) hm_L_law rfl rfl rfl rfl
set_option maxRecDepth 100000 in
theorem s_L_law_270 {xs : List Int32} {l0 l1 l2 l3 : Option Value} {st : List Value} {h : HH} {j : Int32} (hh : h[sm_B + 9]? = none) (hin : sm_inr (some xs) j = true) : sm_run xs n_L_law 270 [l0, l1, l2, l3] (.int j :: .ref (sm_B + 9) :: st) h = sm_run xs n_L_law 271 [l0, l1, l2, l3] (.int (sm_el (some xs) j) :: st) h := sx_sald hm_L_law rfl hh hin
set_option maxRecDepth 100000 in
theorem s_L_law_271 {xs : List Int32} {l1 l2 l3 : Option Value} {st : List Value} {h : HH} {x : Nat} : sm_run xs n_L_law 271 [some (.ref x), l1, l2, l3] st h = sm_run xs n_L_law 272 [some (.ref x), l1, l2, l3] (.ref x :: st) h := sx_pur (.aload_n 0) hm_L_law rfl rfl rfl rfl
set_option maxRecDepth 100000 in
theorem s_L_law_272 {xs : List Int32} {l0 l1 l2 : Option Value} {st : List Value} {h : HH} {x : Int32} : sm_run xs n_L_law 272 [l0, l1, l2, some (.int x)] st h = sm_run xs n_L_law 273 [l0, l1, l2, some (.int x)] (.int x :: st) h := sx_pur (.iload_n 3) hm_L_law rfl rfl rfl rfl
set_option maxRecDepth 100000 in
theorem s_L_law_273 {xs : List Int32} {l0 l1 l2 l3 : Option Value} {st : List Value} {h : HH} : sm_run xs n_L_law 273 [l0, l1, l2, l3] st h = sm_run xs n_L_law 274 [l0, l1, l2, l3] (.int 2 :: st) h := sx_pur (.iconst 2) hm_L_law rfl rfl rfl rfl
set_option maxRecDepth 100000 in
theorem s_L_law_274 {xs : List Int32} {l0 l1 l2 l3 : Option Value} {st : List Value} {h : HH} {x y : Int32} : sm_run xs n_L_law 274 [l0, l1, l2, l3] (.int y :: .int x :: st) h = sm_run xs n_L_law 275 [l0, l1, l2, l3] (.int (x + y) :: st) h := sx_pur (.iadd) hm_L_law rfl rfl rfl rfl
set_option maxRecDepth 100000 in
theorem s_L_law_275 {xs : List Int32} {l0 l1 l2 l3 : Option Value} {st : List Value} {h : HH} {j : Int32} (hh : h[sm_B + 9]? = none) (hin : sm_inr (some xs) j = true) : sm_run xs n_L_law 275 [l0, l1, l2, l3] (.int j :: .ref (sm_B + 9) :: st) h = sm_run xs n_L_law 276 [l0, l1, l2, l3] (.int (sm_el (some xs) j) :: st) h := sx_sald hm_L_law rfl hh hin
set_option maxRecDepth 100000 in
theorem s_L_law_276 {xs : List Int32} {l0 l1 l2 l3 : Option Value} {st : List Value} {h : HH} {i : Nat} {b0 : Int32} {b1 : Int32} (hs : (st.map fun v => v.category).sum ≤ 8) (hcl : sm_cls h i = some 10) (hc : (sm_call xs n_X10_player [.ref i, .int b0, .int b1] h).isSome = true) : sm_run xs n_L_law 276 [l0, l1, l2, l3] (.int b1 :: .int b0 :: .ref i :: st) h = sm_run xs n_L_law 279 [l0, l1, l2, l3] ((sm_rr (sm_call xs n_X10_player [.ref i, .int b0, .int b1] h)).toList ++ st) (sm_rh (sm_call xs n_X10_player [.ref i, .int b0, .int b1] h)) := sx_vrt (ci := 10) (en := (10, 73, 0, [859, 860, 861, 55, 862])) (k := mi_X10_player) (as := [.ref i, .int b0, .int b1]) (rest := st) hm_L_law rfl vk_13_39 rfl hm_X10_player (by decide) ⟨by show 2 ≤ _; simp only [List.length_cons]; omega, rfl, rfl⟩ hs hcl hc
set_option maxRecDepth 100000 in
theorem s_L_law_279 {xs : List Int32} {l0 l1 l2 l3 : Option Value} {st : List Value} {h : HH} {x y : Int32} : sm_run xs n_L_law 279 [l0, l1, l2, l3] (.int y :: .int x :: st) h = if x = y then sm_run xs n_L_law 908 [l0, l1, l2, l3] st h else sm_run xs n_L_law 282 [l0, l1, l2, l3] st h := sx_icmp hm_L_law rfl rfl rfl
set_option maxRecDepth 100000 in
theorem s_L_law_282 {xs : List Int32} {l0 l1 l2 l3 : Option Value} {st : List Value} {h : HH} : sm_run xs n_L_law 282 [l0, l1, l2, l3] st h = sm_run xs n_L_law 283 [l0, l1, l2, l3] (.int 0 :: st) h := sx_pur (.iconst 0) hm_L_law rfl rfl rfl rfl
set_option maxRecDepth 100000 in
theorem s_L_law_283z0 {xs : List Int32} {l0 l1 l2 l3 : Option Value} {h : HH} : sm_run xs n_L_law 283 [l0, l1, l2, l3] [.int 0] h = some (some (.int 0), h) := sm_return hm_L_law rfl rfl
set_option maxRecDepth 100000 in
theorem s_L_law_283z1 {xs : List Int32} {l0 l1 l2 l3 : Option Value} {h : HH} : sm_run xs n_L_law 283 [l0, l1, l2, l3] [.int 1] h = some (some (.int 1), h) := sm_return hm_L_law rfl rfl
set_option maxRecDepth 100000 in
theorem s_L_law_284 {xs : List Int32} {l0 l2 l3 : Option Value} {st : List Value} {h : HH} {x : Nat} : sm_run xs n_L_law 284 [l0, some (.ref x), l2, l3] st h = sm_run xs n_L_law 285 [l0, some (.ref x), l2, l3] (.ref x :: st) h := sx_pur (.aload_n 1) hm_L_law rfl rfl rfl rfl
set_option maxRecDepth 100000 in
theorem s_L_law_285 {xs : List Int32} {l1 l2 l3 : Option Value} {st : List Value} {h : HH} {x : Nat} : sm_run xs n_L_law 285 [some (.ref x), l1, l2, l3] st h = sm_run xs n_L_law 286 [some (.ref x), l1, l2, l3] (.ref x :: st) h := sx_pur (.aload_n 0) hm_L_law rfl rfl rfl rfl
set_option maxRecDepth 100000 in
theorem s_L_law_286 {xs : List Int32} {l0 l1 l2 : Option Value} {st : List Value} {h : HH} {x : Int32} : sm_run xs n_L_law 286 [l0, l1, l2, some (.int x)] st h = sm_run xs n_L_law 287 [l0, l1, l2, some (.int x)] (.int x :: st) h := sx_pur (.iload_n 3) hm_L_law rfl rfl rfl rfl
set_option maxRecDepth 100000 in
theorem s_L_law_287 {xs : List Int32} {l0 l1 l2 l3 : Option Value} {st : List Value} {h : HH} : sm_run xs n_L_law 287 [l0, l1, l2, l3] st h = sm_run xs n_L_law 288 [l0, l1, l2, l3] (.int 1 :: st) h := sx_pur (.iconst 1) hm_L_law rfl rfl rfl rfl
set_option maxRecDepth 100000 in
theorem s_L_law_288 {xs : List Int32} {l0 l1 l2 l3 : Option Value} {st : List Value} {h : HH} {x y : Int32} : sm_run xs n_L_law 288 [l0, l1, l2, l3] (.int y :: .int x :: st) h = sm_run xs n_L_law 289 [l0, l1, l2, l3] (.int (x + y) :: st) h := sx_pur (.iadd) hm_L_law rfl rfl rfl rfl
set_option maxRecDepth 100000 in
theorem s_L_law_289 {xs : List Int32} {l0 l1 l2 l3 : Option Value} {st : List Value} {h : HH} {j : Int32} (hh : h[sm_B + 9]? = none) (hin : sm_inr (some xs) j = true) : sm_run xs n_L_law 289 [l0, l1, l2, l3] (.int j :: .ref (sm_B + 9) :: st) h = sm_run xs n_L_law 290 [l0, l1, l2, l3] (.int (sm_el (some xs) j) :: st) h := sx_sald hm_L_law rfl hh hin
set_option maxRecDepth 100000 in
theorem s_L_law_290 {xs : List Int32} {l1 l2 l3 : Option Value} {st : List Value} {h : HH} {x : Nat} : sm_run xs n_L_law 290 [some (.ref x), l1, l2, l3] st h = sm_run xs n_L_law 291 [some (.ref x), l1, l2, l3] (.ref x :: st) h := sx_pur (.aload_n 0) hm_L_law rfl rfl rfl rfl
set_option maxRecDepth 100000 in
theorem s_L_law_291 {xs : List Int32} {l0 l1 l2 : Option Value} {st : List Value} {h : HH} {x : Int32} : sm_run xs n_L_law 291 [l0, l1, l2, some (.int x)] st h = sm_run xs n_L_law 292 [l0, l1, l2, some (.int x)] (.int x :: st) h := sx_pur (.iload_n 3) hm_L_law rfl rfl rfl rfl
set_option maxRecDepth 100000 in
theorem s_L_law_292 {xs : List Int32} {l0 l1 l2 l3 : Option Value} {st : List Value} {h : HH} : sm_run xs n_L_law 292 [l0, l1, l2, l3] st h = sm_run xs n_L_law 293 [l0, l1, l2, l3] (.int 2 :: st) h := sx_pur (.iconst 2) hm_L_law rfl rfl rfl rfl
set_option maxRecDepth 100000 in
theorem s_L_law_293 {xs : List Int32} {l0 l1 l2 l3 : Option Value} {st : List Value} {h : HH} {x y : Int32} : sm_run xs n_L_law 293 [l0, l1, l2, l3] (.int y :: .int x :: st) h = sm_run xs n_L_law 294 [l0, l1, l2, l3] (.int (x + y) :: st) h := sx_pur (.iadd) hm_L_law rfl rfl rfl rfl
set_option maxRecDepth 100000 in
theorem s_L_law_294 {xs : List Int32} {l0 l1 l2 l3 : Option Value} {st : List Value} {h : HH} {j : Int32} (hh : h[sm_B + 9]? = none) (hin : sm_inr (some xs) j = true) : sm_run xs n_L_law 294 [l0, l1, l2, l3] (.int j :: .ref (sm_B + 9) :: st) h = sm_run xs n_L_law 295 [l0, l1, l2, l3] (.int (sm_el (some xs) j) :: st) h := sx_sald hm_L_law rfl hh hin
set_option maxRecDepth 100000 in
theorem s_L_law_295 {xs : List Int32} {l0 l1 l2 l3 : Option Value} {st : List Value} {h : HH} {i : Nat} {b0 : Int32} {b1 : Int32} (hs : (st.map fun v => v.category).sum ≤ 8) (hcl : sm_cls h i = some 9) (hc : (sm_call xs n_X9_debt [.ref i, .int b0, .int b1] h).isSome = true) : sm_run xs n_L_law 295 [l0, l1, l2, l3] (.int b1 :: .int b0 :: .ref i :: st) h = sm_run xs n_L_law 298 [l0, l1, l2, l3] ((sm_rr (sm_call xs n_X9_debt [.ref i, .int b0, .int b1] h)).toList ++ st) (sm_rh (sm_call xs n_X9_debt [.ref i, .int b0, .int b1] h)) := sx_vrt (ci := 9) (en := (9, 74, 0, [461, 462, 463, 44, 464])) (k := mi_X9_debt) (as := [.ref i, .int b0, .int b1]) (rest := st) hm_L_law rfl vk_13_40 rfl hm_X9_debt (by decide) ⟨by show 2 ≤ _; simp only [List.length_cons]; omega, rfl, rfl⟩ hs hcl hc
set_option maxRecDepth 100000 in
theorem s_L_law_298 {xs : List Int32} {l0 l1 l3 : Option Value} {st : List Value} {h : HH} {x : Nat} : sm_run xs n_L_law 298 [l0, l1, some (.ref x), l3] st h = sm_run xs n_L_law 299 [l0, l1, some (.ref x), l3] (.ref x :: st) h := sx_pur (.aload_n 2) hm_L_law rfl rfl rfl rfl
set_option maxRecDepth 100000 in
theorem s_L_law_299 {xs : List Int32} {l1 l2 l3 : Option Value} {st : List Value} {h : HH} {x : Nat} : sm_run xs n_L_law 299 [some (.ref x), l1, l2, l3] st h = sm_run xs n_L_law 300 [some (.ref x), l1, l2, l3] (.ref x :: st) h := sx_pur (.aload_n 0) hm_L_law rfl rfl rfl rfl
set_option maxRecDepth 100000 in
theorem s_L_law_300 {xs : List Int32} {l0 l1 l2 : Option Value} {st : List Value} {h : HH} {x : Int32} : sm_run xs n_L_law 300 [l0, l1, l2, some (.int x)] st h = sm_run xs n_L_law 301 [l0, l1, l2, some (.int x)] (.int x :: st) h := sx_pur (.iload_n 3) hm_L_law rfl rfl rfl rfl
set_option maxRecDepth 100000 in
theorem s_L_law_301 {xs : List Int32} {l0 l1 l2 l3 : Option Value} {st : List Value} {h : HH} : sm_run xs n_L_law 301 [l0, l1, l2, l3] st h = sm_run xs n_L_law 302 [l0, l1, l2, l3] (.int 1 :: st) h := sx_pur (.iconst 1) hm_L_law rfl rfl rfl rfl
set_option maxRecDepth 100000 in
theorem s_L_law_302 {xs : List Int32} {l0 l1 l2 l3 : Option Value} {st : List Value} {h : HH} {x y : Int32} : sm_run xs n_L_law 302 [l0, l1, l2, l3] (.int y :: .int x :: st) h = sm_run xs n_L_law 303 [l0, l1, l2, l3] (.int (x + y) :: st) h := sx_pur (.iadd) hm_L_law rfl rfl rfl rfl
set_option maxRecDepth 100000 in
theorem s_L_law_303 {xs : List Int32} {l0 l1 l2 l3 : Option Value} {st : List Value} {h : HH} {j : Int32} (hh : h[sm_B + 9]? = none) (hin : sm_inr (some xs) j = true) : sm_run xs n_L_law 303 [l0, l1, l2, l3] (.int j :: .ref (sm_B + 9) :: st) h = sm_run xs n_L_law 304 [l0, l1, l2, l3] (.int (sm_el (some xs) j) :: st) h := sx_sald hm_L_law rfl hh hin
set_option maxRecDepth 100000 in
theorem s_L_law_304 {xs : List Int32} {l1 l2 l3 : Option Value} {st : List Value} {h : HH} {x : Nat} : sm_run xs n_L_law 304 [some (.ref x), l1, l2, l3] st h = sm_run xs n_L_law 305 [some (.ref x), l1, l2, l3] (.ref x :: st) h := sx_pur (.aload_n 0) hm_L_law rfl rfl rfl rfl
set_option maxRecDepth 100000 in
theorem s_L_law_305 {xs : List Int32} {l0 l1 l2 : Option Value} {st : List Value} {h : HH} {x : Int32} : sm_run xs n_L_law 305 [l0, l1, l2, some (.int x)] st h = sm_run xs n_L_law 306 [l0, l1, l2, some (.int x)] (.int x :: st) h := sx_pur (.iload_n 3) hm_L_law rfl rfl rfl rfl
set_option maxRecDepth 100000 in
theorem s_L_law_306 {xs : List Int32} {l0 l1 l2 l3 : Option Value} {st : List Value} {h : HH} : sm_run xs n_L_law 306 [l0, l1, l2, l3] st h = sm_run xs n_L_law 307 [l0, l1, l2, l3] (.int 2 :: st) h := sx_pur (.iconst 2) hm_L_law rfl rfl rfl rfl
set_option maxRecDepth 100000 in
theorem s_L_law_307 {xs : List Int32} {l0 l1 l2 l3 : Option Value} {st : List Value} {h : HH} {x y : Int32} : sm_run xs n_L_law 307 [l0, l1, l2, l3] (.int y :: .int x :: st) h = sm_run xs n_L_law 308 [l0, l1, l2, l3] (.int (x + y) :: st) h := sx_pur (.iadd) hm_L_law rfl rfl rfl rfl
set_option maxRecDepth 100000 in
theorem s_L_law_308 {xs : List Int32} {l0 l1 l2 l3 : Option Value} {st : List Value} {h : HH} {j : Int32} (hh : h[sm_B + 9]? = none) (hin : sm_inr (some xs) j = true) : sm_run xs n_L_law 308 [l0, l1, l2, l3] (.int j :: .ref (sm_B + 9) :: st) h = sm_run xs n_L_law 309 [l0, l1, l2, l3] (.int (sm_el (some xs) j) :: st) h := sx_sald hm_L_law rfl hh hin
set_option maxRecDepth 100000 in
theorem s_L_law_309 {xs : List Int32} {l0 l1 l2 l3 : Option Value} {st : List Value} {h : HH} {i : Nat} {b0 : Int32} {b1 : Int32} (hs : (st.map fun v => v.category).sum ≤ 8) (hcl : sm_cls h i = some 10) (hc : (sm_call xs n_X10_debt [.ref i, .int b0, .int b1] h).isSome = true) : sm_run xs n_L_law 309 [l0, l1, l2, l3] (.int b1 :: .int b0 :: .ref i :: st) h = sm_run xs n_L_law 312 [l0, l1, l2, l3] ((sm_rr (sm_call xs n_X10_debt [.ref i, .int b0, .int b1] h)).toList ++ st) (sm_rh (sm_call xs n_X10_debt [.ref i, .int b0, .int b1] h)) := sx_vrt (ci := 10) (en := (10, 76, 0, [883, 884, 885, 55, 886])) (k := mi_X10_debt) (as := [.ref i, .int b0, .int b1]) (rest := st) hm_L_law rfl vk_13_43 rfl hm_X10_debt (by decide) ⟨by show 2 ≤ _; simp only [List.length_cons]; omega, rfl, rfl⟩ hs hcl hc
set_option maxRecDepth 100000 in
theorem s_L_law_312 {xs : List Int32} {l0 l1 l2 l3 : Option Value} {st : List Value} {h : HH} {x y : Int32} : sm_run xs n_L_law 312 [l0, l1, l2, l3] (.int y :: .int x :: st) h = if x = y then sm_run xs n_L_law 908 [l0, l1, l2, l3] st h else sm_run xs n_L_law 315 [l0, l1, l2, l3] st h := sx_icmp hm_L_law rfl rfl rfl
set_option maxRecDepth 100000 in
theorem s_L_law_315 {xs : List Int32} {l0 l1 l2 l3 : Option Value} {st : List Value} {h : HH} : sm_run xs n_L_law 315 [l0, l1, l2, l3] st h = sm_run xs n_L_law 316 [l0, l1, l2, l3] (.int 0 :: st) h := sx_pur (.iconst 0) hm_L_law rfl rfl rfl rfl
set_option maxRecDepth 100000 in
theorem s_L_law_316z0 {xs : List Int32} {l0 l1 l2 l3 : Option Value} {h : HH} : sm_run xs n_L_law 316 [l0, l1, l2, l3] [.int 0] h = some (some (.int 0), h) := sm_return hm_L_law rfl rfl
set_option maxRecDepth 100000 in
theorem s_L_law_316z1 {xs : List Int32} {l0 l1 l2 l3 : Option Value} {h : HH} : sm_run xs n_L_law 316 [l0, l1, l2, l3] [.int 1] h = some (some (.int 1), h) := sm_return hm_L_law rfl rfl
set_option maxRecDepth 100000 in
theorem s_L_law_317 {xs : List Int32} {l0 l2 l3 : Option Value} {st : List Value} {h : HH} {x : Nat} : sm_run xs n_L_law 317 [l0, some (.ref x), l2, l3] st h = sm_run xs n_L_law 318 [l0, some (.ref x), l2, l3] (.ref x :: st) h := sx_pur (.aload_n 1) hm_L_law rfl rfl rfl rfl
set_option maxRecDepth 100000 in
theorem s_L_law_318 {xs : List Int32} {l1 l2 l3 : Option Value} {st : List Value} {h : HH} {x : Nat} : sm_run xs n_L_law 318 [some (.ref x), l1, l2, l3] st h = sm_run xs n_L_law 319 [some (.ref x), l1, l2, l3] (.ref x :: st) h := sx_pur (.aload_n 0) hm_L_law rfl rfl rfl rfl
set_option maxRecDepth 100000 in
theorem s_L_law_319 {xs : List Int32} {l0 l1 l2 : Option Value} {st : List Value} {h : HH} {x : Int32} : sm_run xs n_L_law 319 [l0, l1, l2, some (.int x)] st h = sm_run xs n_L_law 320 [l0, l1, l2, some (.int x)] (.int x :: st) h := sx_pur (.iload_n 3) hm_L_law rfl rfl rfl rfl
set_option maxRecDepth 100000 in
theorem s_L_law_320 {xs : List Int32} {l0 l1 l2 l3 : Option Value} {st : List Value} {h : HH} : sm_run xs n_L_law 320 [l0, l1, l2, l3] st h = sm_run xs n_L_law 321 [l0, l1, l2, l3] (.int 1 :: st) h := sx_pur (.iconst 1) hm_L_law rfl rfl rfl rfl
set_option maxRecDepth 100000 in
theorem s_L_law_321 {xs : List Int32} {l0 l1 l2 l3 : Option Value} {st : List Value} {h : HH} {x y : Int32} : sm_run xs n_L_law 321 [l0, l1, l2, l3] (.int y :: .int x :: st) h = sm_run xs n_L_law 322 [l0, l1, l2, l3] (.int (x + y) :: st) h := sx_pur (.iadd) hm_L_law rfl rfl rfl rfl
set_option maxRecDepth 100000 in
theorem s_L_law_322 {xs : List Int32} {l0 l1 l2 l3 : Option Value} {st : List Value} {h : HH} {j : Int32} (hh : h[sm_B + 9]? = none) (hin : sm_inr (some xs) j = true) : sm_run xs n_L_law 322 [l0, l1, l2, l3] (.int j :: .ref (sm_B + 9) :: st) h = sm_run xs n_L_law 323 [l0, l1, l2, l3] (.int (sm_el (some xs) j) :: st) h := sx_sald hm_L_law rfl hh hin
set_option maxRecDepth 100000 in
theorem s_L_law_323 {xs : List Int32} {l1 l2 l3 : Option Value} {st : List Value} {h : HH} {x : Nat} : sm_run xs n_L_law 323 [some (.ref x), l1, l2, l3] st h = sm_run xs n_L_law 324 [some (.ref x), l1, l2, l3] (.ref x :: st) h := sx_pur (.aload_n 0) hm_L_law rfl rfl rfl rfl
set_option maxRecDepth 100000 in
theorem s_L_law_324 {xs : List Int32} {l0 l1 l2 : Option Value} {st : List Value} {h : HH} {x : Int32} : sm_run xs n_L_law 324 [l0, l1, l2, some (.int x)] st h = sm_run xs n_L_law 325 [l0, l1, l2, some (.int x)] (.int x :: st) h := sx_pur (.iload_n 3) hm_L_law rfl rfl rfl rfl
set_option maxRecDepth 100000 in
theorem s_L_law_325 {xs : List Int32} {l0 l1 l2 l3 : Option Value} {st : List Value} {h : HH} : sm_run xs n_L_law 325 [l0, l1, l2, l3] st h = sm_run xs n_L_law 326 [l0, l1, l2, l3] (.int 2 :: st) h := sx_pur (.iconst 2) hm_L_law rfl rfl rfl rfl
set_option maxRecDepth 100000 in
theorem s_L_law_326 {xs : List Int32} {l0 l1 l2 l3 : Option Value} {st : List Value} {h : HH} {x y : Int32} : sm_run xs n_L_law 326 [l0, l1, l2, l3] (.int y :: .int x :: st) h = sm_run xs n_L_law 327 [l0, l1, l2, l3] (.int (x + y) :: st) h := sx_pur (.iadd) hm_L_law rfl rfl rfl rfl
set_option maxRecDepth 100000 in
theorem s_L_law_327 {xs : List Int32} {l0 l1 l2 l3 : Option Value} {st : List Value} {h : HH} {j : Int32} (hh : h[sm_B + 9]? = none) (hin : sm_inr (some xs) j = true) : sm_run xs n_L_law 327 [l0, l1, l2, l3] (.int j :: .ref (sm_B + 9) :: st) h = sm_run xs n_L_law 328 [l0, l1, l2, l3] (.int (sm_el (some xs) j) :: st) h := sx_sald hm_L_law rfl hh hin
set_option maxRecDepth 100000 in
theorem s_L_law_328 {xs : List Int32} {l0 l1 l2 l3 : Option Value} {st : List Value} {h : HH} {i : Nat} {b0 : Int32} {b1 : Int32} (hs : (st.map fun v => v.category).sum ≤ 8) (hcl : sm_cls h i = some 9) (hc : (sm_call xs n_X9_as [.ref i, .int b0, .int b1] h).isSome = true) : sm_run xs n_L_law 328 [l0, l1, l2, l3] (.int b1 :: .int b0 :: .ref i :: st) h = sm_run xs n_L_law 331 [l0, l1, l2, l3] ((sm_rr (sm_call xs n_X9_as [.ref i, .int b0, .int b1] h)).toList ++ st) (sm_rh (sm_call xs n_X9_as [.ref i, .int b0, .int b1] h)) := sx_vrt (ci := 9) (en := (9, 81, 0, [467, 468, 469, 44, 470])) (k := mi_X9_as) (as := [.ref i, .int b0, .int b1]) (rest := st) hm_L_law rfl vk_13_44 rfl hm_X9_as (by decide) ⟨by show 2 ≤ _; simp only [List.length_cons]; omega, rfl, rfl⟩ hs hcl hc
set_option maxRecDepth 100000 in
theorem s_L_law_331 {xs : List Int32} {l0 l1 l3 : Option Value} {st : List Value} {h : HH} {x : Nat} : sm_run xs n_L_law 331 [l0, l1, some (.ref x), l3] st h = sm_run xs n_L_law 332 [l0, l1, some (.ref x), l3] (.ref x :: st) h := sx_pur (.aload_n 2) hm_L_law rfl rfl rfl rfl
set_option maxRecDepth 100000 in
theorem s_L_law_332 {xs : List Int32} {l1 l2 l3 : Option Value} {st : List Value} {h : HH} {x : Nat} : sm_run xs n_L_law 332 [some (.ref x), l1, l2, l3] st h = sm_run xs n_L_law 333 [some (.ref x), l1, l2, l3] (.ref x :: st) h := sx_pur (.aload_n 0) hm_L_law rfl rfl rfl rfl
set_option maxRecDepth 100000 in
theorem s_L_law_333 {xs : List Int32} {l0 l1 l2 : Option Value} {st : List Value} {h : HH} {x : Int32} : sm_run xs n_L_law 333 [l0, l1, l2, some (.int x)] st h = sm_run xs n_L_law 334 [l0, l1, l2, some (.int x)] (.int x :: st) h := sx_pur (.iload_n 3) hm_L_law rfl rfl rfl rfl
set_option maxRecDepth 100000 in
theorem s_L_law_334 {xs : List Int32} {l0 l1 l2 l3 : Option Value} {st : List Value} {h : HH} : sm_run xs n_L_law 334 [l0, l1, l2, l3] st h = sm_run xs n_L_law 335 [l0, l1, l2, l3] (.int 1 :: st) h := sx_pur (.iconst 1) hm_L_law rfl rfl rfl rfl
set_option maxRecDepth 100000 in
theorem s_L_law_335 {xs : List Int32} {l0 l1 l2 l3 : Option Value} {st : List Value} {h : HH} {x y : Int32} : sm_run xs n_L_law 335 [l0, l1, l2, l3] (.int y :: .int x :: st) h = sm_run xs n_L_law 336 [l0, l1, l2, l3] (.int (x + y) :: st) h := sx_pur (.iadd) hm_L_law rfl rfl rfl rfl
set_option maxRecDepth 100000 in
theorem s_L_law_336 {xs : List Int32} {l0 l1 l2 l3 : Option Value} {st : List Value} {h : HH} {j : Int32} (hh : h[sm_B + 9]? = none) (hin : sm_inr (some xs) j = true) : sm_run xs n_L_law 336 [l0, l1, l2, l3] (.int j :: .ref (sm_B + 9) :: st) h = sm_run xs n_L_law 337 [l0, l1, l2, l3] (.int (sm_el (some xs) j) :: st) h := sx_sald hm_L_law rfl hh hin
set_option maxRecDepth 100000 in
theorem s_L_law_337 {xs : List Int32} {l1 l2 l3 : Option Value} {st : List Value} {h : HH} {x : Nat} : sm_run xs n_L_law 337 [some (.ref x), l1, l2, l3] st h = sm_run xs n_L_law 338 [some (.ref x), l1, l2, l3] (.ref x :: st) h := sx_pur (.aload_n 0) hm_L_law rfl rfl rfl rfl
set_option maxRecDepth 100000 in
theorem s_L_law_338 {xs : List Int32} {l0 l1 l2 : Option Value} {st : List Value} {h : HH} {x : Int32} : sm_run xs n_L_law 338 [l0, l1, l2, some (.int x)] st h = sm_run xs n_L_law 339 [l0, l1, l2, some (.int x)] (.int x :: st) h := sx_pur (.iload_n 3) hm_L_law rfl rfl rfl rfl
set_option maxRecDepth 100000 in
theorem s_L_law_339 {xs : List Int32} {l0 l1 l2 l3 : Option Value} {st : List Value} {h : HH} : sm_run xs n_L_law 339 [l0, l1, l2, l3] st h = sm_run xs n_L_law 340 [l0, l1, l2, l3] (.int 2 :: st) h := sx_pur (.iconst 2) hm_L_law rfl rfl rfl rfl
set_option maxRecDepth 100000 in
theorem s_L_law_340 {xs : List Int32} {l0 l1 l2 l3 : Option Value} {st : List Value} {h : HH} {x y : Int32} : sm_run xs n_L_law 340 [l0, l1, l2, l3] (.int y :: .int x :: st) h = sm_run xs n_L_law 341 [l0, l1, l2, l3] (.int (x + y) :: st) h := sx_pur (.iadd) hm_L_law rfl rfl rfl rfl
set_option maxRecDepth 100000 in
theorem s_L_law_341 {xs : List Int32} {l0 l1 l2 l3 : Option Value} {st : List Value} {h : HH} {j : Int32} (hh : h[sm_B + 9]? = none) (hin : sm_inr (some xs) j = true) : sm_run xs n_L_law 341 [l0, l1, l2, l3] (.int j :: .ref (sm_B + 9) :: st) h = sm_run xs n_L_law 342 [l0, l1, l2, l3] (.int (sm_el (some xs) j) :: st) h := sx_sald hm_L_law rfl hh hin
set_option maxRecDepth 100000 in
theorem s_L_law_342 {xs : List Int32} {l0 l1 l2 l3 : Option Value} {st : List Value} {h : HH} {i : Nat} {b0 : Int32} {b1 : Int32} (hs : (st.map fun v => v.category).sum ≤ 8) (hcl : sm_cls h i = some 10) (hc : (sm_call xs n_X10_as [.ref i, .int b0, .int b1] h).isSome = true) : sm_run xs n_L_law 342 [l0, l1, l2, l3] (.int b1 :: .int b0 :: .ref i :: st) h = sm_run xs n_L_law 345 [l0, l1, l2, l3] ((sm_rr (sm_call xs n_X10_as [.ref i, .int b0, .int b1] h)).toList ++ st) (sm_rh (sm_call xs n_X10_as [.ref i, .int b0, .int b1] h)) := sx_vrt (ci := 10) (en := (10, 83, 0, [891, 892, 893, 55, 894])) (k := mi_X10_as) (as := [.ref i, .int b0, .int b1]) (rest := st) hm_L_law rfl vk_13_47 rfl hm_X10_as (by decide) ⟨by show 2 ≤ _; simp only [List.length_cons]; omega, rfl, rfl⟩ hs hcl hc
set_option maxRecDepth 100000 in
theorem s_L_law_345 {xs : List Int32} {l0 l1 l2 l3 : Option Value} {st : List Value} {h : HH} {x y : Int32} : sm_run xs n_L_law 345 [l0, l1, l2, l3] (.int y :: .int x :: st) h = if x = y then sm_run xs n_L_law 908 [l0, l1, l2, l3] st h else sm_run xs n_L_law 348 [l0, l1, l2, l3] st h := sx_icmp hm_L_law rfl rfl rfl
set_option maxRecDepth 100000 in
theorem s_L_law_348 {xs : List Int32} {l0 l1 l2 l3 : Option Value} {st : List Value} {h : HH} : sm_run xs n_L_law 348 [l0, l1, l2, l3] st h = sm_run xs n_L_law 349 [l0, l1, l2, l3] (.int 0 :: st) h := sx_pur (.iconst 0) hm_L_law rfl rfl rfl rfl
set_option maxRecDepth 100000 in
theorem s_L_law_349z0 {xs : List Int32} {l0 l1 l2 l3 : Option Value} {h : HH} : sm_run xs n_L_law 349 [l0, l1, l2, l3] [.int 0] h = some (some (.int 0), h) := sm_return hm_L_law rfl rfl
set_option maxRecDepth 100000 in
theorem s_L_law_349z1 {xs : List Int32} {l0 l1 l2 l3 : Option Value} {h : HH} : sm_run xs n_L_law 349 [l0, l1, l2, l3] [.int 1] h = some (some (.int 1), h) := sm_return hm_L_law rfl rfl
set_option maxRecDepth 100000 in
theorem s_L_law_350 {xs : List Int32} {l0 l2 l3 : Option Value} {st : List Value} {h : HH} {x : Nat} : sm_run xs n_L_law 350 [l0, some (.ref x), l2, l3] st h = sm_run xs n_L_law 351 [l0, some (.ref x), l2, l3] (.ref x :: st) h := sx_pur (.aload_n 1) hm_L_law rfl rfl rfl rfl
set_option maxRecDepth 100000 in
theorem s_L_law_351 {xs : List Int32} {l1 l2 l3 : Option Value} {st : List Value} {h : HH} {x : Nat} : sm_run xs n_L_law 351 [some (.ref x), l1, l2, l3] st h = sm_run xs n_L_law 352 [some (.ref x), l1, l2, l3] (.ref x :: st) h := sx_pur (.aload_n 0) hm_L_law rfl rfl rfl rfl
set_option maxRecDepth 100000 in
theorem s_L_law_352 {xs : List Int32} {l0 l1 l2 : Option Value} {st : List Value} {h : HH} {x : Int32} : sm_run xs n_L_law 352 [l0, l1, l2, some (.int x)] st h = sm_run xs n_L_law 353 [l0, l1, l2, some (.int x)] (.int x :: st) h := sx_pur (.iload_n 3) hm_L_law rfl rfl rfl rfl
set_option maxRecDepth 100000 in
theorem s_L_law_353 {xs : List Int32} {l0 l1 l2 l3 : Option Value} {st : List Value} {h : HH} : sm_run xs n_L_law 353 [l0, l1, l2, l3] st h = sm_run xs n_L_law 354 [l0, l1, l2, l3] (.int 1 :: st) h := sx_pur (.iconst 1) hm_L_law rfl rfl rfl rfl
set_option maxRecDepth 100000 in
theorem s_L_law_354 {xs : List Int32} {l0 l1 l2 l3 : Option Value} {st : List Value} {h : HH} {x y : Int32} : sm_run xs n_L_law 354 [l0, l1, l2, l3] (.int y :: .int x :: st) h = sm_run xs n_L_law 355 [l0, l1, l2, l3] (.int (x + y) :: st) h := sx_pur (.iadd) hm_L_law rfl rfl rfl rfl
set_option maxRecDepth 100000 in
theorem s_L_law_355 {xs : List Int32} {l0 l1 l2 l3 : Option Value} {st : List Value} {h : HH} {j : Int32} (hh : h[sm_B + 9]? = none) (hin : sm_inr (some xs) j = true) : sm_run xs n_L_law 355 [l0, l1, l2, l3] (.int j :: .ref (sm_B + 9) :: st) h = sm_run xs n_L_law 356 [l0, l1, l2, l3] (.int (sm_el (some xs) j) :: st) h := sx_sald hm_L_law rfl hh hin
set_option maxRecDepth 100000 in
theorem s_L_law_356 {xs : List Int32} {l1 l2 l3 : Option Value} {st : List Value} {h : HH} {x : Nat} : sm_run xs n_L_law 356 [some (.ref x), l1, l2, l3] st h = sm_run xs n_L_law 357 [some (.ref x), l1, l2, l3] (.ref x :: st) h := sx_pur (.aload_n 0) hm_L_law rfl rfl rfl rfl
set_option maxRecDepth 100000 in
theorem s_L_law_357 {xs : List Int32} {l0 l1 l2 : Option Value} {st : List Value} {h : HH} {x : Int32} : sm_run xs n_L_law 357 [l0, l1, l2, some (.int x)] st h = sm_run xs n_L_law 358 [l0, l1, l2, some (.int x)] (.int x :: st) h := sx_pur (.iload_n 3) hm_L_law rfl rfl rfl rfl
set_option maxRecDepth 100000 in
theorem s_L_law_358 {xs : List Int32} {l0 l1 l2 l3 : Option Value} {st : List Value} {h : HH} : sm_run xs n_L_law 358 [l0, l1, l2, l3] st h = sm_run xs n_L_law 359 [l0, l1, l2, l3] (.int 2 :: st) h := sx_pur (.iconst 2) hm_L_law rfl rfl rfl rfl
set_option maxRecDepth 100000 in
theorem s_L_law_359 {xs : List Int32} {l0 l1 l2 l3 : Option Value} {st : List Value} {h : HH} {x y : Int32} : sm_run xs n_L_law 359 [l0, l1, l2, l3] (.int y :: .int x :: st) h = sm_run xs n_L_law 360 [l0, l1, l2, l3] (.int (x + y) :: st) h := sx_pur (.iadd) hm_L_law rfl rfl rfl rfl
set_option maxRecDepth 100000 in
theorem s_L_law_360 {xs : List Int32} {l0 l1 l2 l3 : Option Value} {st : List Value} {h : HH} {j : Int32} (hh : h[sm_B + 9]? = none) (hin : sm_inr (some xs) j = true) : sm_run xs n_L_law 360 [l0, l1, l2, l3] (.int j :: .ref (sm_B + 9) :: st) h = sm_run xs n_L_law 361 [l0, l1, l2, l3] (.int (sm_el (some xs) j) :: st) h := sx_sald hm_L_law rfl hh hin
set_option maxRecDepth 100000 in
theorem s_L_law_361 {xs : List Int32} {l1 l2 l3 : Option Value} {st : List Value} {h : HH} {x : Nat} : sm_run xs n_L_law 361 [some (.ref x), l1, l2, l3] st h = sm_run xs n_L_law 362 [some (.ref x), l1, l2, l3] (.ref x :: st) h := sx_pur (.aload_n 0) hm_L_law rfl rfl rfl rfl
set_option maxRecDepth 100000 in
theorem s_L_law_362 {xs : List Int32} {l0 l1 l2 : Option Value} {st : List Value} {h : HH} {x : Int32} : sm_run xs n_L_law 362 [l0, l1, l2, some (.int x)] st h = sm_run xs n_L_law 363 [l0, l1, l2, some (.int x)] (.int x :: st) h := sx_pur (.iload_n 3) hm_L_law rfl rfl rfl rfl
set_option maxRecDepth 100000 in
theorem s_L_law_363 {xs : List Int32} {l0 l1 l2 l3 : Option Value} {st : List Value} {h : HH} : sm_run xs n_L_law 363 [l0, l1, l2, l3] st h = sm_run xs n_L_law 364 [l0, l1, l2, l3] (.int 3 :: st) h := sx_pur (.iconst 3) hm_L_law rfl rfl rfl rfl
set_option maxRecDepth 100000 in
theorem s_L_law_364 {xs : List Int32} {l0 l1 l2 l3 : Option Value} {st : List Value} {h : HH} {x y : Int32} : sm_run xs n_L_law 364 [l0, l1, l2, l3] (.int y :: .int x :: st) h = sm_run xs n_L_law 365 [l0, l1, l2, l3] (.int (x + y) :: st) h := sx_pur (.iadd) hm_L_law rfl rfl rfl rfl
set_option maxRecDepth 100000 in
theorem s_L_law_365 {xs : List Int32} {l0 l1 l2 l3 : Option Value} {st : List Value} {h : HH} {j : Int32} (hh : h[sm_B + 9]? = none) (hin : sm_inr (some xs) j = true) : sm_run xs n_L_law 365 [l0, l1, l2, l3] (.int j :: .ref (sm_B + 9) :: st) h = sm_run xs n_L_law 366 [l0, l1, l2, l3] (.int (sm_el (some xs) j) :: st) h := sx_sald hm_L_law rfl hh hin
set_option maxRecDepth 100000 in
theorem s_L_law_366 {xs : List Int32} {l0 l1 l2 l3 : Option Value} {st : List Value} {h : HH} {i : Nat} {b0 : Int32} {b1 : Int32} {b2 : Int32} (hs : (st.map fun v => v.category).sum ≤ 8) (hcl : sm_cls h i = some 9) (hc : (sm_call xs n_X9_shoot [.ref i, .int b0, .int b1, .int b2] h).isSome = true) : sm_run xs n_L_law 366 [l0, l1, l2, l3] (.int b2 :: .int b1 :: .int b0 :: .ref i :: st) h = sm_run xs n_L_law 369 [l0, l1, l2, l3] ((sm_rr (sm_call xs n_X9_shoot [.ref i, .int b0, .int b1, .int b2] h)).toList ++ st) (sm_rh (sm_call xs n_X9_shoot [.ref i, .int b0, .int b1, .int b2] h)) := sx_vrt (ci := 9) (en := (9, 96, 0, [489, 490, 491, 44, 492])) (k := mi_X9_shoot) (as := [.ref i, .int b0, .int b1, .int b2]) (rest := st) hm_L_law rfl vk_13_48 rfl hm_X9_shoot (by decide) ⟨by show 3 ≤ _; simp only [List.length_cons]; omega, rfl, rfl⟩ hs hcl hc
set_option maxRecDepth 100000 in
theorem s_L_law_369 {xs : List Int32} {l0 l1 l3 : Option Value} {st : List Value} {h : HH} {x : Nat} : sm_run xs n_L_law 369 [l0, l1, some (.ref x), l3] st h = sm_run xs n_L_law 370 [l0, l1, some (.ref x), l3] (.ref x :: st) h := sx_pur (.aload_n 2) hm_L_law rfl rfl rfl rfl
set_option maxRecDepth 100000 in
theorem s_L_law_370 {xs : List Int32} {l1 l2 l3 : Option Value} {st : List Value} {h : HH} {x : Nat} : sm_run xs n_L_law 370 [some (.ref x), l1, l2, l3] st h = sm_run xs n_L_law 371 [some (.ref x), l1, l2, l3] (.ref x :: st) h := sx_pur (.aload_n 0) hm_L_law rfl rfl rfl rfl
set_option maxRecDepth 100000 in
theorem s_L_law_371 {xs : List Int32} {l0 l1 l2 : Option Value} {st : List Value} {h : HH} {x : Int32} : sm_run xs n_L_law 371 [l0, l1, l2, some (.int x)] st h = sm_run xs n_L_law 372 [l0, l1, l2, some (.int x)] (.int x :: st) h := sx_pur (.iload_n 3) hm_L_law rfl rfl rfl rfl
set_option maxRecDepth 100000 in
theorem s_L_law_372 {xs : List Int32} {l0 l1 l2 l3 : Option Value} {st : List Value} {h : HH} : sm_run xs n_L_law 372 [l0, l1, l2, l3] st h = sm_run xs n_L_law 373 [l0, l1, l2, l3] (.int 1 :: st) h := sx_pur (.iconst 1) hm_L_law rfl rfl rfl rfl
set_option maxRecDepth 100000 in
theorem s_L_law_373 {xs : List Int32} {l0 l1 l2 l3 : Option Value} {st : List Value} {h : HH} {x y : Int32} : sm_run xs n_L_law 373 [l0, l1, l2, l3] (.int y :: .int x :: st) h = sm_run xs n_L_law 374 [l0, l1, l2, l3] (.int (x + y) :: st) h := sx_pur (.iadd) hm_L_law rfl rfl rfl rfl
set_option maxRecDepth 100000 in
theorem s_L_law_374 {xs : List Int32} {l0 l1 l2 l3 : Option Value} {st : List Value} {h : HH} {j : Int32} (hh : h[sm_B + 9]? = none) (hin : sm_inr (some xs) j = true) : sm_run xs n_L_law 374 [l0, l1, l2, l3] (.int j :: .ref (sm_B + 9) :: st) h = sm_run xs n_L_law 375 [l0, l1, l2, l3] (.int (sm_el (some xs) j) :: st) h := sx_sald hm_L_law rfl hh hin
set_option maxRecDepth 100000 in
theorem s_L_law_375 {xs : List Int32} {l1 l2 l3 : Option Value} {st : List Value} {h : HH} {x : Nat} : sm_run xs n_L_law 375 [some (.ref x), l1, l2, l3] st h = sm_run xs n_L_law 376 [some (.ref x), l1, l2, l3] (.ref x :: st) h := sx_pur (.aload_n 0) hm_L_law rfl rfl rfl rfl
set_option maxRecDepth 100000 in
theorem s_L_law_376 {xs : List Int32} {l0 l1 l2 : Option Value} {st : List Value} {h : HH} {x : Int32} : sm_run xs n_L_law 376 [l0, l1, l2, some (.int x)] st h = sm_run xs n_L_law 377 [l0, l1, l2, some (.int x)] (.int x :: st) h := sx_pur (.iload_n 3) hm_L_law rfl rfl rfl rfl
set_option maxRecDepth 100000 in
theorem s_L_law_377 {xs : List Int32} {l0 l1 l2 l3 : Option Value} {st : List Value} {h : HH} : sm_run xs n_L_law 377 [l0, l1, l2, l3] st h = sm_run xs n_L_law 378 [l0, l1, l2, l3] (.int 2 :: st) h := sx_pur (.iconst 2) hm_L_law rfl rfl rfl rfl
set_option maxRecDepth 100000 in
theorem s_L_law_378 {xs : List Int32} {l0 l1 l2 l3 : Option Value} {st : List Value} {h : HH} {x y : Int32} : sm_run xs n_L_law 378 [l0, l1, l2, l3] (.int y :: .int x :: st) h = sm_run xs n_L_law 379 [l0, l1, l2, l3] (.int (x + y) :: st) h := sx_pur (.iadd) hm_L_law rfl rfl rfl rfl
set_option maxRecDepth 100000 in
theorem s_L_law_379 {xs : List Int32} {l0 l1 l2 l3 : Option Value} {st : List Value} {h : HH} {j : Int32} (hh : h[sm_B + 9]? = none) (hin : sm_inr (some xs) j = true) : sm_run xs n_L_law 379 [l0, l1, l2, l3] (.int j :: .ref (sm_B + 9) :: st) h = sm_run xs n_L_law 380 [l0, l1, l2, l3] (.int (sm_el (some xs) j) :: st) h := sx_sald hm_L_law rfl hh hin
set_option maxRecDepth 100000 in
theorem s_L_law_380 {xs : List Int32} {l1 l2 l3 : Option Value} {st : List Value} {h : HH} {x : Nat} : sm_run xs n_L_law 380 [some (.ref x), l1, l2, l3] st h = sm_run xs n_L_law 381 [some (.ref x), l1, l2, l3] (.ref x :: st) h := sx_pur (.aload_n 0) hm_L_law rfl rfl rfl rfl
set_option maxRecDepth 100000 in
theorem s_L_law_381 {xs : List Int32} {l0 l1 l2 : Option Value} {st : List Value} {h : HH} {x : Int32} : sm_run xs n_L_law 381 [l0, l1, l2, some (.int x)] st h = sm_run xs n_L_law 382 [l0, l1, l2, some (.int x)] (.int x :: st) h := sx_pur (.iload_n 3) hm_L_law rfl rfl rfl rfl
set_option maxRecDepth 100000 in
theorem s_L_law_382 {xs : List Int32} {l0 l1 l2 l3 : Option Value} {st : List Value} {h : HH} : sm_run xs n_L_law 382 [l0, l1, l2, l3] st h = sm_run xs n_L_law 383 [l0, l1, l2, l3] (.int 3 :: st) h := sx_pur (.iconst 3) hm_L_law rfl rfl rfl rfl
set_option maxRecDepth 100000 in
theorem s_L_law_383 {xs : List Int32} {l0 l1 l2 l3 : Option Value} {st : List Value} {h : HH} {x y : Int32} : sm_run xs n_L_law 383 [l0, l1, l2, l3] (.int y :: .int x :: st) h = sm_run xs n_L_law 384 [l0, l1, l2, l3] (.int (x + y) :: st) h := sx_pur (.iadd) hm_L_law rfl rfl rfl rfl
set_option maxRecDepth 100000 in
theorem s_L_law_384 {xs : List Int32} {l0 l1 l2 l3 : Option Value} {st : List Value} {h : HH} {j : Int32} (hh : h[sm_B + 9]? = none) (hin : sm_inr (some xs) j = true) : sm_run xs n_L_law 384 [l0, l1, l2, l3] (.int j :: .ref (sm_B + 9) :: st) h = sm_run xs n_L_law 385 [l0, l1, l2, l3] (.int (sm_el (some xs) j) :: st) h := sx_sald hm_L_law rfl hh hin
set_option maxRecDepth 100000 in
theorem s_L_law_385 {xs : List Int32} {l0 l1 l2 l3 : Option Value} {st : List Value} {h : HH} {i : Nat} {b0 : Int32} {b1 : Int32} {b2 : Int32} (hs : (st.map fun v => v.category).sum ≤ 8) (hcl : sm_cls h i = some 10) (hc : (sm_call xs n_X10_shoot [.ref i, .int b0, .int b1, .int b2] h).isSome = true) : sm_run xs n_L_law 385 [l0, l1, l2, l3] (.int b2 :: .int b1 :: .int b0 :: .ref i :: st) h = sm_run xs n_L_law 388 [l0, l1, l2, l3] ((sm_rr (sm_call xs n_X10_shoot [.ref i, .int b0, .int b1, .int b2] h)).toList ++ st) (sm_rh (sm_call xs n_X10_shoot [.ref i, .int b0, .int b1, .int b2] h)) := sx_vrt (ci := 10) (en := (10, 102, 0, [900, 901, 902, 55, 903])) (k := mi_X10_shoot) (as := [.ref i, .int b0, .int b1, .int b2]) (rest := st) hm_L_law rfl vk_13_52 rfl hm_X10_shoot (by decide) ⟨by show 3 ≤ _; simp only [List.length_cons]; omega, rfl, rfl⟩ hs hcl hc
set_option maxRecDepth 100000 in
theorem s_L_law_388 {xs : List Int32} {l0 l1 l2 l3 : Option Value} {st : List Value} {h : HH} {x y : Int32} : sm_run xs n_L_law 388 [l0, l1, l2, l3] (.int y :: .int x :: st) h = if x = y then sm_run xs n_L_law 908 [l0, l1, l2, l3] st h else sm_run xs n_L_law 391 [l0, l1, l2, l3] st h := sx_icmp hm_L_law rfl rfl rfl
set_option maxRecDepth 100000 in
theorem s_L_law_391 {xs : List Int32} {l0 l1 l2 l3 : Option Value} {st : List Value} {h : HH} : sm_run xs n_L_law 391 [l0, l1, l2, l3] st h = sm_run xs n_L_law 392 [l0, l1, l2, l3] (.int 0 :: st) h := sx_pur (.iconst 0) hm_L_law rfl rfl rfl rfl
set_option maxRecDepth 100000 in
theorem s_L_law_392z0 {xs : List Int32} {l0 l1 l2 l3 : Option Value} {h : HH} : sm_run xs n_L_law 392 [l0, l1, l2, l3] [.int 0] h = some (some (.int 0), h) := sm_return hm_L_law rfl rfl
set_option maxRecDepth 100000 in
theorem s_L_law_392z1 {xs : List Int32} {l0 l1 l2 l3 : Option Value} {h : HH} : sm_run xs n_L_law 392 [l0, l1, l2, l3] [.int 1] h = some (some (.int 1), h) := sm_return hm_L_law rfl rfl
set_option maxRecDepth 100000 in
theorem s_L_law_393 {xs : List Int32} {l0 l2 l3 : Option Value} {st : List Value} {h : HH} {x : Nat} : sm_run xs n_L_law 393 [l0, some (.ref x), l2, l3] st h = sm_run xs n_L_law 394 [l0, some (.ref x), l2, l3] (.ref x :: st) h := sx_pur (.aload_n 1) hm_L_law rfl rfl rfl rfl
set_option maxRecDepth 100000 in
theorem s_L_law_394 {xs : List Int32} {l1 l2 l3 : Option Value} {st : List Value} {h : HH} {x : Nat} : sm_run xs n_L_law 394 [some (.ref x), l1, l2, l3] st h = sm_run xs n_L_law 395 [some (.ref x), l1, l2, l3] (.ref x :: st) h := sx_pur (.aload_n 0) hm_L_law rfl rfl rfl rfl
set_option maxRecDepth 100000 in
theorem s_L_law_395 {xs : List Int32} {l0 l1 l2 : Option Value} {st : List Value} {h : HH} {x : Int32} : sm_run xs n_L_law 395 [l0, l1, l2, some (.int x)] st h = sm_run xs n_L_law 396 [l0, l1, l2, some (.int x)] (.int x :: st) h := sx_pur (.iload_n 3) hm_L_law rfl rfl rfl rfl
set_option maxRecDepth 100000 in
theorem s_L_law_396 {xs : List Int32} {l0 l1 l2 l3 : Option Value} {st : List Value} {h : HH} : sm_run xs n_L_law 396 [l0, l1, l2, l3] st h = sm_run xs n_L_law 397 [l0, l1, l2, l3] (.int 1 :: st) h := sx_pur (.iconst 1) hm_L_law rfl rfl rfl rfl
set_option maxRecDepth 100000 in
theorem s_L_law_397 {xs : List Int32} {l0 l1 l2 l3 : Option Value} {st : List Value} {h : HH} {x y : Int32} : sm_run xs n_L_law 397 [l0, l1, l2, l3] (.int y :: .int x :: st) h = sm_run xs n_L_law 398 [l0, l1, l2, l3] (.int (x + y) :: st) h := sx_pur (.iadd) hm_L_law rfl rfl rfl rfl
set_option maxRecDepth 100000 in
theorem s_L_law_398 {xs : List Int32} {l0 l1 l2 l3 : Option Value} {st : List Value} {h : HH} {j : Int32} (hh : h[sm_B + 9]? = none) (hin : sm_inr (some xs) j = true) : sm_run xs n_L_law 398 [l0, l1, l2, l3] (.int j :: .ref (sm_B + 9) :: st) h = sm_run xs n_L_law 399 [l0, l1, l2, l3] (.int (sm_el (some xs) j) :: st) h := sx_sald hm_L_law rfl hh hin
set_option maxRecDepth 100000 in
theorem s_L_law_399 {xs : List Int32} {l1 l2 l3 : Option Value} {st : List Value} {h : HH} {x : Nat} : sm_run xs n_L_law 399 [some (.ref x), l1, l2, l3] st h = sm_run xs n_L_law 400 [some (.ref x), l1, l2, l3] (.ref x :: st) h := sx_pur (.aload_n 0) hm_L_law rfl rfl rfl rfl
set_option maxRecDepth 100000 in
theorem s_L_law_400 {xs : List Int32} {l0 l1 l2 : Option Value} {st : List Value} {h : HH} {x : Int32} : sm_run xs n_L_law 400 [l0, l1, l2, some (.int x)] st h = sm_run xs n_L_law 401 [l0, l1, l2, some (.int x)] (.int x :: st) h := sx_pur (.iload_n 3) hm_L_law rfl rfl rfl rfl
set_option maxRecDepth 100000 in
theorem s_L_law_401 {xs : List Int32} {l0 l1 l2 l3 : Option Value} {st : List Value} {h : HH} : sm_run xs n_L_law 401 [l0, l1, l2, l3] st h = sm_run xs n_L_law 402 [l0, l1, l2, l3] (.int 2 :: st) h := sx_pur (.iconst 2) hm_L_law rfl rfl rfl rfl
set_option maxRecDepth 100000 in
theorem s_L_law_402 {xs : List Int32} {l0 l1 l2 l3 : Option Value} {st : List Value} {h : HH} {x y : Int32} : sm_run xs n_L_law 402 [l0, l1, l2, l3] (.int y :: .int x :: st) h = sm_run xs n_L_law 403 [l0, l1, l2, l3] (.int (x + y) :: st) h := sx_pur (.iadd) hm_L_law rfl rfl rfl rfl
set_option maxRecDepth 100000 in
theorem s_L_law_403 {xs : List Int32} {l0 l1 l2 l3 : Option Value} {st : List Value} {h : HH} {j : Int32} (hh : h[sm_B + 9]? = none) (hin : sm_inr (some xs) j = true) : sm_run xs n_L_law 403 [l0, l1, l2, l3] (.int j :: .ref (sm_B + 9) :: st) h = sm_run xs n_L_law 404 [l0, l1, l2, l3] (.int (sm_el (some xs) j) :: st) h := sx_sald hm_L_law rfl hh hin
set_option maxRecDepth 100000 in
theorem s_L_law_404 {xs : List Int32} {l1 l2 l3 : Option Value} {st : List Value} {h : HH} {x : Nat} : sm_run xs n_L_law 404 [some (.ref x), l1, l2, l3] st h = sm_run xs n_L_law 405 [some (.ref x), l1, l2, l3] (.ref x :: st) h := sx_pur (.aload_n 0) hm_L_law rfl rfl rfl rfl
set_option maxRecDepth 100000 in
theorem s_L_law_405 {xs : List Int32} {l0 l1 l2 : Option Value} {st : List Value} {h : HH} {x : Int32} : sm_run xs n_L_law 405 [l0, l1, l2, some (.int x)] st h = sm_run xs n_L_law 406 [l0, l1, l2, some (.int x)] (.int x :: st) h := sx_pur (.iload_n 3) hm_L_law rfl rfl rfl rfl
set_option maxRecDepth 100000 in
theorem s_L_law_406 {xs : List Int32} {l0 l1 l2 l3 : Option Value} {st : List Value} {h : HH} : sm_run xs n_L_law 406 [l0, l1, l2, l3] st h = sm_run xs n_L_law 407 [l0, l1, l2, l3] (.int 3 :: st) h := sx_pur (.iconst 3) hm_L_law rfl rfl rfl rfl
set_option maxRecDepth 100000 in
theorem s_L_law_407 {xs : List Int32} {l0 l1 l2 l3 : Option Value} {st : List Value} {h : HH} {x y : Int32} : sm_run xs n_L_law 407 [l0, l1, l2, l3] (.int y :: .int x :: st) h = sm_run xs n_L_law 408 [l0, l1, l2, l3] (.int (x + y) :: st) h := sx_pur (.iadd) hm_L_law rfl rfl rfl rfl
set_option maxRecDepth 100000 in
theorem s_L_law_408 {xs : List Int32} {l0 l1 l2 l3 : Option Value} {st : List Value} {h : HH} {j : Int32} (hh : h[sm_B + 9]? = none) (hin : sm_inr (some xs) j = true) : sm_run xs n_L_law 408 [l0, l1, l2, l3] (.int j :: .ref (sm_B + 9) :: st) h = sm_run xs n_L_law 409 [l0, l1, l2, l3] (.int (sm_el (some xs) j) :: st) h := sx_sald hm_L_law rfl hh hin
set_option maxRecDepth 100000 in
theorem s_L_law_409 {xs : List Int32} {l0 l1 l2 l3 : Option Value} {st : List Value} {h : HH} {i : Nat} {b0 : Int32} {b1 : Int32} {b2 : Int32} (hs : (st.map fun v => v.category).sum ≤ 8) (hcl : sm_cls h i = some 9) (hc : (sm_call xs n_X9_pay [.ref i, .int b0, .int b1, .int b2] h).isSome = true) : sm_run xs n_L_law 409 [l0, l1, l2, l3] (.int b2 :: .int b1 :: .int b0 :: .ref i :: st) h = sm_run xs n_L_law 412 [l0, l1, l2, l3] ((sm_rr (sm_call xs n_X9_pay [.ref i, .int b0, .int b1, .int b2] h)).toList ++ st) (sm_rh (sm_call xs n_X9_pay [.ref i, .int b0, .int b1, .int b2] h)) := sx_vrt (ci := 9) (en := (9, 103, 0, [561, 562, 563, 44, 564])) (k := mi_X9_pay) (as := [.ref i, .int b0, .int b1, .int b2]) (rest := st) hm_L_law rfl vk_13_53 rfl hm_X9_pay (by decide) ⟨by show 3 ≤ _; simp only [List.length_cons]; omega, rfl, rfl⟩ hs hcl hc
set_option maxRecDepth 100000 in
theorem s_L_law_412 {xs : List Int32} {l0 l1 l3 : Option Value} {st : List Value} {h : HH} {x : Nat} : sm_run xs n_L_law 412 [l0, l1, some (.ref x), l3] st h = sm_run xs n_L_law 413 [l0, l1, some (.ref x), l3] (.ref x :: st) h := sx_pur (.aload_n 2) hm_L_law rfl rfl rfl rfl
set_option maxRecDepth 100000 in
theorem s_L_law_413 {xs : List Int32} {l1 l2 l3 : Option Value} {st : List Value} {h : HH} {x : Nat} : sm_run xs n_L_law 413 [some (.ref x), l1, l2, l3] st h = sm_run xs n_L_law 414 [some (.ref x), l1, l2, l3] (.ref x :: st) h := sx_pur (.aload_n 0) hm_L_law rfl rfl rfl rfl
set_option maxRecDepth 100000 in
theorem s_L_law_414 {xs : List Int32} {l0 l1 l2 : Option Value} {st : List Value} {h : HH} {x : Int32} : sm_run xs n_L_law 414 [l0, l1, l2, some (.int x)] st h = sm_run xs n_L_law 415 [l0, l1, l2, some (.int x)] (.int x :: st) h := sx_pur (.iload_n 3) hm_L_law rfl rfl rfl rfl
set_option maxRecDepth 100000 in
theorem s_L_law_415 {xs : List Int32} {l0 l1 l2 l3 : Option Value} {st : List Value} {h : HH} : sm_run xs n_L_law 415 [l0, l1, l2, l3] st h = sm_run xs n_L_law 416 [l0, l1, l2, l3] (.int 1 :: st) h := sx_pur (.iconst 1) hm_L_law rfl rfl rfl rfl
set_option maxRecDepth 100000 in
theorem s_L_law_416 {xs : List Int32} {l0 l1 l2 l3 : Option Value} {st : List Value} {h : HH} {x y : Int32} : sm_run xs n_L_law 416 [l0, l1, l2, l3] (.int y :: .int x :: st) h = sm_run xs n_L_law 417 [l0, l1, l2, l3] (.int (x + y) :: st) h := sx_pur (.iadd) hm_L_law rfl rfl rfl rfl
set_option maxRecDepth 100000 in
theorem s_L_law_417 {xs : List Int32} {l0 l1 l2 l3 : Option Value} {st : List Value} {h : HH} {j : Int32} (hh : h[sm_B + 9]? = none) (hin : sm_inr (some xs) j = true) : sm_run xs n_L_law 417 [l0, l1, l2, l3] (.int j :: .ref (sm_B + 9) :: st) h = sm_run xs n_L_law 418 [l0, l1, l2, l3] (.int (sm_el (some xs) j) :: st) h := sx_sald hm_L_law rfl hh hin
set_option maxRecDepth 100000 in
theorem s_L_law_418 {xs : List Int32} {l1 l2 l3 : Option Value} {st : List Value} {h : HH} {x : Nat} : sm_run xs n_L_law 418 [some (.ref x), l1, l2, l3] st h = sm_run xs n_L_law 419 [some (.ref x), l1, l2, l3] (.ref x :: st) h := sx_pur (.aload_n 0) hm_L_law rfl rfl rfl rfl
set_option maxRecDepth 100000 in
theorem s_L_law_419 {xs : List Int32} {l0 l1 l2 : Option Value} {st : List Value} {h : HH} {x : Int32} : sm_run xs n_L_law 419 [l0, l1, l2, some (.int x)] st h = sm_run xs n_L_law 420 [l0, l1, l2, some (.int x)] (.int x :: st) h := sx_pur (.iload_n 3) hm_L_law rfl rfl rfl rfl
set_option maxRecDepth 100000 in
theorem s_L_law_420 {xs : List Int32} {l0 l1 l2 l3 : Option Value} {st : List Value} {h : HH} : sm_run xs n_L_law 420 [l0, l1, l2, l3] st h = sm_run xs n_L_law 421 [l0, l1, l2, l3] (.int 2 :: st) h := sx_pur (.iconst 2) hm_L_law rfl rfl rfl rfl
set_option maxRecDepth 100000 in
theorem s_L_law_421 {xs : List Int32} {l0 l1 l2 l3 : Option Value} {st : List Value} {h : HH} {x y : Int32} : sm_run xs n_L_law 421 [l0, l1, l2, l3] (.int y :: .int x :: st) h = sm_run xs n_L_law 422 [l0, l1, l2, l3] (.int (x + y) :: st) h := sx_pur (.iadd) hm_L_law rfl rfl rfl rfl
set_option maxRecDepth 100000 in
theorem s_L_law_422 {xs : List Int32} {l0 l1 l2 l3 : Option Value} {st : List Value} {h : HH} {j : Int32} (hh : h[sm_B + 9]? = none) (hin : sm_inr (some xs) j = true) : sm_run xs n_L_law 422 [l0, l1, l2, l3] (.int j :: .ref (sm_B + 9) :: st) h = sm_run xs n_L_law 423 [l0, l1, l2, l3] (.int (sm_el (some xs) j) :: st) h := sx_sald hm_L_law rfl hh hin
set_option maxRecDepth 100000 in
theorem s_L_law_423 {xs : List Int32} {l1 l2 l3 : Option Value} {st : List Value} {h : HH} {x : Nat} : sm_run xs n_L_law 423 [some (.ref x), l1, l2, l3] st h = sm_run xs n_L_law 424 [some (.ref x), l1, l2, l3] (.ref x :: st) h := sx_pur (.aload_n 0) hm_L_law rfl rfl rfl rfl
set_option maxRecDepth 100000 in
theorem s_L_law_424 {xs : List Int32} {l0 l1 l2 : Option Value} {st : List Value} {h : HH} {x : Int32} : sm_run xs n_L_law 424 [l0, l1, l2, some (.int x)] st h = sm_run xs n_L_law 425 [l0, l1, l2, some (.int x)] (.int x :: st) h := sx_pur (.iload_n 3) hm_L_law rfl rfl rfl rfl
set_option maxRecDepth 100000 in
theorem s_L_law_425 {xs : List Int32} {l0 l1 l2 l3 : Option Value} {st : List Value} {h : HH} : sm_run xs n_L_law 425 [l0, l1, l2, l3] st h = sm_run xs n_L_law 426 [l0, l1, l2, l3] (.int 3 :: st) h := sx_pur (.iconst 3) hm_L_law rfl rfl rfl rfl
set_option maxRecDepth 100000 in
theorem s_L_law_426 {xs : List Int32} {l0 l1 l2 l3 : Option Value} {st : List Value} {h : HH} {x y : Int32} : sm_run xs n_L_law 426 [l0, l1, l2, l3] (.int y :: .int x :: st) h = sm_run xs n_L_law 427 [l0, l1, l2, l3] (.int (x + y) :: st) h := sx_pur (.iadd) hm_L_law rfl rfl rfl rfl
set_option maxRecDepth 100000 in
theorem s_L_law_427 {xs : List Int32} {l0 l1 l2 l3 : Option Value} {st : List Value} {h : HH} {j : Int32} (hh : h[sm_B + 9]? = none) (hin : sm_inr (some xs) j = true) : sm_run xs n_L_law 427 [l0, l1, l2, l3] (.int j :: .ref (sm_B + 9) :: st) h = sm_run xs n_L_law 428 [l0, l1, l2, l3] (.int (sm_el (some xs) j) :: st) h := sx_sald hm_L_law rfl hh hin
set_option maxRecDepth 100000 in
theorem s_L_law_428 {xs : List Int32} {l0 l1 l2 l3 : Option Value} {st : List Value} {h : HH} {i : Nat} {b0 : Int32} {b1 : Int32} {b2 : Int32} (hs : (st.map fun v => v.category).sum ≤ 8) (hcl : sm_cls h i = some 10) (hc : (sm_call xs n_X10_pay [.ref i, .int b0, .int b1, .int b2] h).isSome = true) : sm_run xs n_L_law 428 [l0, l1, l2, l3] (.int b2 :: .int b1 :: .int b0 :: .ref i :: st) h = sm_run xs n_L_law 431 [l0, l1, l2, l3] ((sm_rr (sm_call xs n_X10_pay [.ref i, .int b0, .int b1, .int b2] h)).toList ++ st) (sm_rh (sm_call xs n_X10_pay [.ref i, .int b0, .int b1, .int b2] h)) := sx_vrt (ci := 10) (en := (10, 104, 0, [929, 930, 931, 55, 932])) (k := mi_X10_pay) (as := [.ref i, .int b0, .int b1, .int b2]) (rest := st) hm_L_law rfl vk_13_56 rfl hm_X10_pay (by decide) ⟨by show 3 ≤ _; simp only [List.length_cons]; omega, rfl, rfl⟩ hs hcl hc
set_option maxRecDepth 100000 in
theorem s_L_law_431 {xs : List Int32} {l0 l1 l2 l3 : Option Value} {st : List Value} {h : HH} {x y : Int32} : sm_run xs n_L_law 431 [l0, l1, l2, l3] (.int y :: .int x :: st) h = if x = y then sm_run xs n_L_law 908 [l0, l1, l2, l3] st h else sm_run xs n_L_law 434 [l0, l1, l2, l3] st h := sx_icmp hm_L_law rfl rfl rfl
set_option maxRecDepth 100000 in
theorem s_L_law_434 {xs : List Int32} {l0 l1 l2 l3 : Option Value} {st : List Value} {h : HH} : sm_run xs n_L_law 434 [l0, l1, l2, l3] st h = sm_run xs n_L_law 435 [l0, l1, l2, l3] (.int 0 :: st) h := sx_pur (.iconst 0) hm_L_law rfl rfl rfl rfl
set_option maxRecDepth 100000 in
theorem s_L_law_435z0 {xs : List Int32} {l0 l1 l2 l3 : Option Value} {h : HH} : sm_run xs n_L_law 435 [l0, l1, l2, l3] [.int 0] h = some (some (.int 0), h) := sm_return hm_L_law rfl rfl
set_option maxRecDepth 100000 in
theorem s_L_law_435z1 {xs : List Int32} {l0 l1 l2 l3 : Option Value} {h : HH} : sm_run xs n_L_law 435 [l0, l1, l2, l3] [.int 1] h = some (some (.int 1), h) := sm_return hm_L_law rfl rfl
set_option maxRecDepth 100000 in
theorem s_L_law_436 {xs : List Int32} {l0 l2 l3 : Option Value} {st : List Value} {h : HH} {x : Nat} : sm_run xs n_L_law 436 [l0, some (.ref x), l2, l3] st h = sm_run xs n_L_law 437 [l0, some (.ref x), l2, l3] (.ref x :: st) h := sx_pur (.aload_n 1) hm_L_law rfl rfl rfl rfl
set_option maxRecDepth 100000 in
theorem s_L_law_437 {xs : List Int32} {l0 l1 l2 l3 : Option Value} {st : List Value} {h : HH} {i : Nat} (hs : (st.map fun v => v.category).sum ≤ 8) (hcl : sm_cls h i = some 9) (hc : (sm_call xs n_X9_undo [.ref i] h).isSome = true) : sm_run xs n_L_law 437 [l0, l1, l2, l3] (.ref i :: st) h = sm_run xs n_L_law 440 [l0, l1, l2, l3] ((sm_rr (sm_call xs n_X9_undo [.ref i] h)).toList ++ st) (sm_rh (sm_call xs n_X9_undo [.ref i] h)) := sx_vrt (ci := 9) (en := (9, 106, 0, [566, 567, 568, 44, 569])) (k := mi_X9_undo) (as := [.ref i]) (rest := st) hm_L_law rfl vk_13_57 rfl hm_X9_undo (by decide) ⟨by show 0 ≤ _; simp only [List.length_cons]; omega, rfl, rfl⟩ hs hcl hc
set_option maxRecDepth 100000 in
theorem s_L_law_440 {xs : List Int32} {l0 l1 l3 : Option Value} {st : List Value} {h : HH} {x : Nat} : sm_run xs n_L_law 440 [l0, l1, some (.ref x), l3] st h = sm_run xs n_L_law 441 [l0, l1, some (.ref x), l3] (.ref x :: st) h := sx_pur (.aload_n 2) hm_L_law rfl rfl rfl rfl
set_option maxRecDepth 100000 in
theorem s_L_law_441 {xs : List Int32} {l0 l1 l2 l3 : Option Value} {st : List Value} {h : HH} {i : Nat} (hs : (st.map fun v => v.category).sum ≤ 8) (hcl : sm_cls h i = some 10) (hc : (sm_call xs n_X10_undo [.ref i] h).isSome = true) : sm_run xs n_L_law 441 [l0, l1, l2, l3] (.ref i :: st) h = sm_run xs n_L_law 444 [l0, l1, l2, l3] ((sm_rr (sm_call xs n_X10_undo [.ref i] h)).toList ++ st) (sm_rh (sm_call xs n_X10_undo [.ref i] h)) := sx_vrt (ci := 10) (en := (10, 107, 0, [934, 935, 936, 55, 937])) (k := mi_X10_undo) (as := [.ref i]) (rest := st) hm_L_law rfl vk_13_60 rfl hm_X10_undo (by decide) ⟨by show 0 ≤ _; simp only [List.length_cons]; omega, rfl, rfl⟩ hs hcl hc
set_option maxRecDepth 100000 in
theorem s_L_law_444 {xs : List Int32} {l0 l1 l2 l3 : Option Value} {st : List Value} {h : HH} {x y : Int32} : sm_run xs n_L_law 444 [l0, l1, l2, l3] (.int y :: .int x :: st) h = if x = y then sm_run xs n_L_law 908 [l0, l1, l2, l3] st h else sm_run xs n_L_law 447 [l0, l1, l2, l3] st h := sx_icmp hm_L_law rfl rfl rfl
set_option maxRecDepth 100000 in
theorem s_L_law_447 {xs : List Int32} {l0 l1 l2 l3 : Option Value} {st : List Value} {h : HH} : sm_run xs n_L_law 447 [l0, l1, l2, l3] st h = sm_run xs n_L_law 448 [l0, l1, l2, l3] (.int 0 :: st) h := sx_pur (.iconst 0) hm_L_law rfl rfl rfl rfl
set_option maxRecDepth 100000 in
theorem s_L_law_448z0 {xs : List Int32} {l0 l1 l2 l3 : Option Value} {h : HH} : sm_run xs n_L_law 448 [l0, l1, l2, l3] [.int 0] h = some (some (.int 0), h) := sm_return hm_L_law rfl rfl
set_option maxRecDepth 100000 in
theorem s_L_law_448z1 {xs : List Int32} {l0 l1 l2 l3 : Option Value} {h : HH} : sm_run xs n_L_law 448 [l0, l1, l2, l3] [.int 1] h = some (some (.int 1), h) := sm_return hm_L_law rfl rfl
set_option maxRecDepth 100000 in
theorem s_L_law_449 {xs : List Int32} {l0 l2 l3 : Option Value} {st : List Value} {h : HH} {x : Nat} : sm_run xs n_L_law 449 [l0, some (.ref x), l2, l3] st h = sm_run xs n_L_law 450 [l0, some (.ref x), l2, l3] (.ref x :: st) h := sx_pur (.aload_n 1) hm_L_law rfl rfl rfl rfl
set_option maxRecDepth 100000 in
theorem s_L_law_450 {xs : List Int32} {l1 l2 l3 : Option Value} {st : List Value} {h : HH} {x : Nat} : sm_run xs n_L_law 450 [some (.ref x), l1, l2, l3] st h = sm_run xs n_L_law 451 [some (.ref x), l1, l2, l3] (.ref x :: st) h := sx_pur (.aload_n 0) hm_L_law rfl rfl rfl rfl
set_option maxRecDepth 100000 in
theorem s_L_law_451 {xs : List Int32} {l0 l1 l2 : Option Value} {st : List Value} {h : HH} {x : Int32} : sm_run xs n_L_law 451 [l0, l1, l2, some (.int x)] st h = sm_run xs n_L_law 452 [l0, l1, l2, some (.int x)] (.int x :: st) h := sx_pur (.iload_n 3) hm_L_law rfl rfl rfl rfl
set_option maxRecDepth 100000 in
theorem s_L_law_452 {xs : List Int32} {l0 l1 l2 l3 : Option Value} {st : List Value} {h : HH} : sm_run xs n_L_law 452 [l0, l1, l2, l3] st h = sm_run xs n_L_law 453 [l0, l1, l2, l3] (.int 1 :: st) h := sx_pur (.iconst 1) hm_L_law rfl rfl rfl rfl
set_option maxRecDepth 100000 in
theorem s_L_law_453 {xs : List Int32} {l0 l1 l2 l3 : Option Value} {st : List Value} {h : HH} {x y : Int32} : sm_run xs n_L_law 453 [l0, l1, l2, l3] (.int y :: .int x :: st) h = sm_run xs n_L_law 454 [l0, l1, l2, l3] (.int (x + y) :: st) h := sx_pur (.iadd) hm_L_law rfl rfl rfl rfl
set_option maxRecDepth 100000 in
theorem s_L_law_454 {xs : List Int32} {l0 l1 l2 l3 : Option Value} {st : List Value} {h : HH} {j : Int32} (hh : h[sm_B + 9]? = none) (hin : sm_inr (some xs) j = true) : sm_run xs n_L_law 454 [l0, l1, l2, l3] (.int j :: .ref (sm_B + 9) :: st) h = sm_run xs n_L_law 455 [l0, l1, l2, l3] (.int (sm_el (some xs) j) :: st) h := sx_sald hm_L_law rfl hh hin
set_option maxRecDepth 100000 in
theorem s_L_law_455 {xs : List Int32} {l0 l1 l2 l3 : Option Value} {st : List Value} {h : HH} {i : Nat} {b0 : Int32} (hs : (st.map fun v => v.category).sum ≤ 8) (hcl : sm_cls h i = some 9) (hc : (sm_call xs n_X9_keep [.ref i, .int b0] h).isSome = true) : sm_run xs n_L_law 455 [l0, l1, l2, l3] (.int b0 :: .ref i :: st) h = sm_run xs n_L_law 458 [l0, l1, l2, l3] ((sm_rr (sm_call xs n_X9_keep [.ref i, .int b0] h)).toList ++ st) (sm_rh (sm_call xs n_X9_keep [.ref i, .int b0] h)) := sx_vrt (ci := 9) (en := (9, 108, 0, [574, 575, 576, 44, 577])) (k := mi_X9_keep) (as := [.ref i, .int b0]) (rest := st) hm_L_law rfl vk_13_61 rfl hm_X9_keep (by decide) ⟨by show 1 ≤ _; simp only [List.length_cons]; omega, rfl, rfl⟩ hs hcl hc
set_option maxRecDepth 100000 in
theorem s_L_law_458 {xs : List Int32} {l0 l1 l3 : Option Value} {st : List Value} {h : HH} {x : Nat} : sm_run xs n_L_law 458 [l0, l1, some (.ref x), l3] st h = sm_run xs n_L_law 459 [l0, l1, some (.ref x), l3] (.ref x :: st) h := sx_pur (.aload_n 2) hm_L_law rfl rfl rfl rfl
set_option maxRecDepth 100000 in
theorem s_L_law_459 {xs : List Int32} {l1 l2 l3 : Option Value} {st : List Value} {h : HH} {x : Nat} : sm_run xs n_L_law 459 [some (.ref x), l1, l2, l3] st h = sm_run xs n_L_law 460 [some (.ref x), l1, l2, l3] (.ref x :: st) h := sx_pur (.aload_n 0) hm_L_law rfl rfl rfl rfl
set_option maxRecDepth 100000 in
theorem s_L_law_460 {xs : List Int32} {l0 l1 l2 : Option Value} {st : List Value} {h : HH} {x : Int32} : sm_run xs n_L_law 460 [l0, l1, l2, some (.int x)] st h = sm_run xs n_L_law 461 [l0, l1, l2, some (.int x)] (.int x :: st) h := sx_pur (.iload_n 3) hm_L_law rfl rfl rfl rfl
set_option maxRecDepth 100000 in
theorem s_L_law_461 {xs : List Int32} {l0 l1 l2 l3 : Option Value} {st : List Value} {h : HH} : sm_run xs n_L_law 461 [l0, l1, l2, l3] st h = sm_run xs n_L_law 462 [l0, l1, l2, l3] (.int 1 :: st) h := sx_pur (.iconst 1) hm_L_law rfl rfl rfl rfl
set_option maxRecDepth 100000 in
theorem s_L_law_462 {xs : List Int32} {l0 l1 l2 l3 : Option Value} {st : List Value} {h : HH} {x y : Int32} : sm_run xs n_L_law 462 [l0, l1, l2, l3] (.int y :: .int x :: st) h = sm_run xs n_L_law 463 [l0, l1, l2, l3] (.int (x + y) :: st) h := sx_pur (.iadd) hm_L_law rfl rfl rfl rfl
set_option maxRecDepth 100000 in
theorem s_L_law_463 {xs : List Int32} {l0 l1 l2 l3 : Option Value} {st : List Value} {h : HH} {j : Int32} (hh : h[sm_B + 9]? = none) (hin : sm_inr (some xs) j = true) : sm_run xs n_L_law 463 [l0, l1, l2, l3] (.int j :: .ref (sm_B + 9) :: st) h = sm_run xs n_L_law 464 [l0, l1, l2, l3] (.int (sm_el (some xs) j) :: st) h := sx_sald hm_L_law rfl hh hin
set_option maxRecDepth 100000 in
theorem s_L_law_464 {xs : List Int32} {l0 l1 l2 l3 : Option Value} {st : List Value} {h : HH} {i : Nat} {b0 : Int32} (hs : (st.map fun v => v.category).sum ≤ 8) (hcl : sm_cls h i = some 10) (hc : (sm_call xs n_X10_keep [.ref i, .int b0] h).isSome = true) : sm_run xs n_L_law 464 [l0, l1, l2, l3] (.int b0 :: .ref i :: st) h = sm_run xs n_L_law 467 [l0, l1, l2, l3] ((sm_rr (sm_call xs n_X10_keep [.ref i, .int b0] h)).toList ++ st) (sm_rh (sm_call xs n_X10_keep [.ref i, .int b0] h)) := sx_vrt (ci := 10) (en := (10, 109, 0, [938, 939, 940, 55, 941])) (k := mi_X10_keep) (as := [.ref i, .int b0]) (rest := st) hm_L_law rfl vk_13_64 rfl hm_X10_keep (by decide) ⟨by show 1 ≤ _; simp only [List.length_cons]; omega, rfl, rfl⟩ hs hcl hc
set_option maxRecDepth 100000 in
theorem s_L_law_467 {xs : List Int32} {l0 l1 l2 l3 : Option Value} {st : List Value} {h : HH} {x y : Int32} : sm_run xs n_L_law 467 [l0, l1, l2, l3] (.int y :: .int x :: st) h = if x = y then sm_run xs n_L_law 908 [l0, l1, l2, l3] st h else sm_run xs n_L_law 470 [l0, l1, l2, l3] st h := sx_icmp hm_L_law rfl rfl rfl
set_option maxRecDepth 100000 in
theorem s_L_law_470 {xs : List Int32} {l0 l1 l2 l3 : Option Value} {st : List Value} {h : HH} : sm_run xs n_L_law 470 [l0, l1, l2, l3] st h = sm_run xs n_L_law 471 [l0, l1, l2, l3] (.int 0 :: st) h := sx_pur (.iconst 0) hm_L_law rfl rfl rfl rfl
set_option maxRecDepth 100000 in
theorem s_L_law_471z0 {xs : List Int32} {l0 l1 l2 l3 : Option Value} {h : HH} : sm_run xs n_L_law 471 [l0, l1, l2, l3] [.int 0] h = some (some (.int 0), h) := sm_return hm_L_law rfl rfl
set_option maxRecDepth 100000 in
theorem s_L_law_471z1 {xs : List Int32} {l0 l1 l2 l3 : Option Value} {h : HH} : sm_run xs n_L_law 471 [l0, l1, l2, l3] [.int 1] h = some (some (.int 1), h) := sm_return hm_L_law rfl rfl
set_option maxRecDepth 100000 in
theorem s_L_law_472 {xs : List Int32} {l0 l2 l3 : Option Value} {st : List Value} {h : HH} {x : Nat} : sm_run xs n_L_law 472 [l0, some (.ref x), l2, l3] st h = sm_run xs n_L_law 473 [l0, some (.ref x), l2, l3] (.ref x :: st) h := sx_pur (.aload_n 1) hm_L_law rfl rfl rfl rfl
set_option maxRecDepth 100000 in
theorem s_L_law_473 {xs : List Int32} {l1 l2 l3 : Option Value} {st : List Value} {h : HH} {x : Nat} : sm_run xs n_L_law 473 [some (.ref x), l1, l2, l3] st h = sm_run xs n_L_law 474 [some (.ref x), l1, l2, l3] (.ref x :: st) h := sx_pur (.aload_n 0) hm_L_law rfl rfl rfl rfl
set_option maxRecDepth 100000 in
theorem s_L_law_474 {xs : List Int32} {l0 l1 l2 : Option Value} {st : List Value} {h : HH} {x : Int32} : sm_run xs n_L_law 474 [l0, l1, l2, some (.int x)] st h = sm_run xs n_L_law 475 [l0, l1, l2, some (.int x)] (.int x :: st) h := sx_pur (.iload_n 3) hm_L_law rfl rfl rfl rfl
set_option maxRecDepth 100000 in
theorem s_L_law_475 {xs : List Int32} {l0 l1 l2 l3 : Option Value} {st : List Value} {h : HH} : sm_run xs n_L_law 475 [l0, l1, l2, l3] st h = sm_run xs n_L_law 476 [l0, l1, l2, l3] (.int 1 :: st) h := sx_pur (.iconst 1) hm_L_law rfl rfl rfl rfl
set_option maxRecDepth 100000 in
theorem s_L_law_476 {xs : List Int32} {l0 l1 l2 l3 : Option Value} {st : List Value} {h : HH} {x y : Int32} : sm_run xs n_L_law 476 [l0, l1, l2, l3] (.int y :: .int x :: st) h = sm_run xs n_L_law 477 [l0, l1, l2, l3] (.int (x + y) :: st) h := sx_pur (.iadd) hm_L_law rfl rfl rfl rfl
set_option maxRecDepth 100000 in
theorem s_L_law_477 {xs : List Int32} {l0 l1 l2 l3 : Option Value} {st : List Value} {h : HH} {j : Int32} (hh : h[sm_B + 9]? = none) (hin : sm_inr (some xs) j = true) : sm_run xs n_L_law 477 [l0, l1, l2, l3] (.int j :: .ref (sm_B + 9) :: st) h = sm_run xs n_L_law 478 [l0, l1, l2, l3] (.int (sm_el (some xs) j) :: st) h := sx_sald hm_L_law rfl hh hin
set_option maxRecDepth 100000 in
theorem s_L_law_478 {xs : List Int32} {l0 l1 l2 l3 : Option Value} {st : List Value} {h : HH} {i : Nat} {b0 : Int32} (hs : (st.map fun v => v.category).sum ≤ 8) (hcl : sm_cls h i = some 9) (hc : (sm_call xs n_X9_back [.ref i, .int b0] h).isSome = true) : sm_run xs n_L_law 478 [l0, l1, l2, l3] (.int b0 :: .ref i :: st) h = sm_run xs n_L_law 481 [l0, l1, l2, l3] ((sm_rr (sm_call xs n_X9_back [.ref i, .int b0] h)).toList ++ st) (sm_rh (sm_call xs n_X9_back [.ref i, .int b0] h)) := sx_vrt (ci := 9) (en := (9, 110, 0, [578, 579, 580, 44, 581])) (k := mi_X9_back) (as := [.ref i, .int b0]) (rest := st) hm_L_law rfl vk_13_65 rfl hm_X9_back (by decide) ⟨by show 1 ≤ _; simp only [List.length_cons]; omega, rfl, rfl⟩ hs hcl hc
set_option maxRecDepth 100000 in
theorem s_L_law_481 {xs : List Int32} {l0 l1 l3 : Option Value} {st : List Value} {h : HH} {x : Nat} : sm_run xs n_L_law 481 [l0, l1, some (.ref x), l3] st h = sm_run xs n_L_law 482 [l0, l1, some (.ref x), l3] (.ref x :: st) h := sx_pur (.aload_n 2) hm_L_law rfl rfl rfl rfl
set_option maxRecDepth 100000 in
theorem s_L_law_482 {xs : List Int32} {l1 l2 l3 : Option Value} {st : List Value} {h : HH} {x : Nat} : sm_run xs n_L_law 482 [some (.ref x), l1, l2, l3] st h = sm_run xs n_L_law 483 [some (.ref x), l1, l2, l3] (.ref x :: st) h := sx_pur (.aload_n 0) hm_L_law rfl rfl rfl rfl
set_option maxRecDepth 100000 in
theorem s_L_law_483 {xs : List Int32} {l0 l1 l2 : Option Value} {st : List Value} {h : HH} {x : Int32} : sm_run xs n_L_law 483 [l0, l1, l2, some (.int x)] st h = sm_run xs n_L_law 484 [l0, l1, l2, some (.int x)] (.int x :: st) h := sx_pur (.iload_n 3) hm_L_law rfl rfl rfl rfl
set_option maxRecDepth 100000 in
theorem s_L_law_484 {xs : List Int32} {l0 l1 l2 l3 : Option Value} {st : List Value} {h : HH} : sm_run xs n_L_law 484 [l0, l1, l2, l3] st h = sm_run xs n_L_law 485 [l0, l1, l2, l3] (.int 1 :: st) h := sx_pur (.iconst 1) hm_L_law rfl rfl rfl rfl
set_option maxRecDepth 100000 in
theorem s_L_law_485 {xs : List Int32} {l0 l1 l2 l3 : Option Value} {st : List Value} {h : HH} {x y : Int32} : sm_run xs n_L_law 485 [l0, l1, l2, l3] (.int y :: .int x :: st) h = sm_run xs n_L_law 486 [l0, l1, l2, l3] (.int (x + y) :: st) h := sx_pur (.iadd) hm_L_law rfl rfl rfl rfl
set_option maxRecDepth 100000 in
theorem s_L_law_486 {xs : List Int32} {l0 l1 l2 l3 : Option Value} {st : List Value} {h : HH} {j : Int32} (hh : h[sm_B + 9]? = none) (hin : sm_inr (some xs) j = true) : sm_run xs n_L_law 486 [l0, l1, l2, l3] (.int j :: .ref (sm_B + 9) :: st) h = sm_run xs n_L_law 487 [l0, l1, l2, l3] (.int (sm_el (some xs) j) :: st) h := sx_sald hm_L_law rfl hh hin
set_option maxRecDepth 100000 in
theorem s_L_law_487 {xs : List Int32} {l0 l1 l2 l3 : Option Value} {st : List Value} {h : HH} {i : Nat} {b0 : Int32} (hs : (st.map fun v => v.category).sum ≤ 8) (hcl : sm_cls h i = some 10) (hc : (sm_call xs n_X10_back [.ref i, .int b0] h).isSome = true) : sm_run xs n_L_law 487 [l0, l1, l2, l3] (.int b0 :: .ref i :: st) h = sm_run xs n_L_law 490 [l0, l1, l2, l3] ((sm_rr (sm_call xs n_X10_back [.ref i, .int b0] h)).toList ++ st) (sm_rh (sm_call xs n_X10_back [.ref i, .int b0] h)) := sx_vrt (ci := 10) (en := (10, 111, 0, [942, 943, 944, 55, 945])) (k := mi_X10_back) (as := [.ref i, .int b0]) (rest := st) hm_L_law rfl vk_13_68 rfl hm_X10_back (by decide) ⟨by show 1 ≤ _; simp only [List.length_cons]; omega, rfl, rfl⟩ hs hcl hc
set_option maxRecDepth 100000 in
theorem s_L_law_490 {xs : List Int32} {l0 l1 l2 l3 : Option Value} {st : List Value} {h : HH} {x y : Int32} : sm_run xs n_L_law 490 [l0, l1, l2, l3] (.int y :: .int x :: st) h = if x = y then sm_run xs n_L_law 908 [l0, l1, l2, l3] st h else sm_run xs n_L_law 493 [l0, l1, l2, l3] st h := sx_icmp hm_L_law rfl rfl rfl
set_option maxRecDepth 100000 in
theorem s_L_law_493 {xs : List Int32} {l0 l1 l2 l3 : Option Value} {st : List Value} {h : HH} : sm_run xs n_L_law 493 [l0, l1, l2, l3] st h = sm_run xs n_L_law 494 [l0, l1, l2, l3] (.int 0 :: st) h := sx_pur (.iconst 0) hm_L_law rfl rfl rfl rfl
set_option maxRecDepth 100000 in
theorem s_L_law_494z0 {xs : List Int32} {l0 l1 l2 l3 : Option Value} {h : HH} : sm_run xs n_L_law 494 [l0, l1, l2, l3] [.int 0] h = some (some (.int 0), h) := sm_return hm_L_law rfl rfl
set_option maxRecDepth 100000 in
theorem s_L_law_494z1 {xs : List Int32} {l0 l1 l2 l3 : Option Value} {h : HH} : sm_run xs n_L_law 494 [l0, l1, l2, l3] [.int 1] h = some (some (.int 1), h) := sm_return hm_L_law rfl rfl
set_option maxRecDepth 100000 in
theorem s_L_law_495 {xs : List Int32} {l0 l2 l3 : Option Value} {st : List Value} {h : HH} {x : Nat} : sm_run xs n_L_law 495 [l0, some (.ref x), l2, l3] st h = sm_run xs n_L_law 496 [l0, some (.ref x), l2, l3] (.ref x :: st) h := sx_pur (.aload_n 1) hm_L_law rfl rfl rfl rfl
set_option maxRecDepth 100000 in
theorem s_L_law_496 {xs : List Int32} {l1 l2 l3 : Option Value} {st : List Value} {h : HH} {x : Nat} : sm_run xs n_L_law 496 [some (.ref x), l1, l2, l3] st h = sm_run xs n_L_law 497 [some (.ref x), l1, l2, l3] (.ref x :: st) h := sx_pur (.aload_n 0) hm_L_law rfl rfl rfl rfl
set_option maxRecDepth 100000 in
theorem s_L_law_497 {xs : List Int32} {l0 l1 l2 : Option Value} {st : List Value} {h : HH} {x : Int32} : sm_run xs n_L_law 497 [l0, l1, l2, some (.int x)] st h = sm_run xs n_L_law 498 [l0, l1, l2, some (.int x)] (.int x :: st) h := sx_pur (.iload_n 3) hm_L_law rfl rfl rfl rfl
set_option maxRecDepth 100000 in
theorem s_L_law_498 {xs : List Int32} {l0 l1 l2 l3 : Option Value} {st : List Value} {h : HH} : sm_run xs n_L_law 498 [l0, l1, l2, l3] st h = sm_run xs n_L_law 499 [l0, l1, l2, l3] (.int 1 :: st) h := sx_pur (.iconst 1) hm_L_law rfl rfl rfl rfl
set_option maxRecDepth 100000 in
theorem s_L_law_499 {xs : List Int32} {l0 l1 l2 l3 : Option Value} {st : List Value} {h : HH} {x y : Int32} : sm_run xs n_L_law 499 [l0, l1, l2, l3] (.int y :: .int x :: st) h = sm_run xs n_L_law 500 [l0, l1, l2, l3] (.int (x + y) :: st) h := sx_pur (.iadd) hm_L_law rfl rfl rfl rfl
set_option maxRecDepth 100000 in
theorem s_L_law_500 {xs : List Int32} {l0 l1 l2 l3 : Option Value} {st : List Value} {h : HH} {j : Int32} (hh : h[sm_B + 9]? = none) (hin : sm_inr (some xs) j = true) : sm_run xs n_L_law 500 [l0, l1, l2, l3] (.int j :: .ref (sm_B + 9) :: st) h = sm_run xs n_L_law 501 [l0, l1, l2, l3] (.int (sm_el (some xs) j) :: st) h := sx_sald hm_L_law rfl hh hin
set_option maxRecDepth 100000 in
theorem s_L_law_501 {xs : List Int32} {l1 l2 l3 : Option Value} {st : List Value} {h : HH} {x : Nat} : sm_run xs n_L_law 501 [some (.ref x), l1, l2, l3] st h = sm_run xs n_L_law 502 [some (.ref x), l1, l2, l3] (.ref x :: st) h := sx_pur (.aload_n 0) hm_L_law rfl rfl rfl rfl
set_option maxRecDepth 100000 in
theorem s_L_law_502 {xs : List Int32} {l0 l1 l2 : Option Value} {st : List Value} {h : HH} {x : Int32} : sm_run xs n_L_law 502 [l0, l1, l2, some (.int x)] st h = sm_run xs n_L_law 503 [l0, l1, l2, some (.int x)] (.int x :: st) h := sx_pur (.iload_n 3) hm_L_law rfl rfl rfl rfl
set_option maxRecDepth 100000 in
theorem s_L_law_503 {xs : List Int32} {l0 l1 l2 l3 : Option Value} {st : List Value} {h : HH} : sm_run xs n_L_law 503 [l0, l1, l2, l3] st h = sm_run xs n_L_law 504 [l0, l1, l2, l3] (.int 2 :: st) h := sx_pur (.iconst 2) hm_L_law rfl rfl rfl rfl
set_option maxRecDepth 100000 in
theorem s_L_law_504 {xs : List Int32} {l0 l1 l2 l3 : Option Value} {st : List Value} {h : HH} {x y : Int32} : sm_run xs n_L_law 504 [l0, l1, l2, l3] (.int y :: .int x :: st) h = sm_run xs n_L_law 505 [l0, l1, l2, l3] (.int (x + y) :: st) h := sx_pur (.iadd) hm_L_law rfl rfl rfl rfl
set_option maxRecDepth 100000 in
theorem s_L_law_505 {xs : List Int32} {l0 l1 l2 l3 : Option Value} {st : List Value} {h : HH} {j : Int32} (hh : h[sm_B + 9]? = none) (hin : sm_inr (some xs) j = true) : sm_run xs n_L_law 505 [l0, l1, l2, l3] (.int j :: .ref (sm_B + 9) :: st) h = sm_run xs n_L_law 506 [l0, l1, l2, l3] (.int (sm_el (some xs) j) :: st) h := sx_sald hm_L_law rfl hh hin
set_option maxRecDepth 100000 in
theorem s_L_law_506 {xs : List Int32} {l0 l1 l2 l3 : Option Value} {st : List Value} {h : HH} {i : Nat} {b0 : Int32} {b1 : Int32} (hs : (st.map fun v => v.category).sum ≤ 8) (hcl : sm_cls h i = some 9) (hc : (sm_call xs n_X9_stop [.ref i, .int b0, .int b1] h).isSome = true) : sm_run xs n_L_law 506 [l0, l1, l2, l3] (.int b1 :: .int b0 :: .ref i :: st) h = sm_run xs n_L_law 509 [l0, l1, l2, l3] ((sm_rr (sm_call xs n_X9_stop [.ref i, .int b0, .int b1] h)).toList ++ st) (sm_rh (sm_call xs n_X9_stop [.ref i, .int b0, .int b1] h)) := sx_vrt (ci := 9) (en := (9, 113, 0, [582, 583, 584, 44, 585])) (k := mi_X9_stop) (as := [.ref i, .int b0, .int b1]) (rest := st) hm_L_law rfl vk_13_69 rfl hm_X9_stop (by decide) ⟨by show 2 ≤ _; simp only [List.length_cons]; omega, rfl, rfl⟩ hs hcl hc
set_option maxRecDepth 100000 in
theorem s_L_law_509 {xs : List Int32} {l0 l1 l3 : Option Value} {st : List Value} {h : HH} {x : Nat} : sm_run xs n_L_law 509 [l0, l1, some (.ref x), l3] st h = sm_run xs n_L_law 510 [l0, l1, some (.ref x), l3] (.ref x :: st) h := sx_pur (.aload_n 2) hm_L_law rfl rfl rfl rfl
set_option maxRecDepth 100000 in
theorem s_L_law_510 {xs : List Int32} {l1 l2 l3 : Option Value} {st : List Value} {h : HH} {x : Nat} : sm_run xs n_L_law 510 [some (.ref x), l1, l2, l3] st h = sm_run xs n_L_law 511 [some (.ref x), l1, l2, l3] (.ref x :: st) h := sx_pur (.aload_n 0) hm_L_law rfl rfl rfl rfl
set_option maxRecDepth 100000 in
theorem s_L_law_511 {xs : List Int32} {l0 l1 l2 : Option Value} {st : List Value} {h : HH} {x : Int32} : sm_run xs n_L_law 511 [l0, l1, l2, some (.int x)] st h = sm_run xs n_L_law 512 [l0, l1, l2, some (.int x)] (.int x :: st) h := sx_pur (.iload_n 3) hm_L_law rfl rfl rfl rfl
set_option maxRecDepth 100000 in
theorem s_L_law_512 {xs : List Int32} {l0 l1 l2 l3 : Option Value} {st : List Value} {h : HH} : sm_run xs n_L_law 512 [l0, l1, l2, l3] st h = sm_run xs n_L_law 513 [l0, l1, l2, l3] (.int 1 :: st) h := sx_pur (.iconst 1) hm_L_law rfl rfl rfl rfl
set_option maxRecDepth 100000 in
theorem s_L_law_513 {xs : List Int32} {l0 l1 l2 l3 : Option Value} {st : List Value} {h : HH} {x y : Int32} : sm_run xs n_L_law 513 [l0, l1, l2, l3] (.int y :: .int x :: st) h = sm_run xs n_L_law 514 [l0, l1, l2, l3] (.int (x + y) :: st) h := sx_pur (.iadd) hm_L_law rfl rfl rfl rfl
set_option maxRecDepth 100000 in
theorem s_L_law_514 {xs : List Int32} {l0 l1 l2 l3 : Option Value} {st : List Value} {h : HH} {j : Int32} (hh : h[sm_B + 9]? = none) (hin : sm_inr (some xs) j = true) : sm_run xs n_L_law 514 [l0, l1, l2, l3] (.int j :: .ref (sm_B + 9) :: st) h = sm_run xs n_L_law 515 [l0, l1, l2, l3] (.int (sm_el (some xs) j) :: st) h := sx_sald hm_L_law rfl hh hin
set_option maxRecDepth 100000 in
theorem s_L_law_515 {xs : List Int32} {l1 l2 l3 : Option Value} {st : List Value} {h : HH} {x : Nat} : sm_run xs n_L_law 515 [some (.ref x), l1, l2, l3] st h = sm_run xs n_L_law 516 [some (.ref x), l1, l2, l3] (.ref x :: st) h := sx_pur (.aload_n 0) hm_L_law rfl rfl rfl rfl
set_option maxRecDepth 100000 in
theorem s_L_law_516 {xs : List Int32} {l0 l1 l2 : Option Value} {st : List Value} {h : HH} {x : Int32} : sm_run xs n_L_law 516 [l0, l1, l2, some (.int x)] st h = sm_run xs n_L_law 517 [l0, l1, l2, some (.int x)] (.int x :: st) h := sx_pur (.iload_n 3) hm_L_law rfl rfl rfl rfl
set_option maxRecDepth 100000 in
theorem s_L_law_517 {xs : List Int32} {l0 l1 l2 l3 : Option Value} {st : List Value} {h : HH} : sm_run xs n_L_law 517 [l0, l1, l2, l3] st h = sm_run xs n_L_law 518 [l0, l1, l2, l3] (.int 2 :: st) h := sx_pur (.iconst 2) hm_L_law rfl rfl rfl rfl
set_option maxRecDepth 100000 in
theorem s_L_law_518 {xs : List Int32} {l0 l1 l2 l3 : Option Value} {st : List Value} {h : HH} {x y : Int32} : sm_run xs n_L_law 518 [l0, l1, l2, l3] (.int y :: .int x :: st) h = sm_run xs n_L_law 519 [l0, l1, l2, l3] (.int (x + y) :: st) h := sx_pur (.iadd) hm_L_law rfl rfl rfl rfl
set_option maxRecDepth 100000 in
theorem s_L_law_519 {xs : List Int32} {l0 l1 l2 l3 : Option Value} {st : List Value} {h : HH} {j : Int32} (hh : h[sm_B + 9]? = none) (hin : sm_inr (some xs) j = true) : sm_run xs n_L_law 519 [l0, l1, l2, l3] (.int j :: .ref (sm_B + 9) :: st) h = sm_run xs n_L_law 520 [l0, l1, l2, l3] (.int (sm_el (some xs) j) :: st) h := sx_sald hm_L_law rfl hh hin
set_option maxRecDepth 100000 in
theorem s_L_law_520 {xs : List Int32} {l0 l1 l2 l3 : Option Value} {st : List Value} {h : HH} {i : Nat} {b0 : Int32} {b1 : Int32} (hs : (st.map fun v => v.category).sum ≤ 8) (hcl : sm_cls h i = some 10) (hc : (sm_call xs n_X10_stop [.ref i, .int b0, .int b1] h).isSome = true) : sm_run xs n_L_law 520 [l0, l1, l2, l3] (.int b1 :: .int b0 :: .ref i :: st) h = sm_run xs n_L_law 523 [l0, l1, l2, l3] ((sm_rr (sm_call xs n_X10_stop [.ref i, .int b0, .int b1] h)).toList ++ st) (sm_rh (sm_call xs n_X10_stop [.ref i, .int b0, .int b1] h)) := sx_vrt (ci := 10) (en := (10, 114, 0, [946, 947, 948, 55, 949])) (k := mi_X10_stop) (as := [.ref i, .int b0, .int b1]) (rest := st) hm_L_law rfl vk_13_72 rfl hm_X10_stop (by decide) ⟨by show 2 ≤ _; simp only [List.length_cons]; omega, rfl, rfl⟩ hs hcl hc
set_option maxRecDepth 100000 in
theorem s_L_law_523 {xs : List Int32} {l0 l1 l2 l3 : Option Value} {st : List Value} {h : HH} {x y : Int32} : sm_run xs n_L_law 523 [l0, l1, l2, l3] (.int y :: .int x :: st) h = if x = y then sm_run xs n_L_law 908 [l0, l1, l2, l3] st h else sm_run xs n_L_law 526 [l0, l1, l2, l3] st h := sx_icmp hm_L_law rfl rfl rfl
set_option maxRecDepth 100000 in
theorem s_L_law_526 {xs : List Int32} {l0 l1 l2 l3 : Option Value} {st : List Value} {h : HH} : sm_run xs n_L_law 526 [l0, l1, l2, l3] st h = sm_run xs n_L_law 527 [l0, l1, l2, l3] (.int 0 :: st) h := sx_pur (.iconst 0) hm_L_law rfl rfl rfl rfl
set_option maxRecDepth 100000 in
theorem s_L_law_527z0 {xs : List Int32} {l0 l1 l2 l3 : Option Value} {h : HH} : sm_run xs n_L_law 527 [l0, l1, l2, l3] [.int 0] h = some (some (.int 0), h) := sm_return hm_L_law rfl rfl
set_option maxRecDepth 100000 in
theorem s_L_law_527z1 {xs : List Int32} {l0 l1 l2 l3 : Option Value} {h : HH} : sm_run xs n_L_law 527 [l0, l1, l2, l3] [.int 1] h = some (some (.int 1), h) := sm_return hm_L_law rfl rfl
set_option maxRecDepth 100000 in
theorem s_L_law_528 {xs : List Int32} {l0 l2 l3 : Option Value} {st : List Value} {h : HH} {x : Nat} : sm_run xs n_L_law 528 [l0, some (.ref x), l2, l3] st h = sm_run xs n_L_law 529 [l0, some (.ref x), l2, l3] (.ref x :: st) h := sx_pur (.aload_n 1) hm_L_law rfl rfl rfl rfl
set_option maxRecDepth 100000 in
theorem s_L_law_529 {xs : List Int32} {l1 l2 l3 : Option Value} {st : List Value} {h : HH} {x : Nat} : sm_run xs n_L_law 529 [some (.ref x), l1, l2, l3] st h = sm_run xs n_L_law 530 [some (.ref x), l1, l2, l3] (.ref x :: st) h := sx_pur (.aload_n 0) hm_L_law rfl rfl rfl rfl
set_option maxRecDepth 100000 in
theorem s_L_law_530 {xs : List Int32} {l0 l1 l2 : Option Value} {st : List Value} {h : HH} {x : Int32} : sm_run xs n_L_law 530 [l0, l1, l2, some (.int x)] st h = sm_run xs n_L_law 531 [l0, l1, l2, some (.int x)] (.int x :: st) h := sx_pur (.iload_n 3) hm_L_law rfl rfl rfl rfl
set_option maxRecDepth 100000 in
theorem s_L_law_531 {xs : List Int32} {l0 l1 l2 l3 : Option Value} {st : List Value} {h : HH} : sm_run xs n_L_law 531 [l0, l1, l2, l3] st h = sm_run xs n_L_law 532 [l0, l1, l2, l3] (.int 1 :: st) h := sx_pur (.iconst 1) hm_L_law rfl rfl rfl rfl
set_option maxRecDepth 100000 in
theorem s_L_law_532 {xs : List Int32} {l0 l1 l2 l3 : Option Value} {st : List Value} {h : HH} {x y : Int32} : sm_run xs n_L_law 532 [l0, l1, l2, l3] (.int y :: .int x :: st) h = sm_run xs n_L_law 533 [l0, l1, l2, l3] (.int (x + y) :: st) h := sx_pur (.iadd) hm_L_law rfl rfl rfl rfl
set_option maxRecDepth 100000 in
theorem s_L_law_533 {xs : List Int32} {l0 l1 l2 l3 : Option Value} {st : List Value} {h : HH} {j : Int32} (hh : h[sm_B + 9]? = none) (hin : sm_inr (some xs) j = true) : sm_run xs n_L_law 533 [l0, l1, l2, l3] (.int j :: .ref (sm_B + 9) :: st) h = sm_run xs n_L_law 534 [l0, l1, l2, l3] (.int (sm_el (some xs) j) :: st) h := sx_sald hm_L_law rfl hh hin
set_option maxRecDepth 100000 in
theorem s_L_law_534 {xs : List Int32} {l1 l2 l3 : Option Value} {st : List Value} {h : HH} {x : Nat} : sm_run xs n_L_law 534 [some (.ref x), l1, l2, l3] st h = sm_run xs n_L_law 535 [some (.ref x), l1, l2, l3] (.ref x :: st) h := sx_pur (.aload_n 0) hm_L_law rfl rfl rfl rfl
set_option maxRecDepth 100000 in
theorem s_L_law_535 {xs : List Int32} {l0 l1 l2 : Option Value} {st : List Value} {h : HH} {x : Int32} : sm_run xs n_L_law 535 [l0, l1, l2, some (.int x)] st h = sm_run xs n_L_law 536 [l0, l1, l2, some (.int x)] (.int x :: st) h := sx_pur (.iload_n 3) hm_L_law rfl rfl rfl rfl
set_option maxRecDepth 100000 in
theorem s_L_law_536 {xs : List Int32} {l0 l1 l2 l3 : Option Value} {st : List Value} {h : HH} : sm_run xs n_L_law 536 [l0, l1, l2, l3] st h = sm_run xs n_L_law 537 [l0, l1, l2, l3] (.int 2 :: st) h := sx_pur (.iconst 2) hm_L_law rfl rfl rfl rfl
set_option maxRecDepth 100000 in
theorem s_L_law_537 {xs : List Int32} {l0 l1 l2 l3 : Option Value} {st : List Value} {h : HH} {x y : Int32} : sm_run xs n_L_law 537 [l0, l1, l2, l3] (.int y :: .int x :: st) h = sm_run xs n_L_law 538 [l0, l1, l2, l3] (.int (x + y) :: st) h := sx_pur (.iadd) hm_L_law rfl rfl rfl rfl
set_option maxRecDepth 100000 in
theorem s_L_law_538 {xs : List Int32} {l0 l1 l2 l3 : Option Value} {st : List Value} {h : HH} {j : Int32} (hh : h[sm_B + 9]? = none) (hin : sm_inr (some xs) j = true) : sm_run xs n_L_law 538 [l0, l1, l2, l3] (.int j :: .ref (sm_B + 9) :: st) h = sm_run xs n_L_law 539 [l0, l1, l2, l3] (.int (sm_el (some xs) j) :: st) h := sx_sald hm_L_law rfl hh hin
set_option maxRecDepth 100000 in
theorem s_L_law_539 {xs : List Int32} {l1 l2 l3 : Option Value} {st : List Value} {h : HH} {x : Nat} : sm_run xs n_L_law 539 [some (.ref x), l1, l2, l3] st h = sm_run xs n_L_law 540 [some (.ref x), l1, l2, l3] (.ref x :: st) h := sx_pur (.aload_n 0) hm_L_law rfl rfl rfl rfl
set_option maxRecDepth 100000 in
theorem s_L_law_540 {xs : List Int32} {l0 l1 l2 : Option Value} {st : List Value} {h : HH} {x : Int32} : sm_run xs n_L_law 540 [l0, l1, l2, some (.int x)] st h = sm_run xs n_L_law 541 [l0, l1, l2, some (.int x)] (.int x :: st) h := sx_pur (.iload_n 3) hm_L_law rfl rfl rfl rfl
set_option maxRecDepth 100000 in
theorem s_L_law_541 {xs : List Int32} {l0 l1 l2 l3 : Option Value} {st : List Value} {h : HH} : sm_run xs n_L_law 541 [l0, l1, l2, l3] st h = sm_run xs n_L_law 542 [l0, l1, l2, l3] (.int 3 :: st) h := sx_pur (.iconst 3) hm_L_law rfl rfl rfl rfl
set_option maxRecDepth 100000 in
theorem s_L_law_542 {xs : List Int32} {l0 l1 l2 l3 : Option Value} {st : List Value} {h : HH} {x y : Int32} : sm_run xs n_L_law 542 [l0, l1, l2, l3] (.int y :: .int x :: st) h = sm_run xs n_L_law 543 [l0, l1, l2, l3] (.int (x + y) :: st) h := sx_pur (.iadd) hm_L_law rfl rfl rfl rfl
set_option maxRecDepth 100000 in
theorem s_L_law_543 {xs : List Int32} {l0 l1 l2 l3 : Option Value} {st : List Value} {h : HH} {j : Int32} (hh : h[sm_B + 9]? = none) (hin : sm_inr (some xs) j = true) : sm_run xs n_L_law 543 [l0, l1, l2, l3] (.int j :: .ref (sm_B + 9) :: st) h = sm_run xs n_L_law 544 [l0, l1, l2, l3] (.int (sm_el (some xs) j) :: st) h := sx_sald hm_L_law rfl hh hin
set_option maxRecDepth 100000 in
theorem s_L_law_544 {xs : List Int32} {l0 l1 l2 l3 : Option Value} {st : List Value} {h : HH} {i : Nat} {b0 : Int32} {b1 : Int32} {b2 : Int32} (hs : (st.map fun v => v.category).sum ≤ 8) (hcl : sm_cls h i = some 9) (hc : (sm_call xs n_X9_odds [.ref i, .int b0, .int b1, .int b2] h).isSome = true) : sm_run xs n_L_law 544 [l0, l1, l2, l3] (.int b2 :: .int b1 :: .int b0 :: .ref i :: st) h = sm_run xs n_L_law 547 [l0, l1, l2, l3] ((sm_rr (sm_call xs n_X9_odds [.ref i, .int b0, .int b1, .int b2] h)).toList ++ st) (sm_rh (sm_call xs n_X9_odds [.ref i, .int b0, .int b1, .int b2] h)) := sx_vrt (ci := 9) (en := (9, 117, 0, [590, 591, 592, 44, 593])) (k := mi_X9_odds) (as := [.ref i, .int b0, .int b1, .int b2]) (rest := st) hm_L_law rfl vk_13_73 rfl hm_X9_odds (by decide) ⟨by show 3 ≤ _; simp only [List.length_cons]; omega, rfl, rfl⟩ hs hcl hc
set_option maxRecDepth 100000 in
theorem s_L_law_547 {xs : List Int32} {l0 l1 l3 : Option Value} {st : List Value} {h : HH} {x : Nat} : sm_run xs n_L_law 547 [l0, l1, some (.ref x), l3] st h = sm_run xs n_L_law 548 [l0, l1, some (.ref x), l3] (.ref x :: st) h := sx_pur (.aload_n 2) hm_L_law rfl rfl rfl rfl
set_option maxRecDepth 100000 in
theorem s_L_law_548 {xs : List Int32} {l1 l2 l3 : Option Value} {st : List Value} {h : HH} {x : Nat} : sm_run xs n_L_law 548 [some (.ref x), l1, l2, l3] st h = sm_run xs n_L_law 549 [some (.ref x), l1, l2, l3] (.ref x :: st) h := sx_pur (.aload_n 0) hm_L_law rfl rfl rfl rfl
set_option maxRecDepth 100000 in
theorem s_L_law_549 {xs : List Int32} {l0 l1 l2 : Option Value} {st : List Value} {h : HH} {x : Int32} : sm_run xs n_L_law 549 [l0, l1, l2, some (.int x)] st h = sm_run xs n_L_law 550 [l0, l1, l2, some (.int x)] (.int x :: st) h := sx_pur (.iload_n 3) hm_L_law rfl rfl rfl rfl
set_option maxRecDepth 100000 in
theorem s_L_law_550 {xs : List Int32} {l0 l1 l2 l3 : Option Value} {st : List Value} {h : HH} : sm_run xs n_L_law 550 [l0, l1, l2, l3] st h = sm_run xs n_L_law 551 [l0, l1, l2, l3] (.int 1 :: st) h := sx_pur (.iconst 1) hm_L_law rfl rfl rfl rfl
set_option maxRecDepth 100000 in
theorem s_L_law_551 {xs : List Int32} {l0 l1 l2 l3 : Option Value} {st : List Value} {h : HH} {x y : Int32} : sm_run xs n_L_law 551 [l0, l1, l2, l3] (.int y :: .int x :: st) h = sm_run xs n_L_law 552 [l0, l1, l2, l3] (.int (x + y) :: st) h := sx_pur (.iadd) hm_L_law rfl rfl rfl rfl
set_option maxRecDepth 100000 in
theorem s_L_law_552 {xs : List Int32} {l0 l1 l2 l3 : Option Value} {st : List Value} {h : HH} {j : Int32} (hh : h[sm_B + 9]? = none) (hin : sm_inr (some xs) j = true) : sm_run xs n_L_law 552 [l0, l1, l2, l3] (.int j :: .ref (sm_B + 9) :: st) h = sm_run xs n_L_law 553 [l0, l1, l2, l3] (.int (sm_el (some xs) j) :: st) h := sx_sald hm_L_law rfl hh hin
set_option maxRecDepth 100000 in
theorem s_L_law_553 {xs : List Int32} {l1 l2 l3 : Option Value} {st : List Value} {h : HH} {x : Nat} : sm_run xs n_L_law 553 [some (.ref x), l1, l2, l3] st h = sm_run xs n_L_law 554 [some (.ref x), l1, l2, l3] (.ref x :: st) h := sx_pur (.aload_n 0) hm_L_law rfl rfl rfl rfl
set_option maxRecDepth 100000 in
theorem s_L_law_554 {xs : List Int32} {l0 l1 l2 : Option Value} {st : List Value} {h : HH} {x : Int32} : sm_run xs n_L_law 554 [l0, l1, l2, some (.int x)] st h = sm_run xs n_L_law 555 [l0, l1, l2, some (.int x)] (.int x :: st) h := sx_pur (.iload_n 3) hm_L_law rfl rfl rfl rfl
set_option maxRecDepth 100000 in
theorem s_L_law_555 {xs : List Int32} {l0 l1 l2 l3 : Option Value} {st : List Value} {h : HH} : sm_run xs n_L_law 555 [l0, l1, l2, l3] st h = sm_run xs n_L_law 556 [l0, l1, l2, l3] (.int 2 :: st) h := sx_pur (.iconst 2) hm_L_law rfl rfl rfl rfl
set_option maxRecDepth 100000 in
theorem s_L_law_556 {xs : List Int32} {l0 l1 l2 l3 : Option Value} {st : List Value} {h : HH} {x y : Int32} : sm_run xs n_L_law 556 [l0, l1, l2, l3] (.int y :: .int x :: st) h = sm_run xs n_L_law 557 [l0, l1, l2, l3] (.int (x + y) :: st) h := sx_pur (.iadd) hm_L_law rfl rfl rfl rfl
set_option maxRecDepth 100000 in
theorem s_L_law_557 {xs : List Int32} {l0 l1 l2 l3 : Option Value} {st : List Value} {h : HH} {j : Int32} (hh : h[sm_B + 9]? = none) (hin : sm_inr (some xs) j = true) : sm_run xs n_L_law 557 [l0, l1, l2, l3] (.int j :: .ref (sm_B + 9) :: st) h = sm_run xs n_L_law 558 [l0, l1, l2, l3] (.int (sm_el (some xs) j) :: st) h := sx_sald hm_L_law rfl hh hin
set_option maxRecDepth 100000 in
theorem s_L_law_558 {xs : List Int32} {l1 l2 l3 : Option Value} {st : List Value} {h : HH} {x : Nat} : sm_run xs n_L_law 558 [some (.ref x), l1, l2, l3] st h = sm_run xs n_L_law 559 [some (.ref x), l1, l2, l3] (.ref x :: st) h := sx_pur (.aload_n 0) hm_L_law rfl rfl rfl rfl
set_option maxRecDepth 100000 in
theorem s_L_law_559 {xs : List Int32} {l0 l1 l2 : Option Value} {st : List Value} {h : HH} {x : Int32} : sm_run xs n_L_law 559 [l0, l1, l2, some (.int x)] st h = sm_run xs n_L_law 560 [l0, l1, l2, some (.int x)] (.int x :: st) h := sx_pur (.iload_n 3) hm_L_law rfl rfl rfl rfl
set_option maxRecDepth 100000 in
theorem s_L_law_560 {xs : List Int32} {l0 l1 l2 l3 : Option Value} {st : List Value} {h : HH} : sm_run xs n_L_law 560 [l0, l1, l2, l3] st h = sm_run xs n_L_law 561 [l0, l1, l2, l3] (.int 3 :: st) h := sx_pur (.iconst 3) hm_L_law rfl rfl rfl rfl
set_option maxRecDepth 100000 in
theorem s_L_law_561 {xs : List Int32} {l0 l1 l2 l3 : Option Value} {st : List Value} {h : HH} {x y : Int32} : sm_run xs n_L_law 561 [l0, l1, l2, l3] (.int y :: .int x :: st) h = sm_run xs n_L_law 562 [l0, l1, l2, l3] (.int (x + y) :: st) h := sx_pur (.iadd) hm_L_law rfl rfl rfl rfl
set_option maxRecDepth 100000 in
theorem s_L_law_562 {xs : List Int32} {l0 l1 l2 l3 : Option Value} {st : List Value} {h : HH} {j : Int32} (hh : h[sm_B + 9]? = none) (hin : sm_inr (some xs) j = true) : sm_run xs n_L_law 562 [l0, l1, l2, l3] (.int j :: .ref (sm_B + 9) :: st) h = sm_run xs n_L_law 563 [l0, l1, l2, l3] (.int (sm_el (some xs) j) :: st) h := sx_sald hm_L_law rfl hh hin
set_option maxRecDepth 100000 in
theorem s_L_law_563 {xs : List Int32} {l0 l1 l2 l3 : Option Value} {st : List Value} {h : HH} {i : Nat} {b0 : Int32} {b1 : Int32} {b2 : Int32} (hs : (st.map fun v => v.category).sum ≤ 8) (hcl : sm_cls h i = some 10) (hc : (sm_call xs n_X10_odds [.ref i, .int b0, .int b1, .int b2] h).isSome = true) : sm_run xs n_L_law 563 [l0, l1, l2, l3] (.int b2 :: .int b1 :: .int b0 :: .ref i :: st) h = sm_run xs n_L_law 566 [l0, l1, l2, l3] ((sm_rr (sm_call xs n_X10_odds [.ref i, .int b0, .int b1, .int b2] h)).toList ++ st) (sm_rh (sm_call xs n_X10_odds [.ref i, .int b0, .int b1, .int b2] h)) := sx_vrt (ci := 10) (en := (10, 121, 0, [950, 951, 952, 55, 953])) (k := mi_X10_odds) (as := [.ref i, .int b0, .int b1, .int b2]) (rest := st) hm_L_law rfl vk_13_76 rfl hm_X10_odds (by decide) ⟨by show 3 ≤ _; simp only [List.length_cons]; omega, rfl, rfl⟩ hs hcl hc
set_option maxRecDepth 100000 in
theorem s_L_law_566 {xs : List Int32} {l0 l1 l2 l3 : Option Value} {st : List Value} {h : HH} {x y : Int32} : sm_run xs n_L_law 566 [l0, l1, l2, l3] (.int y :: .int x :: st) h = if x = y then sm_run xs n_L_law 908 [l0, l1, l2, l3] st h else sm_run xs n_L_law 569 [l0, l1, l2, l3] st h := sx_icmp hm_L_law rfl rfl rfl
set_option maxRecDepth 100000 in
theorem s_L_law_569 {xs : List Int32} {l0 l1 l2 l3 : Option Value} {st : List Value} {h : HH} : sm_run xs n_L_law 569 [l0, l1, l2, l3] st h = sm_run xs n_L_law 570 [l0, l1, l2, l3] (.int 0 :: st) h := sx_pur (.iconst 0) hm_L_law rfl rfl rfl rfl
set_option maxRecDepth 100000 in
theorem s_L_law_570z0 {xs : List Int32} {l0 l1 l2 l3 : Option Value} {h : HH} : sm_run xs n_L_law 570 [l0, l1, l2, l3] [.int 0] h = some (some (.int 0), h) := sm_return hm_L_law rfl rfl
set_option maxRecDepth 100000 in
theorem s_L_law_570z1 {xs : List Int32} {l0 l1 l2 l3 : Option Value} {h : HH} : sm_run xs n_L_law 570 [l0, l1, l2, l3] [.int 1] h = some (some (.int 1), h) := sm_return hm_L_law rfl rfl
set_option maxRecDepth 100000 in
theorem s_L_law_571 {xs : List Int32} {l0 l2 l3 : Option Value} {st : List Value} {h : HH} {x : Nat} : sm_run xs n_L_law 571 [l0, some (.ref x), l2, l3] st h = sm_run xs n_L_law 572 [l0, some (.ref x), l2, l3] (.ref x :: st) h := sx_pur (.aload_n 1) hm_L_law rfl rfl rfl rfl
set_option maxRecDepth 100000 in
theorem s_L_law_572 {xs : List Int32} {l1 l2 l3 : Option Value} {st : List Value} {h : HH} {x : Nat} : sm_run xs n_L_law 572 [some (.ref x), l1, l2, l3] st h = sm_run xs n_L_law 573 [some (.ref x), l1, l2, l3] (.ref x :: st) h := sx_pur (.aload_n 0) hm_L_law rfl rfl rfl rfl
set_option maxRecDepth 100000 in
theorem s_L_law_573 {xs : List Int32} {l0 l1 l2 : Option Value} {st : List Value} {h : HH} {x : Int32} : sm_run xs n_L_law 573 [l0, l1, l2, some (.int x)] st h = sm_run xs n_L_law 574 [l0, l1, l2, some (.int x)] (.int x :: st) h := sx_pur (.iload_n 3) hm_L_law rfl rfl rfl rfl
set_option maxRecDepth 100000 in
theorem s_L_law_574 {xs : List Int32} {l0 l1 l2 l3 : Option Value} {st : List Value} {h : HH} : sm_run xs n_L_law 574 [l0, l1, l2, l3] st h = sm_run xs n_L_law 575 [l0, l1, l2, l3] (.int 1 :: st) h := sx_pur (.iconst 1) hm_L_law rfl rfl rfl rfl
set_option maxRecDepth 100000 in
theorem s_L_law_575 {xs : List Int32} {l0 l1 l2 l3 : Option Value} {st : List Value} {h : HH} {x y : Int32} : sm_run xs n_L_law 575 [l0, l1, l2, l3] (.int y :: .int x :: st) h = sm_run xs n_L_law 576 [l0, l1, l2, l3] (.int (x + y) :: st) h := sx_pur (.iadd) hm_L_law rfl rfl rfl rfl
set_option maxRecDepth 100000 in
theorem s_L_law_576 {xs : List Int32} {l0 l1 l2 l3 : Option Value} {st : List Value} {h : HH} {j : Int32} (hh : h[sm_B + 9]? = none) (hin : sm_inr (some xs) j = true) : sm_run xs n_L_law 576 [l0, l1, l2, l3] (.int j :: .ref (sm_B + 9) :: st) h = sm_run xs n_L_law 577 [l0, l1, l2, l3] (.int (sm_el (some xs) j) :: st) h := sx_sald hm_L_law rfl hh hin
set_option maxRecDepth 100000 in
theorem s_L_law_577 {xs : List Int32} {l1 l2 l3 : Option Value} {st : List Value} {h : HH} {x : Nat} : sm_run xs n_L_law 577 [some (.ref x), l1, l2, l3] st h = sm_run xs n_L_law 578 [some (.ref x), l1, l2, l3] (.ref x :: st) h := sx_pur (.aload_n 0) hm_L_law rfl rfl rfl rfl
set_option maxRecDepth 100000 in
theorem s_L_law_578 {xs : List Int32} {l0 l1 l2 : Option Value} {st : List Value} {h : HH} {x : Int32} : sm_run xs n_L_law 578 [l0, l1, l2, some (.int x)] st h = sm_run xs n_L_law 579 [l0, l1, l2, some (.int x)] (.int x :: st) h := sx_pur (.iload_n 3) hm_L_law rfl rfl rfl rfl
set_option maxRecDepth 100000 in
theorem s_L_law_579 {xs : List Int32} {l0 l1 l2 l3 : Option Value} {st : List Value} {h : HH} : sm_run xs n_L_law 579 [l0, l1, l2, l3] st h = sm_run xs n_L_law 580 [l0, l1, l2, l3] (.int 2 :: st) h := sx_pur (.iconst 2) hm_L_law rfl rfl rfl rfl
set_option maxRecDepth 100000 in
theorem s_L_law_580 {xs : List Int32} {l0 l1 l2 l3 : Option Value} {st : List Value} {h : HH} {x y : Int32} : sm_run xs n_L_law 580 [l0, l1, l2, l3] (.int y :: .int x :: st) h = sm_run xs n_L_law 581 [l0, l1, l2, l3] (.int (x + y) :: st) h := sx_pur (.iadd) hm_L_law rfl rfl rfl rfl
set_option maxRecDepth 100000 in
theorem s_L_law_581 {xs : List Int32} {l0 l1 l2 l3 : Option Value} {st : List Value} {h : HH} {j : Int32} (hh : h[sm_B + 9]? = none) (hin : sm_inr (some xs) j = true) : sm_run xs n_L_law 581 [l0, l1, l2, l3] (.int j :: .ref (sm_B + 9) :: st) h = sm_run xs n_L_law 582 [l0, l1, l2, l3] (.int (sm_el (some xs) j) :: st) h := sx_sald hm_L_law rfl hh hin
set_option maxRecDepth 100000 in
theorem s_L_law_582 {xs : List Int32} {l0 l1 l2 l3 : Option Value} {st : List Value} {h : HH} {i : Nat} {b0 : Int32} {b1 : Int32} (hs : (st.map fun v => v.category).sum ≤ 8) (hcl : sm_cls h i = some 9) (hc : (sm_call xs n_X9_mean [.ref i, .int b0, .int b1] h).isSome = true) : sm_run xs n_L_law 582 [l0, l1, l2, l3] (.int b1 :: .int b0 :: .ref i :: st) h = sm_run xs n_L_law 585 [l0, l1, l2, l3] ((sm_rr (sm_call xs n_X9_mean [.ref i, .int b0, .int b1] h)).toList ++ st) (sm_rh (sm_call xs n_X9_mean [.ref i, .int b0, .int b1] h)) := sx_vrt (ci := 9) (en := (9, 123, 0, [600, 601, 602, 44, 603])) (k := mi_X9_mean) (as := [.ref i, .int b0, .int b1]) (rest := st) hm_L_law rfl vk_13_77 rfl hm_X9_mean (by decide) ⟨by show 2 ≤ _; simp only [List.length_cons]; omega, rfl, rfl⟩ hs hcl hc
set_option maxRecDepth 100000 in
theorem s_L_law_585 {xs : List Int32} {l0 l1 l3 : Option Value} {st : List Value} {h : HH} {x : Nat} : sm_run xs n_L_law 585 [l0, l1, some (.ref x), l3] st h = sm_run xs n_L_law 586 [l0, l1, some (.ref x), l3] (.ref x :: st) h := sx_pur (.aload_n 2) hm_L_law rfl rfl rfl rfl
set_option maxRecDepth 100000 in
theorem s_L_law_586 {xs : List Int32} {l1 l2 l3 : Option Value} {st : List Value} {h : HH} {x : Nat} : sm_run xs n_L_law 586 [some (.ref x), l1, l2, l3] st h = sm_run xs n_L_law 587 [some (.ref x), l1, l2, l3] (.ref x :: st) h := sx_pur (.aload_n 0) hm_L_law rfl rfl rfl rfl
set_option maxRecDepth 100000 in
theorem s_L_law_587 {xs : List Int32} {l0 l1 l2 : Option Value} {st : List Value} {h : HH} {x : Int32} : sm_run xs n_L_law 587 [l0, l1, l2, some (.int x)] st h = sm_run xs n_L_law 588 [l0, l1, l2, some (.int x)] (.int x :: st) h := sx_pur (.iload_n 3) hm_L_law rfl rfl rfl rfl
set_option maxRecDepth 100000 in
theorem s_L_law_588 {xs : List Int32} {l0 l1 l2 l3 : Option Value} {st : List Value} {h : HH} : sm_run xs n_L_law 588 [l0, l1, l2, l3] st h = sm_run xs n_L_law 589 [l0, l1, l2, l3] (.int 1 :: st) h := sx_pur (.iconst 1) hm_L_law rfl rfl rfl rfl
set_option maxRecDepth 100000 in
theorem s_L_law_589 {xs : List Int32} {l0 l1 l2 l3 : Option Value} {st : List Value} {h : HH} {x y : Int32} : sm_run xs n_L_law 589 [l0, l1, l2, l3] (.int y :: .int x :: st) h = sm_run xs n_L_law 590 [l0, l1, l2, l3] (.int (x + y) :: st) h := sx_pur (.iadd) hm_L_law rfl rfl rfl rfl
set_option maxRecDepth 100000 in
theorem s_L_law_590 {xs : List Int32} {l0 l1 l2 l3 : Option Value} {st : List Value} {h : HH} {j : Int32} (hh : h[sm_B + 9]? = none) (hin : sm_inr (some xs) j = true) : sm_run xs n_L_law 590 [l0, l1, l2, l3] (.int j :: .ref (sm_B + 9) :: st) h = sm_run xs n_L_law 591 [l0, l1, l2, l3] (.int (sm_el (some xs) j) :: st) h := sx_sald hm_L_law rfl hh hin
set_option maxRecDepth 100000 in
theorem s_L_law_591 {xs : List Int32} {l1 l2 l3 : Option Value} {st : List Value} {h : HH} {x : Nat} : sm_run xs n_L_law 591 [some (.ref x), l1, l2, l3] st h = sm_run xs n_L_law 592 [some (.ref x), l1, l2, l3] (.ref x :: st) h := sx_pur (.aload_n 0) hm_L_law rfl rfl rfl rfl
set_option maxRecDepth 100000 in
theorem s_L_law_592 {xs : List Int32} {l0 l1 l2 : Option Value} {st : List Value} {h : HH} {x : Int32} : sm_run xs n_L_law 592 [l0, l1, l2, some (.int x)] st h = sm_run xs n_L_law 593 [l0, l1, l2, some (.int x)] (.int x :: st) h := sx_pur (.iload_n 3) hm_L_law rfl rfl rfl rfl
set_option maxRecDepth 100000 in
theorem s_L_law_593 {xs : List Int32} {l0 l1 l2 l3 : Option Value} {st : List Value} {h : HH} : sm_run xs n_L_law 593 [l0, l1, l2, l3] st h = sm_run xs n_L_law 594 [l0, l1, l2, l3] (.int 2 :: st) h := sx_pur (.iconst 2) hm_L_law rfl rfl rfl rfl
set_option maxRecDepth 100000 in
theorem s_L_law_594 {xs : List Int32} {l0 l1 l2 l3 : Option Value} {st : List Value} {h : HH} {x y : Int32} : sm_run xs n_L_law 594 [l0, l1, l2, l3] (.int y :: .int x :: st) h = sm_run xs n_L_law 595 [l0, l1, l2, l3] (.int (x + y) :: st) h := sx_pur (.iadd) hm_L_law rfl rfl rfl rfl
set_option maxRecDepth 100000 in
theorem s_L_law_595 {xs : List Int32} {l0 l1 l2 l3 : Option Value} {st : List Value} {h : HH} {j : Int32} (hh : h[sm_B + 9]? = none) (hin : sm_inr (some xs) j = true) : sm_run xs n_L_law 595 [l0, l1, l2, l3] (.int j :: .ref (sm_B + 9) :: st) h = sm_run xs n_L_law 596 [l0, l1, l2, l3] (.int (sm_el (some xs) j) :: st) h := sx_sald hm_L_law rfl hh hin
set_option maxRecDepth 100000 in
theorem s_L_law_596 {xs : List Int32} {l0 l1 l2 l3 : Option Value} {st : List Value} {h : HH} {i : Nat} {b0 : Int32} {b1 : Int32} (hs : (st.map fun v => v.category).sum ≤ 8) (hcl : sm_cls h i = some 10) (hc : (sm_call xs n_X10_mean [.ref i, .int b0, .int b1] h).isSome = true) : sm_run xs n_L_law 596 [l0, l1, l2, l3] (.int b1 :: .int b0 :: .ref i :: st) h = sm_run xs n_L_law 599 [l0, l1, l2, l3] ((sm_rr (sm_call xs n_X10_mean [.ref i, .int b0, .int b1] h)).toList ++ st) (sm_rh (sm_call xs n_X10_mean [.ref i, .int b0, .int b1] h)) := sx_vrt (ci := 10) (en := (10, 126, 0, [964, 965, 966, 55, 967])) (k := mi_X10_mean) (as := [.ref i, .int b0, .int b1]) (rest := st) hm_L_law rfl vk_13_80 rfl hm_X10_mean (by decide) ⟨by show 2 ≤ _; simp only [List.length_cons]; omega, rfl, rfl⟩ hs hcl hc
set_option maxRecDepth 100000 in
theorem s_L_law_599 {xs : List Int32} {l0 l1 l2 l3 : Option Value} {st : List Value} {h : HH} {x y : Int32} : sm_run xs n_L_law 599 [l0, l1, l2, l3] (.int y :: .int x :: st) h = if x = y then sm_run xs n_L_law 908 [l0, l1, l2, l3] st h else sm_run xs n_L_law 602 [l0, l1, l2, l3] st h := sx_icmp hm_L_law rfl rfl rfl
set_option maxRecDepth 100000 in
theorem s_L_law_602 {xs : List Int32} {l0 l1 l2 l3 : Option Value} {st : List Value} {h : HH} : sm_run xs n_L_law 602 [l0, l1, l2, l3] st h = sm_run xs n_L_law 603 [l0, l1, l2, l3] (.int 0 :: st) h := sx_pur (.iconst 0) hm_L_law rfl rfl rfl rfl
set_option maxRecDepth 100000 in
theorem s_L_law_603z0 {xs : List Int32} {l0 l1 l2 l3 : Option Value} {h : HH} : sm_run xs n_L_law 603 [l0, l1, l2, l3] [.int 0] h = some (some (.int 0), h) := sm_return hm_L_law rfl rfl
set_option maxRecDepth 100000 in
theorem s_L_law_603z1 {xs : List Int32} {l0 l1 l2 l3 : Option Value} {h : HH} : sm_run xs n_L_law 603 [l0, l1, l2, l3] [.int 1] h = some (some (.int 1), h) := sm_return hm_L_law rfl rfl
set_option maxRecDepth 100000 in
theorem s_L_law_604 {xs : List Int32} {l0 l2 l3 : Option Value} {st : List Value} {h : HH} {x : Nat} : sm_run xs n_L_law 604 [l0, some (.ref x), l2, l3] st h = sm_run xs n_L_law 605 [l0, some (.ref x), l2, l3] (.ref x :: st) h := sx_pur (.aload_n 1) hm_L_law rfl rfl rfl rfl
set_option maxRecDepth 100000 in
theorem s_L_law_605 {xs : List Int32} {l1 l2 l3 : Option Value} {st : List Value} {h : HH} {x : Nat} : sm_run xs n_L_law 605 [some (.ref x), l1, l2, l3] st h = sm_run xs n_L_law 606 [some (.ref x), l1, l2, l3] (.ref x :: st) h := sx_pur (.aload_n 0) hm_L_law rfl rfl rfl rfl
set_option maxRecDepth 100000 in
theorem s_L_law_606 {xs : List Int32} {l0 l1 l2 : Option Value} {st : List Value} {h : HH} {x : Int32} : sm_run xs n_L_law 606 [l0, l1, l2, some (.int x)] st h = sm_run xs n_L_law 607 [l0, l1, l2, some (.int x)] (.int x :: st) h := sx_pur (.iload_n 3) hm_L_law rfl rfl rfl rfl
set_option maxRecDepth 100000 in
theorem s_L_law_607 {xs : List Int32} {l0 l1 l2 l3 : Option Value} {st : List Value} {h : HH} : sm_run xs n_L_law 607 [l0, l1, l2, l3] st h = sm_run xs n_L_law 608 [l0, l1, l2, l3] (.int 1 :: st) h := sx_pur (.iconst 1) hm_L_law rfl rfl rfl rfl
set_option maxRecDepth 100000 in
theorem s_L_law_608 {xs : List Int32} {l0 l1 l2 l3 : Option Value} {st : List Value} {h : HH} {x y : Int32} : sm_run xs n_L_law 608 [l0, l1, l2, l3] (.int y :: .int x :: st) h = sm_run xs n_L_law 609 [l0, l1, l2, l3] (.int (x + y) :: st) h := sx_pur (.iadd) hm_L_law rfl rfl rfl rfl
set_option maxRecDepth 100000 in
theorem s_L_law_609 {xs : List Int32} {l0 l1 l2 l3 : Option Value} {st : List Value} {h : HH} {j : Int32} (hh : h[sm_B + 9]? = none) (hin : sm_inr (some xs) j = true) : sm_run xs n_L_law 609 [l0, l1, l2, l3] (.int j :: .ref (sm_B + 9) :: st) h = sm_run xs n_L_law 610 [l0, l1, l2, l3] (.int (sm_el (some xs) j) :: st) h := sx_sald hm_L_law rfl hh hin
set_option maxRecDepth 100000 in
theorem s_L_law_610 {xs : List Int32} {l1 l2 l3 : Option Value} {st : List Value} {h : HH} {x : Nat} : sm_run xs n_L_law 610 [some (.ref x), l1, l2, l3] st h = sm_run xs n_L_law 611 [some (.ref x), l1, l2, l3] (.ref x :: st) h := sx_pur (.aload_n 0) hm_L_law rfl rfl rfl rfl
set_option maxRecDepth 100000 in
theorem s_L_law_611 {xs : List Int32} {l0 l1 l2 : Option Value} {st : List Value} {h : HH} {x : Int32} : sm_run xs n_L_law 611 [l0, l1, l2, some (.int x)] st h = sm_run xs n_L_law 612 [l0, l1, l2, some (.int x)] (.int x :: st) h := sx_pur (.iload_n 3) hm_L_law rfl rfl rfl rfl
set_option maxRecDepth 100000 in
theorem s_L_law_612 {xs : List Int32} {l0 l1 l2 l3 : Option Value} {st : List Value} {h : HH} : sm_run xs n_L_law 612 [l0, l1, l2, l3] st h = sm_run xs n_L_law 613 [l0, l1, l2, l3] (.int 2 :: st) h := sx_pur (.iconst 2) hm_L_law rfl rfl rfl rfl
set_option maxRecDepth 100000 in
theorem s_L_law_613 {xs : List Int32} {l0 l1 l2 l3 : Option Value} {st : List Value} {h : HH} {x y : Int32} : sm_run xs n_L_law 613 [l0, l1, l2, l3] (.int y :: .int x :: st) h = sm_run xs n_L_law 614 [l0, l1, l2, l3] (.int (x + y) :: st) h := sx_pur (.iadd) hm_L_law rfl rfl rfl rfl
set_option maxRecDepth 100000 in
theorem s_L_law_614 {xs : List Int32} {l0 l1 l2 l3 : Option Value} {st : List Value} {h : HH} {j : Int32} (hh : h[sm_B + 9]? = none) (hin : sm_inr (some xs) j = true) : sm_run xs n_L_law 614 [l0, l1, l2, l3] (.int j :: .ref (sm_B + 9) :: st) h = sm_run xs n_L_law 615 [l0, l1, l2, l3] (.int (sm_el (some xs) j) :: st) h := sx_sald hm_L_law rfl hh hin
set_option maxRecDepth 100000 in
theorem s_L_law_615 {xs : List Int32} {l0 l1 l2 l3 : Option Value} {st : List Value} {h : HH} {i : Nat} {b0 : Int32} {b1 : Int32} (hs : (st.map fun v => v.category).sum ≤ 8) (hcl : sm_cls h i = some 9) (hc : (sm_call xs n_X9_best [.ref i, .int b0, .int b1] h).isSome = true) : sm_run xs n_L_law 615 [l0, l1, l2, l3] (.int b1 :: .int b0 :: .ref i :: st) h = sm_run xs n_L_law 618 [l0, l1, l2, l3] ((sm_rr (sm_call xs n_X9_best [.ref i, .int b0, .int b1] h)).toList ++ st) (sm_rh (sm_call xs n_X9_best [.ref i, .int b0, .int b1] h)) := sx_vrt (ci := 9) (en := (9, 127, 0, [608, 609, 610, 44, 611])) (k := mi_X9_best) (as := [.ref i, .int b0, .int b1]) (rest := st) hm_L_law rfl vk_13_81 rfl hm_X9_best (by decide) ⟨by show 2 ≤ _; simp only [List.length_cons]; omega, rfl, rfl⟩ hs hcl hc
set_option maxRecDepth 100000 in
theorem s_L_law_618 {xs : List Int32} {l0 l1 l3 : Option Value} {st : List Value} {h : HH} {x : Nat} : sm_run xs n_L_law 618 [l0, l1, some (.ref x), l3] st h = sm_run xs n_L_law 619 [l0, l1, some (.ref x), l3] (.ref x :: st) h := sx_pur (.aload_n 2) hm_L_law rfl rfl rfl rfl
set_option maxRecDepth 100000 in
theorem s_L_law_619 {xs : List Int32} {l1 l2 l3 : Option Value} {st : List Value} {h : HH} {x : Nat} : sm_run xs n_L_law 619 [some (.ref x), l1, l2, l3] st h = sm_run xs n_L_law 620 [some (.ref x), l1, l2, l3] (.ref x :: st) h := sx_pur (.aload_n 0) hm_L_law rfl rfl rfl rfl
set_option maxRecDepth 100000 in
theorem s_L_law_620 {xs : List Int32} {l0 l1 l2 : Option Value} {st : List Value} {h : HH} {x : Int32} : sm_run xs n_L_law 620 [l0, l1, l2, some (.int x)] st h = sm_run xs n_L_law 621 [l0, l1, l2, some (.int x)] (.int x :: st) h := sx_pur (.iload_n 3) hm_L_law rfl rfl rfl rfl
set_option maxRecDepth 100000 in
theorem s_L_law_621 {xs : List Int32} {l0 l1 l2 l3 : Option Value} {st : List Value} {h : HH} : sm_run xs n_L_law 621 [l0, l1, l2, l3] st h = sm_run xs n_L_law 622 [l0, l1, l2, l3] (.int 1 :: st) h := sx_pur (.iconst 1) hm_L_law rfl rfl rfl rfl
set_option maxRecDepth 100000 in
theorem s_L_law_622 {xs : List Int32} {l0 l1 l2 l3 : Option Value} {st : List Value} {h : HH} {x y : Int32} : sm_run xs n_L_law 622 [l0, l1, l2, l3] (.int y :: .int x :: st) h = sm_run xs n_L_law 623 [l0, l1, l2, l3] (.int (x + y) :: st) h := sx_pur (.iadd) hm_L_law rfl rfl rfl rfl
set_option maxRecDepth 100000 in
theorem s_L_law_623 {xs : List Int32} {l0 l1 l2 l3 : Option Value} {st : List Value} {h : HH} {j : Int32} (hh : h[sm_B + 9]? = none) (hin : sm_inr (some xs) j = true) : sm_run xs n_L_law 623 [l0, l1, l2, l3] (.int j :: .ref (sm_B + 9) :: st) h = sm_run xs n_L_law 624 [l0, l1, l2, l3] (.int (sm_el (some xs) j) :: st) h := sx_sald hm_L_law rfl hh hin
set_option maxRecDepth 100000 in
theorem s_L_law_624 {xs : List Int32} {l1 l2 l3 : Option Value} {st : List Value} {h : HH} {x : Nat} : sm_run xs n_L_law 624 [some (.ref x), l1, l2, l3] st h = sm_run xs n_L_law 625 [some (.ref x), l1, l2, l3] (.ref x :: st) h := sx_pur (.aload_n 0) hm_L_law rfl rfl rfl rfl
set_option maxRecDepth 100000 in
theorem s_L_law_625 {xs : List Int32} {l0 l1 l2 : Option Value} {st : List Value} {h : HH} {x : Int32} : sm_run xs n_L_law 625 [l0, l1, l2, some (.int x)] st h = sm_run xs n_L_law 626 [l0, l1, l2, some (.int x)] (.int x :: st) h := sx_pur (.iload_n 3) hm_L_law rfl rfl rfl rfl
set_option maxRecDepth 100000 in
theorem s_L_law_626 {xs : List Int32} {l0 l1 l2 l3 : Option Value} {st : List Value} {h : HH} : sm_run xs n_L_law 626 [l0, l1, l2, l3] st h = sm_run xs n_L_law 627 [l0, l1, l2, l3] (.int 2 :: st) h := sx_pur (.iconst 2) hm_L_law rfl rfl rfl rfl
set_option maxRecDepth 100000 in
theorem s_L_law_627 {xs : List Int32} {l0 l1 l2 l3 : Option Value} {st : List Value} {h : HH} {x y : Int32} : sm_run xs n_L_law 627 [l0, l1, l2, l3] (.int y :: .int x :: st) h = sm_run xs n_L_law 628 [l0, l1, l2, l3] (.int (x + y) :: st) h := sx_pur (.iadd) hm_L_law rfl rfl rfl rfl
set_option maxRecDepth 100000 in
theorem s_L_law_628 {xs : List Int32} {l0 l1 l2 l3 : Option Value} {st : List Value} {h : HH} {j : Int32} (hh : h[sm_B + 9]? = none) (hin : sm_inr (some xs) j = true) : sm_run xs n_L_law 628 [l0, l1, l2, l3] (.int j :: .ref (sm_B + 9) :: st) h = sm_run xs n_L_law 629 [l0, l1, l2, l3] (.int (sm_el (some xs) j) :: st) h := sx_sald hm_L_law rfl hh hin
set_option maxRecDepth 100000 in
theorem s_L_law_629 {xs : List Int32} {l0 l1 l2 l3 : Option Value} {st : List Value} {h : HH} {i : Nat} {b0 : Int32} {b1 : Int32} (hs : (st.map fun v => v.category).sum ≤ 8) (hcl : sm_cls h i = some 10) (hc : (sm_call xs n_X10_best [.ref i, .int b0, .int b1] h).isSome = true) : sm_run xs n_L_law 629 [l0, l1, l2, l3] (.int b1 :: .int b0 :: .ref i :: st) h = sm_run xs n_L_law 632 [l0, l1, l2, l3] ((sm_rr (sm_call xs n_X10_best [.ref i, .int b0, .int b1] h)).toList ++ st) (sm_rh (sm_call xs n_X10_best [.ref i, .int b0, .int b1] h)) := sx_vrt (ci := 10) (en := (10, 128, 0, [976, 977, 978, 55, 979])) (k := mi_X10_best) (as := [.ref i, .int b0, .int b1]) (rest := st) hm_L_law rfl vk_13_84 rfl hm_X10_best (by decide) ⟨by show 2 ≤ _; simp only [List.length_cons]; omega, rfl, rfl⟩ hs hcl hc
set_option maxRecDepth 100000 in
theorem s_L_law_632 {xs : List Int32} {l0 l1 l2 l3 : Option Value} {st : List Value} {h : HH} {x y : Int32} : sm_run xs n_L_law 632 [l0, l1, l2, l3] (.int y :: .int x :: st) h = if x = y then sm_run xs n_L_law 908 [l0, l1, l2, l3] st h else sm_run xs n_L_law 635 [l0, l1, l2, l3] st h := sx_icmp hm_L_law rfl rfl rfl
set_option maxRecDepth 100000 in
theorem s_L_law_635 {xs : List Int32} {l0 l1 l2 l3 : Option Value} {st : List Value} {h : HH} : sm_run xs n_L_law 635 [l0, l1, l2, l3] st h = sm_run xs n_L_law 636 [l0, l1, l2, l3] (.int 0 :: st) h := sx_pur (.iconst 0) hm_L_law rfl rfl rfl rfl
set_option maxRecDepth 100000 in
theorem s_L_law_636z0 {xs : List Int32} {l0 l1 l2 l3 : Option Value} {h : HH} : sm_run xs n_L_law 636 [l0, l1, l2, l3] [.int 0] h = some (some (.int 0), h) := sm_return hm_L_law rfl rfl
set_option maxRecDepth 100000 in
theorem s_L_law_636z1 {xs : List Int32} {l0 l1 l2 l3 : Option Value} {h : HH} : sm_run xs n_L_law 636 [l0, l1, l2, l3] [.int 1] h = some (some (.int 1), h) := sm_return hm_L_law rfl rfl
set_option maxRecDepth 100000 in
theorem s_L_law_637 {xs : List Int32} {l0 l2 l3 : Option Value} {st : List Value} {h : HH} {x : Nat} : sm_run xs n_L_law 637 [l0, some (.ref x), l2, l3] st h = sm_run xs n_L_law 638 [l0, some (.ref x), l2, l3] (.ref x :: st) h := sx_pur (.aload_n 1) hm_L_law rfl rfl rfl rfl
set_option maxRecDepth 100000 in
theorem s_L_law_638 {xs : List Int32} {l1 l2 l3 : Option Value} {st : List Value} {h : HH} {x : Nat} : sm_run xs n_L_law 638 [some (.ref x), l1, l2, l3] st h = sm_run xs n_L_law 639 [some (.ref x), l1, l2, l3] (.ref x :: st) h := sx_pur (.aload_n 0) hm_L_law rfl rfl rfl rfl
set_option maxRecDepth 100000 in
theorem s_L_law_639 {xs : List Int32} {l0 l1 l2 : Option Value} {st : List Value} {h : HH} {x : Int32} : sm_run xs n_L_law 639 [l0, l1, l2, some (.int x)] st h = sm_run xs n_L_law 640 [l0, l1, l2, some (.int x)] (.int x :: st) h := sx_pur (.iload_n 3) hm_L_law rfl rfl rfl rfl
set_option maxRecDepth 100000 in
theorem s_L_law_640 {xs : List Int32} {l0 l1 l2 l3 : Option Value} {st : List Value} {h : HH} : sm_run xs n_L_law 640 [l0, l1, l2, l3] st h = sm_run xs n_L_law 641 [l0, l1, l2, l3] (.int 1 :: st) h := sx_pur (.iconst 1) hm_L_law rfl rfl rfl rfl
set_option maxRecDepth 100000 in
theorem s_L_law_641 {xs : List Int32} {l0 l1 l2 l3 : Option Value} {st : List Value} {h : HH} {x y : Int32} : sm_run xs n_L_law 641 [l0, l1, l2, l3] (.int y :: .int x :: st) h = sm_run xs n_L_law 642 [l0, l1, l2, l3] (.int (x + y) :: st) h := sx_pur (.iadd) hm_L_law rfl rfl rfl rfl
set_option maxRecDepth 100000 in
theorem s_L_law_642 {xs : List Int32} {l0 l1 l2 l3 : Option Value} {st : List Value} {h : HH} {j : Int32} (hh : h[sm_B + 9]? = none) (hin : sm_inr (some xs) j = true) : sm_run xs n_L_law 642 [l0, l1, l2, l3] (.int j :: .ref (sm_B + 9) :: st) h = sm_run xs n_L_law 643 [l0, l1, l2, l3] (.int (sm_el (some xs) j) :: st) h := sx_sald hm_L_law rfl hh hin
set_option maxRecDepth 100000 in
theorem s_L_law_643 {xs : List Int32} {l0 l1 l2 l3 : Option Value} {st : List Value} {h : HH} {i : Nat} {b0 : Int32} (hs : (st.map fun v => v.category).sum ≤ 8) (hcl : sm_cls h i = some 9) (hc : (sm_call xs n_X9_two [.ref i, .int b0] h).isSome = true) : sm_run xs n_L_law 643 [l0, l1, l2, l3] (.int b0 :: .ref i :: st) h = sm_run xs n_L_law 646 [l0, l1, l2, l3] ((sm_rr (sm_call xs n_X9_two [.ref i, .int b0] h)).toList ++ st) (sm_rh (sm_call xs n_X9_two [.ref i, .int b0] h)) := sx_vrt (ci := 9) (en := (9, 129, 0, [612, 613, 614, 44, 615])) (k := mi_X9_two) (as := [.ref i, .int b0]) (rest := st) hm_L_law rfl vk_13_85 rfl hm_X9_two (by decide) ⟨by show 1 ≤ _; simp only [List.length_cons]; omega, rfl, rfl⟩ hs hcl hc
set_option maxRecDepth 100000 in
theorem s_L_law_646 {xs : List Int32} {l0 l1 l3 : Option Value} {st : List Value} {h : HH} {x : Nat} : sm_run xs n_L_law 646 [l0, l1, some (.ref x), l3] st h = sm_run xs n_L_law 647 [l0, l1, some (.ref x), l3] (.ref x :: st) h := sx_pur (.aload_n 2) hm_L_law rfl rfl rfl rfl
set_option maxRecDepth 100000 in
theorem s_L_law_647 {xs : List Int32} {l1 l2 l3 : Option Value} {st : List Value} {h : HH} {x : Nat} : sm_run xs n_L_law 647 [some (.ref x), l1, l2, l3] st h = sm_run xs n_L_law 648 [some (.ref x), l1, l2, l3] (.ref x :: st) h := sx_pur (.aload_n 0) hm_L_law rfl rfl rfl rfl
set_option maxRecDepth 100000 in
theorem s_L_law_648 {xs : List Int32} {l0 l1 l2 : Option Value} {st : List Value} {h : HH} {x : Int32} : sm_run xs n_L_law 648 [l0, l1, l2, some (.int x)] st h = sm_run xs n_L_law 649 [l0, l1, l2, some (.int x)] (.int x :: st) h := sx_pur (.iload_n 3) hm_L_law rfl rfl rfl rfl
set_option maxRecDepth 100000 in
theorem s_L_law_649 {xs : List Int32} {l0 l1 l2 l3 : Option Value} {st : List Value} {h : HH} : sm_run xs n_L_law 649 [l0, l1, l2, l3] st h = sm_run xs n_L_law 650 [l0, l1, l2, l3] (.int 1 :: st) h := sx_pur (.iconst 1) hm_L_law rfl rfl rfl rfl
set_option maxRecDepth 100000 in
theorem s_L_law_650 {xs : List Int32} {l0 l1 l2 l3 : Option Value} {st : List Value} {h : HH} {x y : Int32} : sm_run xs n_L_law 650 [l0, l1, l2, l3] (.int y :: .int x :: st) h = sm_run xs n_L_law 651 [l0, l1, l2, l3] (.int (x + y) :: st) h := sx_pur (.iadd) hm_L_law rfl rfl rfl rfl
set_option maxRecDepth 100000 in
theorem s_L_law_651 {xs : List Int32} {l0 l1 l2 l3 : Option Value} {st : List Value} {h : HH} {j : Int32} (hh : h[sm_B + 9]? = none) (hin : sm_inr (some xs) j = true) : sm_run xs n_L_law 651 [l0, l1, l2, l3] (.int j :: .ref (sm_B + 9) :: st) h = sm_run xs n_L_law 652 [l0, l1, l2, l3] (.int (sm_el (some xs) j) :: st) h := sx_sald hm_L_law rfl hh hin
set_option maxRecDepth 100000 in
theorem s_L_law_652 {xs : List Int32} {l0 l1 l2 l3 : Option Value} {st : List Value} {h : HH} {i : Nat} {b0 : Int32} (hs : (st.map fun v => v.category).sum ≤ 8) (hcl : sm_cls h i = some 10) (hc : (sm_call xs n_X10_two [.ref i, .int b0] h).isSome = true) : sm_run xs n_L_law 652 [l0, l1, l2, l3] (.int b0 :: .ref i :: st) h = sm_run xs n_L_law 655 [l0, l1, l2, l3] ((sm_rr (sm_call xs n_X10_two [.ref i, .int b0] h)).toList ++ st) (sm_rh (sm_call xs n_X10_two [.ref i, .int b0] h)) := sx_vrt (ci := 10) (en := (10, 132, 0, [980, 981, 982, 55, 983])) (k := mi_X10_two) (as := [.ref i, .int b0]) (rest := st) hm_L_law rfl vk_13_88 rfl hm_X10_two (by decide) ⟨by show 1 ≤ _; simp only [List.length_cons]; omega, rfl, rfl⟩ hs hcl hc
set_option maxRecDepth 100000 in
theorem s_L_law_655 {xs : List Int32} {l0 l1 l2 l3 : Option Value} {st : List Value} {h : HH} {x y : Int32} : sm_run xs n_L_law 655 [l0, l1, l2, l3] (.int y :: .int x :: st) h = if x = y then sm_run xs n_L_law 908 [l0, l1, l2, l3] st h else sm_run xs n_L_law 658 [l0, l1, l2, l3] st h := sx_icmp hm_L_law rfl rfl rfl
set_option maxRecDepth 100000 in
theorem s_L_law_658 {xs : List Int32} {l0 l1 l2 l3 : Option Value} {st : List Value} {h : HH} : sm_run xs n_L_law 658 [l0, l1, l2, l3] st h = sm_run xs n_L_law 659 [l0, l1, l2, l3] (.int 0 :: st) h := sx_pur (.iconst 0) hm_L_law rfl rfl rfl rfl
set_option maxRecDepth 100000 in
theorem s_L_law_659z0 {xs : List Int32} {l0 l1 l2 l3 : Option Value} {h : HH} : sm_run xs n_L_law 659 [l0, l1, l2, l3] [.int 0] h = some (some (.int 0), h) := sm_return hm_L_law rfl rfl
set_option maxRecDepth 100000 in
theorem s_L_law_659z1 {xs : List Int32} {l0 l1 l2 l3 : Option Value} {h : HH} : sm_run xs n_L_law 659 [l0, l1, l2, l3] [.int 1] h = some (some (.int 1), h) := sm_return hm_L_law rfl rfl
set_option maxRecDepth 100000 in
theorem s_L_law_660 {xs : List Int32} {l0 l2 l3 : Option Value} {st : List Value} {h : HH} {x : Nat} : sm_run xs n_L_law 660 [l0, some (.ref x), l2, l3] st h = sm_run xs n_L_law 661 [l0, some (.ref x), l2, l3] (.ref x :: st) h := sx_pur (.aload_n 1) hm_L_law rfl rfl rfl rfl
set_option maxRecDepth 100000 in
theorem s_L_law_661 {xs : List Int32} {l1 l2 l3 : Option Value} {st : List Value} {h : HH} {x : Nat} : sm_run xs n_L_law 661 [some (.ref x), l1, l2, l3] st h = sm_run xs n_L_law 662 [some (.ref x), l1, l2, l3] (.ref x :: st) h := sx_pur (.aload_n 0) hm_L_law rfl rfl rfl rfl
set_option maxRecDepth 100000 in
theorem s_L_law_662 {xs : List Int32} {l0 l1 l2 : Option Value} {st : List Value} {h : HH} {x : Int32} : sm_run xs n_L_law 662 [l0, l1, l2, some (.int x)] st h = sm_run xs n_L_law 663 [l0, l1, l2, some (.int x)] (.int x :: st) h := sx_pur (.iload_n 3) hm_L_law rfl rfl rfl rfl
set_option maxRecDepth 100000 in
theorem s_L_law_663 {xs : List Int32} {l0 l1 l2 l3 : Option Value} {st : List Value} {h : HH} : sm_run xs n_L_law 663 [l0, l1, l2, l3] st h = sm_run xs n_L_law 664 [l0, l1, l2, l3] (.int 1 :: st) h := sx_pur (.iconst 1) hm_L_law rfl rfl rfl rfl
set_option maxRecDepth 100000 in
theorem s_L_law_664 {xs : List Int32} {l0 l1 l2 l3 : Option Value} {st : List Value} {h : HH} {x y : Int32} : sm_run xs n_L_law 664 [l0, l1, l2, l3] (.int y :: .int x :: st) h = sm_run xs n_L_law 665 [l0, l1, l2, l3] (.int (x + y) :: st) h := sx_pur (.iadd) hm_L_law rfl rfl rfl rfl
set_option maxRecDepth 100000 in
theorem s_L_law_665 {xs : List Int32} {l0 l1 l2 l3 : Option Value} {st : List Value} {h : HH} {j : Int32} (hh : h[sm_B + 9]? = none) (hin : sm_inr (some xs) j = true) : sm_run xs n_L_law 665 [l0, l1, l2, l3] (.int j :: .ref (sm_B + 9) :: st) h = sm_run xs n_L_law 666 [l0, l1, l2, l3] (.int (sm_el (some xs) j) :: st) h := sx_sald hm_L_law rfl hh hin
set_option maxRecDepth 100000 in
theorem s_L_law_666 {xs : List Int32} {l1 l2 l3 : Option Value} {st : List Value} {h : HH} {x : Nat} : sm_run xs n_L_law 666 [some (.ref x), l1, l2, l3] st h = sm_run xs n_L_law 667 [some (.ref x), l1, l2, l3] (.ref x :: st) h := sx_pur (.aload_n 0) hm_L_law rfl rfl rfl rfl
set_option maxRecDepth 100000 in
theorem s_L_law_667 {xs : List Int32} {l0 l1 l2 : Option Value} {st : List Value} {h : HH} {x : Int32} : sm_run xs n_L_law 667 [l0, l1, l2, some (.int x)] st h = sm_run xs n_L_law 668 [l0, l1, l2, some (.int x)] (.int x :: st) h := sx_pur (.iload_n 3) hm_L_law rfl rfl rfl rfl
set_option maxRecDepth 100000 in
theorem s_L_law_668 {xs : List Int32} {l0 l1 l2 l3 : Option Value} {st : List Value} {h : HH} : sm_run xs n_L_law 668 [l0, l1, l2, l3] st h = sm_run xs n_L_law 669 [l0, l1, l2, l3] (.int 2 :: st) h := sx_pur (.iconst 2) hm_L_law rfl rfl rfl rfl
set_option maxRecDepth 100000 in
theorem s_L_law_669 {xs : List Int32} {l0 l1 l2 l3 : Option Value} {st : List Value} {h : HH} {x y : Int32} : sm_run xs n_L_law 669 [l0, l1, l2, l3] (.int y :: .int x :: st) h = sm_run xs n_L_law 670 [l0, l1, l2, l3] (.int (x + y) :: st) h := sx_pur (.iadd) hm_L_law rfl rfl rfl rfl
set_option maxRecDepth 100000 in
theorem s_L_law_670 {xs : List Int32} {l0 l1 l2 l3 : Option Value} {st : List Value} {h : HH} {j : Int32} (hh : h[sm_B + 9]? = none) (hin : sm_inr (some xs) j = true) : sm_run xs n_L_law 670 [l0, l1, l2, l3] (.int j :: .ref (sm_B + 9) :: st) h = sm_run xs n_L_law 671 [l0, l1, l2, l3] (.int (sm_el (some xs) j) :: st) h := sx_sald hm_L_law rfl hh hin
set_option maxRecDepth 100000 in
theorem s_L_law_671 {xs : List Int32} {l0 l1 l2 l3 : Option Value} {st : List Value} {h : HH} {i : Nat} {b0 : Int32} {b1 : Int32} (hs : (st.map fun v => v.category).sum ≤ 8) (hcl : sm_cls h i = some 9) (hc : (sm_call xs n_X9_seen [.ref i, .int b0, .int b1] h).isSome = true) : sm_run xs n_L_law 671 [l0, l1, l2, l3] (.int b1 :: .int b0 :: .ref i :: st) h = sm_run xs n_L_law 674 [l0, l1, l2, l3] ((sm_rr (sm_call xs n_X9_seen [.ref i, .int b0, .int b1] h)).toList ++ st) (sm_rh (sm_call xs n_X9_seen [.ref i, .int b0, .int b1] h)) := sx_vrt (ci := 9) (en := (9, 134, 0, [616, 617, 618, 44, 619])) (k := mi_X9_seen) (as := [.ref i, .int b0, .int b1]) (rest := st) hm_L_law rfl vk_13_89 rfl hm_X9_seen (by decide) ⟨by show 2 ≤ _; simp only [List.length_cons]; omega, rfl, rfl⟩ hs hcl hc
set_option maxRecDepth 100000 in
theorem s_L_law_674 {xs : List Int32} {l0 l1 l3 : Option Value} {st : List Value} {h : HH} {x : Nat} : sm_run xs n_L_law 674 [l0, l1, some (.ref x), l3] st h = sm_run xs n_L_law 675 [l0, l1, some (.ref x), l3] (.ref x :: st) h := sx_pur (.aload_n 2) hm_L_law rfl rfl rfl rfl
set_option maxRecDepth 100000 in
theorem s_L_law_675 {xs : List Int32} {l1 l2 l3 : Option Value} {st : List Value} {h : HH} {x : Nat} : sm_run xs n_L_law 675 [some (.ref x), l1, l2, l3] st h = sm_run xs n_L_law 676 [some (.ref x), l1, l2, l3] (.ref x :: st) h := sx_pur (.aload_n 0) hm_L_law rfl rfl rfl rfl
set_option maxRecDepth 100000 in
theorem s_L_law_676 {xs : List Int32} {l0 l1 l2 : Option Value} {st : List Value} {h : HH} {x : Int32} : sm_run xs n_L_law 676 [l0, l1, l2, some (.int x)] st h = sm_run xs n_L_law 677 [l0, l1, l2, some (.int x)] (.int x :: st) h := sx_pur (.iload_n 3) hm_L_law rfl rfl rfl rfl
set_option maxRecDepth 100000 in
theorem s_L_law_677 {xs : List Int32} {l0 l1 l2 l3 : Option Value} {st : List Value} {h : HH} : sm_run xs n_L_law 677 [l0, l1, l2, l3] st h = sm_run xs n_L_law 678 [l0, l1, l2, l3] (.int 1 :: st) h := sx_pur (.iconst 1) hm_L_law rfl rfl rfl rfl
set_option maxRecDepth 100000 in
theorem s_L_law_678 {xs : List Int32} {l0 l1 l2 l3 : Option Value} {st : List Value} {h : HH} {x y : Int32} : sm_run xs n_L_law 678 [l0, l1, l2, l3] (.int y :: .int x :: st) h = sm_run xs n_L_law 679 [l0, l1, l2, l3] (.int (x + y) :: st) h := sx_pur (.iadd) hm_L_law rfl rfl rfl rfl
set_option maxRecDepth 100000 in
theorem s_L_law_679 {xs : List Int32} {l0 l1 l2 l3 : Option Value} {st : List Value} {h : HH} {j : Int32} (hh : h[sm_B + 9]? = none) (hin : sm_inr (some xs) j = true) : sm_run xs n_L_law 679 [l0, l1, l2, l3] (.int j :: .ref (sm_B + 9) :: st) h = sm_run xs n_L_law 680 [l0, l1, l2, l3] (.int (sm_el (some xs) j) :: st) h := sx_sald hm_L_law rfl hh hin
set_option maxRecDepth 100000 in
theorem s_L_law_680 {xs : List Int32} {l1 l2 l3 : Option Value} {st : List Value} {h : HH} {x : Nat} : sm_run xs n_L_law 680 [some (.ref x), l1, l2, l3] st h = sm_run xs n_L_law 681 [some (.ref x), l1, l2, l3] (.ref x :: st) h := sx_pur (.aload_n 0) hm_L_law rfl rfl rfl rfl
set_option maxRecDepth 100000 in
theorem s_L_law_681 {xs : List Int32} {l0 l1 l2 : Option Value} {st : List Value} {h : HH} {x : Int32} : sm_run xs n_L_law 681 [l0, l1, l2, some (.int x)] st h = sm_run xs n_L_law 682 [l0, l1, l2, some (.int x)] (.int x :: st) h := sx_pur (.iload_n 3) hm_L_law rfl rfl rfl rfl
set_option maxRecDepth 100000 in
theorem s_L_law_682 {xs : List Int32} {l0 l1 l2 l3 : Option Value} {st : List Value} {h : HH} : sm_run xs n_L_law 682 [l0, l1, l2, l3] st h = sm_run xs n_L_law 683 [l0, l1, l2, l3] (.int 2 :: st) h := sx_pur (.iconst 2) hm_L_law rfl rfl rfl rfl
set_option maxRecDepth 100000 in
theorem s_L_law_683 {xs : List Int32} {l0 l1 l2 l3 : Option Value} {st : List Value} {h : HH} {x y : Int32} : sm_run xs n_L_law 683 [l0, l1, l2, l3] (.int y :: .int x :: st) h = sm_run xs n_L_law 684 [l0, l1, l2, l3] (.int (x + y) :: st) h := sx_pur (.iadd) hm_L_law rfl rfl rfl rfl
set_option maxRecDepth 100000 in
theorem s_L_law_684 {xs : List Int32} {l0 l1 l2 l3 : Option Value} {st : List Value} {h : HH} {j : Int32} (hh : h[sm_B + 9]? = none) (hin : sm_inr (some xs) j = true) : sm_run xs n_L_law 684 [l0, l1, l2, l3] (.int j :: .ref (sm_B + 9) :: st) h = sm_run xs n_L_law 685 [l0, l1, l2, l3] (.int (sm_el (some xs) j) :: st) h := sx_sald hm_L_law rfl hh hin
set_option maxRecDepth 100000 in
theorem s_L_law_685 {xs : List Int32} {l0 l1 l2 l3 : Option Value} {st : List Value} {h : HH} {i : Nat} {b0 : Int32} {b1 : Int32} (hs : (st.map fun v => v.category).sum ≤ 8) (hcl : sm_cls h i = some 10) (hc : (sm_call xs n_X10_seen [.ref i, .int b0, .int b1] h).isSome = true) : sm_run xs n_L_law 685 [l0, l1, l2, l3] (.int b1 :: .int b0 :: .ref i :: st) h = sm_run xs n_L_law 688 [l0, l1, l2, l3] ((sm_rr (sm_call xs n_X10_seen [.ref i, .int b0, .int b1] h)).toList ++ st) (sm_rh (sm_call xs n_X10_seen [.ref i, .int b0, .int b1] h)) := sx_vrt (ci := 10) (en := (10, 135, 0, [992, 993, 994, 55, 995])) (k := mi_X10_seen) (as := [.ref i, .int b0, .int b1]) (rest := st) hm_L_law rfl vk_13_92 rfl hm_X10_seen (by decide) ⟨by show 2 ≤ _; simp only [List.length_cons]; omega, rfl, rfl⟩ hs hcl hc
set_option maxRecDepth 100000 in
theorem s_L_law_688 {xs : List Int32} {l0 l1 l2 l3 : Option Value} {st : List Value} {h : HH} {x y : Int32} : sm_run xs n_L_law 688 [l0, l1, l2, l3] (.int y :: .int x :: st) h = if x = y then sm_run xs n_L_law 908 [l0, l1, l2, l3] st h else sm_run xs n_L_law 691 [l0, l1, l2, l3] st h := sx_icmp hm_L_law rfl rfl rfl
set_option maxRecDepth 100000 in
theorem s_L_law_691 {xs : List Int32} {l0 l1 l2 l3 : Option Value} {st : List Value} {h : HH} : sm_run xs n_L_law 691 [l0, l1, l2, l3] st h = sm_run xs n_L_law 692 [l0, l1, l2, l3] (.int 0 :: st) h := sx_pur (.iconst 0) hm_L_law rfl rfl rfl rfl
set_option maxRecDepth 100000 in
theorem s_L_law_692z0 {xs : List Int32} {l0 l1 l2 l3 : Option Value} {h : HH} : sm_run xs n_L_law 692 [l0, l1, l2, l3] [.int 0] h = some (some (.int 0), h) := sm_return hm_L_law rfl rfl
set_option maxRecDepth 100000 in
theorem s_L_law_692z1 {xs : List Int32} {l0 l1 l2 l3 : Option Value} {h : HH} : sm_run xs n_L_law 692 [l0, l1, l2, l3] [.int 1] h = some (some (.int 1), h) := sm_return hm_L_law rfl rfl
set_option maxRecDepth 100000 in
theorem s_L_law_693 {xs : List Int32} {l0 l2 l3 : Option Value} {st : List Value} {h : HH} {x : Nat} : sm_run xs n_L_law 693 [l0, some (.ref x), l2, l3] st h = sm_run xs n_L_law 694 [l0, some (.ref x), l2, l3] (.ref x :: st) h := sx_pur (.aload_n 1) hm_L_law rfl rfl rfl rfl
set_option maxRecDepth 100000 in
theorem s_L_law_694 {xs : List Int32} {l0 l1 l2 l3 : Option Value} {st : List Value} {h : HH} {i : Nat} (hs : (st.map fun v => v.category).sum ≤ 8) (hcl : sm_cls h i = some 9) (hc : (sm_call xs n_X9_forget [.ref i] h).isSome = true) : sm_run xs n_L_law 694 [l0, l1, l2, l3] (.ref i :: st) h = sm_run xs n_L_law 697 [l0, l1, l2, l3] ((sm_rr (sm_call xs n_X9_forget [.ref i] h)).toList ++ st) (sm_rh (sm_call xs n_X9_forget [.ref i] h)) := sx_vrt (ci := 9) (en := (9, 136, 0, [624, 625, 626, 44, 627])) (k := mi_X9_forget) (as := [.ref i]) (rest := st) hm_L_law rfl vk_13_93 rfl hm_X9_forget (by decide) ⟨by show 0 ≤ _; simp only [List.length_cons]; omega, rfl, rfl⟩ hs hcl hc
set_option maxRecDepth 100000 in
theorem s_L_law_697 {xs : List Int32} {l0 l1 l3 : Option Value} {st : List Value} {h : HH} {x : Nat} : sm_run xs n_L_law 697 [l0, l1, some (.ref x), l3] st h = sm_run xs n_L_law 698 [l0, l1, some (.ref x), l3] (.ref x :: st) h := sx_pur (.aload_n 2) hm_L_law rfl rfl rfl rfl
set_option maxRecDepth 100000 in
theorem s_L_law_698 {xs : List Int32} {l0 l1 l2 l3 : Option Value} {st : List Value} {h : HH} {i : Nat} (hs : (st.map fun v => v.category).sum ≤ 8) (hcl : sm_cls h i = some 10) (hc : (sm_call xs n_X10_forget [.ref i] h).isSome = true) : sm_run xs n_L_law 698 [l0, l1, l2, l3] (.ref i :: st) h = sm_run xs n_L_law 701 [l0, l1, l2, l3] ((sm_rr (sm_call xs n_X10_forget [.ref i] h)).toList ++ st) (sm_rh (sm_call xs n_X10_forget [.ref i] h)) := sx_vrt (ci := 10) (en := (10, 137, 0, [997, 998, 999, 55, 1000])) (k := mi_X10_forget) (as := [.ref i]) (rest := st) hm_L_law rfl vk_13_96 rfl hm_X10_forget (by decide) ⟨by show 0 ≤ _; simp only [List.length_cons]; omega, rfl, rfl⟩ hs hcl hc
set_option maxRecDepth 100000 in
theorem s_L_law_701 {xs : List Int32} {l0 l1 l2 l3 : Option Value} {st : List Value} {h : HH} {x y : Int32} : sm_run xs n_L_law 701 [l0, l1, l2, l3] (.int y :: .int x :: st) h = if x = y then sm_run xs n_L_law 908 [l0, l1, l2, l3] st h else sm_run xs n_L_law 704 [l0, l1, l2, l3] st h := sx_icmp hm_L_law rfl rfl rfl
set_option maxRecDepth 100000 in
theorem s_L_law_704 {xs : List Int32} {l0 l1 l2 l3 : Option Value} {st : List Value} {h : HH} : sm_run xs n_L_law 704 [l0, l1, l2, l3] st h = sm_run xs n_L_law 705 [l0, l1, l2, l3] (.int 0 :: st) h := sx_pur (.iconst 0) hm_L_law rfl rfl rfl rfl
set_option maxRecDepth 100000 in
theorem s_L_law_705z0 {xs : List Int32} {l0 l1 l2 l3 : Option Value} {h : HH} : sm_run xs n_L_law 705 [l0, l1, l2, l3] [.int 0] h = some (some (.int 0), h) := sm_return hm_L_law rfl rfl
set_option maxRecDepth 100000 in
theorem s_L_law_705z1 {xs : List Int32} {l0 l1 l2 l3 : Option Value} {h : HH} : sm_run xs n_L_law 705 [l0, l1, l2, l3] [.int 1] h = some (some (.int 1), h) := sm_return hm_L_law rfl rfl
set_option maxRecDepth 100000 in
theorem s_L_law_706 {xs : List Int32} {l0 l2 l3 : Option Value} {st : List Value} {h : HH} {x : Nat} : sm_run xs n_L_law 706 [l0, some (.ref x), l2, l3] st h = sm_run xs n_L_law 707 [l0, some (.ref x), l2, l3] (.ref x :: st) h := sx_pur (.aload_n 1) hm_L_law rfl rfl rfl rfl
set_option maxRecDepth 100000 in
theorem s_L_law_707 {xs : List Int32} {l1 l2 l3 : Option Value} {st : List Value} {h : HH} {x : Nat} : sm_run xs n_L_law 707 [some (.ref x), l1, l2, l3] st h = sm_run xs n_L_law 708 [some (.ref x), l1, l2, l3] (.ref x :: st) h := sx_pur (.aload_n 0) hm_L_law rfl rfl rfl rfl
set_option maxRecDepth 100000 in
theorem s_L_law_708 {xs : List Int32} {l0 l1 l2 : Option Value} {st : List Value} {h : HH} {x : Int32} : sm_run xs n_L_law 708 [l0, l1, l2, some (.int x)] st h = sm_run xs n_L_law 709 [l0, l1, l2, some (.int x)] (.int x :: st) h := sx_pur (.iload_n 3) hm_L_law rfl rfl rfl rfl
set_option maxRecDepth 100000 in
theorem s_L_law_709 {xs : List Int32} {l0 l1 l2 l3 : Option Value} {st : List Value} {h : HH} : sm_run xs n_L_law 709 [l0, l1, l2, l3] st h = sm_run xs n_L_law 710 [l0, l1, l2, l3] (.int 1 :: st) h := sx_pur (.iconst 1) hm_L_law rfl rfl rfl rfl
set_option maxRecDepth 100000 in
theorem s_L_law_710 {xs : List Int32} {l0 l1 l2 l3 : Option Value} {st : List Value} {h : HH} {x y : Int32} : sm_run xs n_L_law 710 [l0, l1, l2, l3] (.int y :: .int x :: st) h = sm_run xs n_L_law 711 [l0, l1, l2, l3] (.int (x + y) :: st) h := sx_pur (.iadd) hm_L_law rfl rfl rfl rfl
set_option maxRecDepth 100000 in
theorem s_L_law_711 {xs : List Int32} {l0 l1 l2 l3 : Option Value} {st : List Value} {h : HH} {j : Int32} (hh : h[sm_B + 9]? = none) (hin : sm_inr (some xs) j = true) : sm_run xs n_L_law 711 [l0, l1, l2, l3] (.int j :: .ref (sm_B + 9) :: st) h = sm_run xs n_L_law 712 [l0, l1, l2, l3] (.int (sm_el (some xs) j) :: st) h := sx_sald hm_L_law rfl hh hin
set_option maxRecDepth 100000 in
theorem s_L_law_712 {xs : List Int32} {l0 l1 l2 l3 : Option Value} {st : List Value} {h : HH} {i : Nat} {b0 : Int32} (hs : (st.map fun v => v.category).sum ≤ 8) (hcl : sm_cls h i = some 9) (hc : (sm_call xs n_X9_slopes [.ref i, .int b0] h).isSome = true) : sm_run xs n_L_law 712 [l0, l1, l2, l3] (.int b0 :: .ref i :: st) h = sm_run xs n_L_law 715 [l0, l1, l2, l3] ((sm_rr (sm_call xs n_X9_slopes [.ref i, .int b0] h)).toList ++ st) (sm_rh (sm_call xs n_X9_slopes [.ref i, .int b0] h)) := sx_vrt (ci := 9) (en := (9, 139, 0, [628, 629, 630, 44, 631])) (k := mi_X9_slopes) (as := [.ref i, .int b0]) (rest := st) hm_L_law rfl vk_13_97 rfl hm_X9_slopes (by decide) ⟨by show 1 ≤ _; simp only [List.length_cons]; omega, rfl, rfl⟩ hs hcl hc
set_option maxRecDepth 100000 in
theorem s_L_law_715 {xs : List Int32} {l0 l1 l3 : Option Value} {st : List Value} {h : HH} {x : Nat} : sm_run xs n_L_law 715 [l0, l1, some (.ref x), l3] st h = sm_run xs n_L_law 716 [l0, l1, some (.ref x), l3] (.ref x :: st) h := sx_pur (.aload_n 2) hm_L_law rfl rfl rfl rfl
set_option maxRecDepth 100000 in
theorem s_L_law_716 {xs : List Int32} {l1 l2 l3 : Option Value} {st : List Value} {h : HH} {x : Nat} : sm_run xs n_L_law 716 [some (.ref x), l1, l2, l3] st h = sm_run xs n_L_law 717 [some (.ref x), l1, l2, l3] (.ref x :: st) h := sx_pur (.aload_n 0) hm_L_law rfl rfl rfl rfl
set_option maxRecDepth 100000 in
theorem s_L_law_717 {xs : List Int32} {l0 l1 l2 : Option Value} {st : List Value} {h : HH} {x : Int32} : sm_run xs n_L_law 717 [l0, l1, l2, some (.int x)] st h = sm_run xs n_L_law 718 [l0, l1, l2, some (.int x)] (.int x :: st) h := sx_pur (.iload_n 3) hm_L_law rfl rfl rfl rfl
set_option maxRecDepth 100000 in
theorem s_L_law_718 {xs : List Int32} {l0 l1 l2 l3 : Option Value} {st : List Value} {h : HH} : sm_run xs n_L_law 718 [l0, l1, l2, l3] st h = sm_run xs n_L_law 719 [l0, l1, l2, l3] (.int 1 :: st) h := sx_pur (.iconst 1) hm_L_law rfl rfl rfl rfl
set_option maxRecDepth 100000 in
theorem s_L_law_719 {xs : List Int32} {l0 l1 l2 l3 : Option Value} {st : List Value} {h : HH} {x y : Int32} : sm_run xs n_L_law 719 [l0, l1, l2, l3] (.int y :: .int x :: st) h = sm_run xs n_L_law 720 [l0, l1, l2, l3] (.int (x + y) :: st) h := sx_pur (.iadd) hm_L_law rfl rfl rfl rfl
set_option maxRecDepth 100000 in
theorem s_L_law_720 {xs : List Int32} {l0 l1 l2 l3 : Option Value} {st : List Value} {h : HH} {j : Int32} (hh : h[sm_B + 9]? = none) (hin : sm_inr (some xs) j = true) : sm_run xs n_L_law 720 [l0, l1, l2, l3] (.int j :: .ref (sm_B + 9) :: st) h = sm_run xs n_L_law 721 [l0, l1, l2, l3] (.int (sm_el (some xs) j) :: st) h := sx_sald hm_L_law rfl hh hin
set_option maxRecDepth 100000 in
theorem s_L_law_721 {xs : List Int32} {l0 l1 l2 l3 : Option Value} {st : List Value} {h : HH} {i : Nat} {b0 : Int32} (hs : (st.map fun v => v.category).sum ≤ 8) (hcl : sm_cls h i = some 10) (hc : (sm_call xs n_X10_slopes [.ref i, .int b0] h).isSome = true) : sm_run xs n_L_law 721 [l0, l1, l2, l3] (.int b0 :: .ref i :: st) h = sm_run xs n_L_law 724 [l0, l1, l2, l3] ((sm_rr (sm_call xs n_X10_slopes [.ref i, .int b0] h)).toList ++ st) (sm_rh (sm_call xs n_X10_slopes [.ref i, .int b0] h)) := sx_vrt (ci := 10) (en := (10, 140, 0, [1001, 1002, 1003, 55, 1004])) (k := mi_X10_slopes) (as := [.ref i, .int b0]) (rest := st) hm_L_law rfl vk_13_100 rfl hm_X10_slopes (by decide) ⟨by show 1 ≤ _; simp only [List.length_cons]; omega, rfl, rfl⟩ hs hcl hc
set_option maxRecDepth 100000 in
theorem s_L_law_724 {xs : List Int32} {l0 l1 l2 l3 : Option Value} {st : List Value} {h : HH} {x y : Int32} : sm_run xs n_L_law 724 [l0, l1, l2, l3] (.int y :: .int x :: st) h = if x = y then sm_run xs n_L_law 908 [l0, l1, l2, l3] st h else sm_run xs n_L_law 727 [l0, l1, l2, l3] st h := sx_icmp hm_L_law rfl rfl rfl
set_option maxRecDepth 100000 in
theorem s_L_law_727 {xs : List Int32} {l0 l1 l2 l3 : Option Value} {st : List Value} {h : HH} : sm_run xs n_L_law 727 [l0, l1, l2, l3] st h = sm_run xs n_L_law 728 [l0, l1, l2, l3] (.int 0 :: st) h := sx_pur (.iconst 0) hm_L_law rfl rfl rfl rfl
set_option maxRecDepth 100000 in
theorem s_L_law_728z0 {xs : List Int32} {l0 l1 l2 l3 : Option Value} {h : HH} : sm_run xs n_L_law 728 [l0, l1, l2, l3] [.int 0] h = some (some (.int 0), h) := sm_return hm_L_law rfl rfl
set_option maxRecDepth 100000 in
theorem s_L_law_728z1 {xs : List Int32} {l0 l1 l2 l3 : Option Value} {h : HH} : sm_run xs n_L_law 728 [l0, l1, l2, l3] [.int 1] h = some (some (.int 1), h) := sm_return hm_L_law rfl rfl
set_option maxRecDepth 100000 in
theorem s_L_law_729 {xs : List Int32} {l0 l2 l3 : Option Value} {st : List Value} {h : HH} {x : Nat} : sm_run xs n_L_law 729 [l0, some (.ref x), l2, l3] st h = sm_run xs n_L_law 730 [l0, some (.ref x), l2, l3] (.ref x :: st) h := sx_pur (.aload_n 1) hm_L_law rfl rfl rfl rfl
set_option maxRecDepth 100000 in
theorem s_L_law_730 {xs : List Int32} {l1 l2 l3 : Option Value} {st : List Value} {h : HH} {x : Nat} : sm_run xs n_L_law 730 [some (.ref x), l1, l2, l3] st h = sm_run xs n_L_law 731 [some (.ref x), l1, l2, l3] (.ref x :: st) h := sx_pur (.aload_n 0) hm_L_law rfl rfl rfl rfl
set_option maxRecDepth 100000 in
theorem s_L_law_731 {xs : List Int32} {l0 l1 l2 : Option Value} {st : List Value} {h : HH} {x : Int32} : sm_run xs n_L_law 731 [l0, l1, l2, some (.int x)] st h = sm_run xs n_L_law 732 [l0, l1, l2, some (.int x)] (.int x :: st) h := sx_pur (.iload_n 3) hm_L_law rfl rfl rfl rfl
set_option maxRecDepth 100000 in
theorem s_L_law_732 {xs : List Int32} {l0 l1 l2 l3 : Option Value} {st : List Value} {h : HH} : sm_run xs n_L_law 732 [l0, l1, l2, l3] st h = sm_run xs n_L_law 733 [l0, l1, l2, l3] (.int 1 :: st) h := sx_pur (.iconst 1) hm_L_law rfl rfl rfl rfl
set_option maxRecDepth 100000 in
theorem s_L_law_733 {xs : List Int32} {l0 l1 l2 l3 : Option Value} {st : List Value} {h : HH} {x y : Int32} : sm_run xs n_L_law 733 [l0, l1, l2, l3] (.int y :: .int x :: st) h = sm_run xs n_L_law 734 [l0, l1, l2, l3] (.int (x + y) :: st) h := sx_pur (.iadd) hm_L_law rfl rfl rfl rfl
set_option maxRecDepth 100000 in
theorem s_L_law_734 {xs : List Int32} {l0 l1 l2 l3 : Option Value} {st : List Value} {h : HH} {j : Int32} (hh : h[sm_B + 9]? = none) (hin : sm_inr (some xs) j = true) : sm_run xs n_L_law 734 [l0, l1, l2, l3] (.int j :: .ref (sm_B + 9) :: st) h = sm_run xs n_L_law 735 [l0, l1, l2, l3] (.int (sm_el (some xs) j) :: st) h := sx_sald hm_L_law rfl hh hin
set_option maxRecDepth 100000 in
theorem s_L_law_735 {xs : List Int32} {l1 l2 l3 : Option Value} {st : List Value} {h : HH} {x : Nat} : sm_run xs n_L_law 735 [some (.ref x), l1, l2, l3] st h = sm_run xs n_L_law 736 [some (.ref x), l1, l2, l3] (.ref x :: st) h := sx_pur (.aload_n 0) hm_L_law rfl rfl rfl rfl
set_option maxRecDepth 100000 in
theorem s_L_law_736 {xs : List Int32} {l0 l1 l2 : Option Value} {st : List Value} {h : HH} {x : Int32} : sm_run xs n_L_law 736 [l0, l1, l2, some (.int x)] st h = sm_run xs n_L_law 737 [l0, l1, l2, some (.int x)] (.int x :: st) h := sx_pur (.iload_n 3) hm_L_law rfl rfl rfl rfl
set_option maxRecDepth 100000 in
theorem s_L_law_737 {xs : List Int32} {l0 l1 l2 l3 : Option Value} {st : List Value} {h : HH} : sm_run xs n_L_law 737 [l0, l1, l2, l3] st h = sm_run xs n_L_law 738 [l0, l1, l2, l3] (.int 2 :: st) h := sx_pur (.iconst 2) hm_L_law rfl rfl rfl rfl
set_option maxRecDepth 100000 in
theorem s_L_law_738 {xs : List Int32} {l0 l1 l2 l3 : Option Value} {st : List Value} {h : HH} {x y : Int32} : sm_run xs n_L_law 738 [l0, l1, l2, l3] (.int y :: .int x :: st) h = sm_run xs n_L_law 739 [l0, l1, l2, l3] (.int (x + y) :: st) h := sx_pur (.iadd) hm_L_law rfl rfl rfl rfl
set_option maxRecDepth 100000 in
theorem s_L_law_739 {xs : List Int32} {l0 l1 l2 l3 : Option Value} {st : List Value} {h : HH} {j : Int32} (hh : h[sm_B + 9]? = none) (hin : sm_inr (some xs) j = true) : sm_run xs n_L_law 739 [l0, l1, l2, l3] (.int j :: .ref (sm_B + 9) :: st) h = sm_run xs n_L_law 740 [l0, l1, l2, l3] (.int (sm_el (some xs) j) :: st) h := sx_sald hm_L_law rfl hh hin
set_option maxRecDepth 100000 in
theorem s_L_law_740 {xs : List Int32} {l1 l2 l3 : Option Value} {st : List Value} {h : HH} {x : Nat} : sm_run xs n_L_law 740 [some (.ref x), l1, l2, l3] st h = sm_run xs n_L_law 741 [some (.ref x), l1, l2, l3] (.ref x :: st) h := sx_pur (.aload_n 0) hm_L_law rfl rfl rfl rfl
set_option maxRecDepth 100000 in
theorem s_L_law_741 {xs : List Int32} {l0 l1 l2 : Option Value} {st : List Value} {h : HH} {x : Int32} : sm_run xs n_L_law 741 [l0, l1, l2, some (.int x)] st h = sm_run xs n_L_law 742 [l0, l1, l2, some (.int x)] (.int x :: st) h := sx_pur (.iload_n 3) hm_L_law rfl rfl rfl rfl
set_option maxRecDepth 100000 in
theorem s_L_law_742 {xs : List Int32} {l0 l1 l2 l3 : Option Value} {st : List Value} {h : HH} : sm_run xs n_L_law 742 [l0, l1, l2, l3] st h = sm_run xs n_L_law 743 [l0, l1, l2, l3] (.int 3 :: st) h := sx_pur (.iconst 3) hm_L_law rfl rfl rfl rfl
set_option maxRecDepth 100000 in
theorem s_L_law_743 {xs : List Int32} {l0 l1 l2 l3 : Option Value} {st : List Value} {h : HH} {x y : Int32} : sm_run xs n_L_law 743 [l0, l1, l2, l3] (.int y :: .int x :: st) h = sm_run xs n_L_law 744 [l0, l1, l2, l3] (.int (x + y) :: st) h := sx_pur (.iadd) hm_L_law rfl rfl rfl rfl
set_option maxRecDepth 100000 in
theorem s_L_law_744 {xs : List Int32} {l0 l1 l2 l3 : Option Value} {st : List Value} {h : HH} {j : Int32} (hh : h[sm_B + 9]? = none) (hin : sm_inr (some xs) j = true) : sm_run xs n_L_law 744 [l0, l1, l2, l3] (.int j :: .ref (sm_B + 9) :: st) h = sm_run xs n_L_law 745 [l0, l1, l2, l3] (.int (sm_el (some xs) j) :: st) h := sx_sald hm_L_law rfl hh hin
set_option maxRecDepth 100000 in
theorem s_L_law_745 {xs : List Int32} {l1 l2 l3 : Option Value} {st : List Value} {h : HH} {x : Nat} : sm_run xs n_L_law 745 [some (.ref x), l1, l2, l3] st h = sm_run xs n_L_law 746 [some (.ref x), l1, l2, l3] (.ref x :: st) h := sx_pur (.aload_n 0) hm_L_law rfl rfl rfl rfl
set_option maxRecDepth 100000 in
theorem s_L_law_746 {xs : List Int32} {l0 l1 l2 : Option Value} {st : List Value} {h : HH} {x : Int32} : sm_run xs n_L_law 746 [l0, l1, l2, some (.int x)] st h = sm_run xs n_L_law 747 [l0, l1, l2, some (.int x)] (.int x :: st) h := sx_pur (.iload_n 3) hm_L_law rfl rfl rfl rfl
set_option maxRecDepth 100000 in
theorem s_L_law_747 {xs : List Int32} {l0 l1 l2 l3 : Option Value} {st : List Value} {h : HH} : sm_run xs n_L_law 747 [l0, l1, l2, l3] st h = sm_run xs n_L_law 748 [l0, l1, l2, l3] (.int 4 :: st) h := sx_pur (.iconst 4) hm_L_law rfl rfl rfl rfl
set_option maxRecDepth 100000 in
theorem s_L_law_748 {xs : List Int32} {l0 l1 l2 l3 : Option Value} {st : List Value} {h : HH} {x y : Int32} : sm_run xs n_L_law 748 [l0, l1, l2, l3] (.int y :: .int x :: st) h = sm_run xs n_L_law 749 [l0, l1, l2, l3] (.int (x + y) :: st) h := sx_pur (.iadd) hm_L_law rfl rfl rfl rfl
set_option maxRecDepth 100000 in
theorem s_L_law_749 {xs : List Int32} {l0 l1 l2 l3 : Option Value} {st : List Value} {h : HH} {j : Int32} (hh : h[sm_B + 9]? = none) (hin : sm_inr (some xs) j = true) : sm_run xs n_L_law 749 [l0, l1, l2, l3] (.int j :: .ref (sm_B + 9) :: st) h = sm_run xs n_L_law 750 [l0, l1, l2, l3] (.int (sm_el (some xs) j) :: st) h := sx_sald hm_L_law rfl hh hin
set_option maxRecDepth 100000 in
theorem s_L_law_750 {xs : List Int32} {l0 l1 l2 l3 : Option Value} {st : List Value} {h : HH} {i : Nat} {b0 : Int32} {b1 : Int32} {b2 : Int32} {b3 : Int32} (hs : (st.map fun v => v.category).sum ≤ 8) (hcl : sm_cls h i = some 9) (hc : (sm_call xs n_X9_ruin [.ref i, .int b0, .int b1, .int b2, .int b3] h).isSome = true) : sm_run xs n_L_law 750 [l0, l1, l2, l3] (.int b3 :: .int b2 :: .int b1 :: .int b0 :: .ref i :: st) h = sm_run xs n_L_law 753 [l0, l1, l2, l3] ((sm_rr (sm_call xs n_X9_ruin [.ref i, .int b0, .int b1, .int b2, .int b3] h)).toList ++ st) (sm_rh (sm_call xs n_X9_ruin [.ref i, .int b0, .int b1, .int b2, .int b3] h)) := sx_vrt (ci := 9) (en := (9, 143, 0, [638, 639, 640, 44, 641])) (k := mi_X9_ruin) (as := [.ref i, .int b0, .int b1, .int b2, .int b3]) (rest := st) hm_L_law rfl vk_13_101 rfl hm_X9_ruin (by decide) ⟨by show 4 ≤ _; simp only [List.length_cons]; omega, rfl, rfl⟩ hs hcl hc
set_option maxRecDepth 100000 in
theorem s_L_law_753 {xs : List Int32} {l0 l1 l3 : Option Value} {st : List Value} {h : HH} {x : Nat} : sm_run xs n_L_law 753 [l0, l1, some (.ref x), l3] st h = sm_run xs n_L_law 754 [l0, l1, some (.ref x), l3] (.ref x :: st) h := sx_pur (.aload_n 2) hm_L_law rfl rfl rfl rfl
set_option maxRecDepth 100000 in
theorem s_L_law_754 {xs : List Int32} {l1 l2 l3 : Option Value} {st : List Value} {h : HH} {x : Nat} : sm_run xs n_L_law 754 [some (.ref x), l1, l2, l3] st h = sm_run xs n_L_law 755 [some (.ref x), l1, l2, l3] (.ref x :: st) h := sx_pur (.aload_n 0) hm_L_law rfl rfl rfl rfl
set_option maxRecDepth 100000 in
theorem s_L_law_755 {xs : List Int32} {l0 l1 l2 : Option Value} {st : List Value} {h : HH} {x : Int32} : sm_run xs n_L_law 755 [l0, l1, l2, some (.int x)] st h = sm_run xs n_L_law 756 [l0, l1, l2, some (.int x)] (.int x :: st) h := sx_pur (.iload_n 3) hm_L_law rfl rfl rfl rfl
set_option maxRecDepth 100000 in
theorem s_L_law_756 {xs : List Int32} {l0 l1 l2 l3 : Option Value} {st : List Value} {h : HH} : sm_run xs n_L_law 756 [l0, l1, l2, l3] st h = sm_run xs n_L_law 757 [l0, l1, l2, l3] (.int 1 :: st) h := sx_pur (.iconst 1) hm_L_law rfl rfl rfl rfl
set_option maxRecDepth 100000 in
theorem s_L_law_757 {xs : List Int32} {l0 l1 l2 l3 : Option Value} {st : List Value} {h : HH} {x y : Int32} : sm_run xs n_L_law 757 [l0, l1, l2, l3] (.int y :: .int x :: st) h = sm_run xs n_L_law 758 [l0, l1, l2, l3] (.int (x + y) :: st) h := sx_pur (.iadd) hm_L_law rfl rfl rfl rfl
set_option maxRecDepth 100000 in
theorem s_L_law_758 {xs : List Int32} {l0 l1 l2 l3 : Option Value} {st : List Value} {h : HH} {j : Int32} (hh : h[sm_B + 9]? = none) (hin : sm_inr (some xs) j = true) : sm_run xs n_L_law 758 [l0, l1, l2, l3] (.int j :: .ref (sm_B + 9) :: st) h = sm_run xs n_L_law 759 [l0, l1, l2, l3] (.int (sm_el (some xs) j) :: st) h := sx_sald hm_L_law rfl hh hin
set_option maxRecDepth 100000 in
theorem s_L_law_759 {xs : List Int32} {l1 l2 l3 : Option Value} {st : List Value} {h : HH} {x : Nat} : sm_run xs n_L_law 759 [some (.ref x), l1, l2, l3] st h = sm_run xs n_L_law 760 [some (.ref x), l1, l2, l3] (.ref x :: st) h := sx_pur (.aload_n 0) hm_L_law rfl rfl rfl rfl
set_option maxRecDepth 100000 in
theorem s_L_law_760 {xs : List Int32} {l0 l1 l2 : Option Value} {st : List Value} {h : HH} {x : Int32} : sm_run xs n_L_law 760 [l0, l1, l2, some (.int x)] st h = sm_run xs n_L_law 761 [l0, l1, l2, some (.int x)] (.int x :: st) h := sx_pur (.iload_n 3) hm_L_law rfl rfl rfl rfl
set_option maxRecDepth 100000 in
theorem s_L_law_761 {xs : List Int32} {l0 l1 l2 l3 : Option Value} {st : List Value} {h : HH} : sm_run xs n_L_law 761 [l0, l1, l2, l3] st h = sm_run xs n_L_law 762 [l0, l1, l2, l3] (.int 2 :: st) h := sx_pur (.iconst 2) hm_L_law rfl rfl rfl rfl
set_option maxRecDepth 100000 in
theorem s_L_law_762 {xs : List Int32} {l0 l1 l2 l3 : Option Value} {st : List Value} {h : HH} {x y : Int32} : sm_run xs n_L_law 762 [l0, l1, l2, l3] (.int y :: .int x :: st) h = sm_run xs n_L_law 763 [l0, l1, l2, l3] (.int (x + y) :: st) h := sx_pur (.iadd) hm_L_law rfl rfl rfl rfl
set_option maxRecDepth 100000 in
theorem s_L_law_763 {xs : List Int32} {l0 l1 l2 l3 : Option Value} {st : List Value} {h : HH} {j : Int32} (hh : h[sm_B + 9]? = none) (hin : sm_inr (some xs) j = true) : sm_run xs n_L_law 763 [l0, l1, l2, l3] (.int j :: .ref (sm_B + 9) :: st) h = sm_run xs n_L_law 764 [l0, l1, l2, l3] (.int (sm_el (some xs) j) :: st) h := sx_sald hm_L_law rfl hh hin
set_option maxRecDepth 100000 in
theorem s_L_law_764 {xs : List Int32} {l1 l2 l3 : Option Value} {st : List Value} {h : HH} {x : Nat} : sm_run xs n_L_law 764 [some (.ref x), l1, l2, l3] st h = sm_run xs n_L_law 765 [some (.ref x), l1, l2, l3] (.ref x :: st) h := sx_pur (.aload_n 0) hm_L_law rfl rfl rfl rfl
set_option maxRecDepth 100000 in
theorem s_L_law_765 {xs : List Int32} {l0 l1 l2 : Option Value} {st : List Value} {h : HH} {x : Int32} : sm_run xs n_L_law 765 [l0, l1, l2, some (.int x)] st h = sm_run xs n_L_law 766 [l0, l1, l2, some (.int x)] (.int x :: st) h := sx_pur (.iload_n 3) hm_L_law rfl rfl rfl rfl
set_option maxRecDepth 100000 in
theorem s_L_law_766 {xs : List Int32} {l0 l1 l2 l3 : Option Value} {st : List Value} {h : HH} : sm_run xs n_L_law 766 [l0, l1, l2, l3] st h = sm_run xs n_L_law 767 [l0, l1, l2, l3] (.int 3 :: st) h := sx_pur (.iconst 3) hm_L_law rfl rfl rfl rfl
set_option maxRecDepth 100000 in
theorem s_L_law_767 {xs : List Int32} {l0 l1 l2 l3 : Option Value} {st : List Value} {h : HH} {x y : Int32} : sm_run xs n_L_law 767 [l0, l1, l2, l3] (.int y :: .int x :: st) h = sm_run xs n_L_law 768 [l0, l1, l2, l3] (.int (x + y) :: st) h := sx_pur (.iadd) hm_L_law rfl rfl rfl rfl
set_option maxRecDepth 100000 in
theorem s_L_law_768 {xs : List Int32} {l0 l1 l2 l3 : Option Value} {st : List Value} {h : HH} {j : Int32} (hh : h[sm_B + 9]? = none) (hin : sm_inr (some xs) j = true) : sm_run xs n_L_law 768 [l0, l1, l2, l3] (.int j :: .ref (sm_B + 9) :: st) h = sm_run xs n_L_law 769 [l0, l1, l2, l3] (.int (sm_el (some xs) j) :: st) h := sx_sald hm_L_law rfl hh hin
set_option maxRecDepth 100000 in
theorem s_L_law_769 {xs : List Int32} {l1 l2 l3 : Option Value} {st : List Value} {h : HH} {x : Nat} : sm_run xs n_L_law 769 [some (.ref x), l1, l2, l3] st h = sm_run xs n_L_law 770 [some (.ref x), l1, l2, l3] (.ref x :: st) h := sx_pur (.aload_n 0) hm_L_law rfl rfl rfl rfl
set_option maxRecDepth 100000 in
theorem s_L_law_770 {xs : List Int32} {l0 l1 l2 : Option Value} {st : List Value} {h : HH} {x : Int32} : sm_run xs n_L_law 770 [l0, l1, l2, some (.int x)] st h = sm_run xs n_L_law 771 [l0, l1, l2, some (.int x)] (.int x :: st) h := sx_pur (.iload_n 3) hm_L_law rfl rfl rfl rfl
set_option maxRecDepth 100000 in
theorem s_L_law_771 {xs : List Int32} {l0 l1 l2 l3 : Option Value} {st : List Value} {h : HH} : sm_run xs n_L_law 771 [l0, l1, l2, l3] st h = sm_run xs n_L_law 772 [l0, l1, l2, l3] (.int 4 :: st) h := sx_pur (.iconst 4) hm_L_law rfl rfl rfl rfl
set_option maxRecDepth 100000 in
theorem s_L_law_772 {xs : List Int32} {l0 l1 l2 l3 : Option Value} {st : List Value} {h : HH} {x y : Int32} : sm_run xs n_L_law 772 [l0, l1, l2, l3] (.int y :: .int x :: st) h = sm_run xs n_L_law 773 [l0, l1, l2, l3] (.int (x + y) :: st) h := sx_pur (.iadd) hm_L_law rfl rfl rfl rfl
set_option maxRecDepth 100000 in
theorem s_L_law_773 {xs : List Int32} {l0 l1 l2 l3 : Option Value} {st : List Value} {h : HH} {j : Int32} (hh : h[sm_B + 9]? = none) (hin : sm_inr (some xs) j = true) : sm_run xs n_L_law 773 [l0, l1, l2, l3] (.int j :: .ref (sm_B + 9) :: st) h = sm_run xs n_L_law 774 [l0, l1, l2, l3] (.int (sm_el (some xs) j) :: st) h := sx_sald hm_L_law rfl hh hin
set_option maxRecDepth 100000 in
theorem s_L_law_774 {xs : List Int32} {l0 l1 l2 l3 : Option Value} {st : List Value} {h : HH} {i : Nat} {b0 : Int32} {b1 : Int32} {b2 : Int32} {b3 : Int32} (hs : (st.map fun v => v.category).sum ≤ 8) (hcl : sm_cls h i = some 10) (hc : (sm_call xs n_X10_ruin [.ref i, .int b0, .int b1, .int b2, .int b3] h).isSome = true) : sm_run xs n_L_law 774 [l0, l1, l2, l3] (.int b3 :: .int b2 :: .int b1 :: .int b0 :: .ref i :: st) h = sm_run xs n_L_law 777 [l0, l1, l2, l3] ((sm_rr (sm_call xs n_X10_ruin [.ref i, .int b0, .int b1, .int b2, .int b3] h)).toList ++ st) (sm_rh (sm_call xs n_X10_ruin [.ref i, .int b0, .int b1, .int b2, .int b3] h)) := sx_vrt (ci := 10) (en := (10, 145, 0, [1005, 1006, 1007, 55, 1008])) (k := mi_X10_ruin) (as := [.ref i, .int b0, .int b1, .int b2, .int b3]) (rest := st) hm_L_law rfl vk_13_105 rfl hm_X10_ruin (by decide) ⟨by show 4 ≤ _; simp only [List.length_cons]; omega, rfl, rfl⟩ hs hcl hc
set_option maxRecDepth 100000 in
theorem s_L_law_777 {xs : List Int32} {l0 l1 l2 l3 : Option Value} {st : List Value} {h : HH} {x y : Int64} : sm_run xs n_L_law 777 [l0, l1, l2, l3] (.long y :: .long x :: st) h = sm_run xs n_L_law 778 [l0, l1, l2, l3] (.int (lg_cmp x y) :: st) h := sx_pur (.lcmp) hm_L_law rfl rfl rfl rfl
set_option maxRecDepth 100000 in
theorem s_L_law_778 {xs : List Int32} {l0 l1 l2 l3 : Option Value} {st : List Value} {h : HH} {x : Int32} : sm_run xs n_L_law 778 [l0, l1, l2, l3] (.int x :: st) h = if x = 0 then sm_run xs n_L_law 908 [l0, l1, l2, l3] st h else sm_run xs n_L_law 781 [l0, l1, l2, l3] st h := sx_if hm_L_law rfl rfl rfl
set_option maxRecDepth 100000 in
theorem s_L_law_781 {xs : List Int32} {l0 l1 l2 l3 : Option Value} {st : List Value} {h : HH} : sm_run xs n_L_law 781 [l0, l1, l2, l3] st h = sm_run xs n_L_law 782 [l0, l1, l2, l3] (.int 0 :: st) h := sx_pur (.iconst 0) hm_L_law rfl rfl rfl rfl
set_option maxRecDepth 100000 in
theorem s_L_law_782z0 {xs : List Int32} {l0 l1 l2 l3 : Option Value} {h : HH} : sm_run xs n_L_law 782 [l0, l1, l2, l3] [.int 0] h = some (some (.int 0), h) := sm_return hm_L_law rfl rfl
set_option maxRecDepth 100000 in
theorem s_L_law_782z1 {xs : List Int32} {l0 l1 l2 l3 : Option Value} {h : HH} : sm_run xs n_L_law 782 [l0, l1, l2, l3] [.int 1] h = some (some (.int 1), h) := sm_return hm_L_law rfl rfl
set_option maxRecDepth 100000 in
theorem s_L_law_783 {xs : List Int32} {l0 l2 l3 : Option Value} {st : List Value} {h : HH} {x : Nat} : sm_run xs n_L_law 783 [l0, some (.ref x), l2, l3] st h = sm_run xs n_L_law 784 [l0, some (.ref x), l2, l3] (.ref x :: st) h := sx_pur (.aload_n 1) hm_L_law rfl rfl rfl rfl
set_option maxRecDepth 100000 in
theorem s_L_law_784 {xs : List Int32} {l0 l1 l2 l3 : Option Value} {st : List Value} {h : HH} {i : Nat} (hs : (st.map fun v => v.category).sum ≤ 8) (hcl : sm_cls h i = some 9) (hc : (sm_call xs n_X9_netted [.ref i] h).isSome = true) : sm_run xs n_L_law 784 [l0, l1, l2, l3] (.ref i :: st) h = sm_run xs n_L_law 787 [l0, l1, l2, l3] ((sm_rr (sm_call xs n_X9_netted [.ref i] h)).toList ++ st) (sm_rh (sm_call xs n_X9_netted [.ref i] h)) := sx_vrt (ci := 9) (en := (9, 149, 0, [652, 653, 654, 44, 655])) (k := mi_X9_netted) (as := [.ref i]) (rest := st) hm_L_law rfl vk_13_106 rfl hm_X9_netted (by decide) ⟨by show 0 ≤ _; simp only [List.length_cons]; omega, rfl, rfl⟩ hs hcl hc
set_option maxRecDepth 100000 in
theorem s_L_law_787 {xs : List Int32} {l0 l1 l3 : Option Value} {st : List Value} {h : HH} {x : Nat} : sm_run xs n_L_law 787 [l0, l1, some (.ref x), l3] st h = sm_run xs n_L_law 788 [l0, l1, some (.ref x), l3] (.ref x :: st) h := sx_pur (.aload_n 2) hm_L_law rfl rfl rfl rfl
set_option maxRecDepth 100000 in
theorem s_L_law_788 {xs : List Int32} {l0 l1 l2 l3 : Option Value} {st : List Value} {h : HH} {i : Nat} (hs : (st.map fun v => v.category).sum ≤ 8) (hcl : sm_cls h i = some 10) (hc : (sm_call xs n_X10_netted [.ref i] h).isSome = true) : sm_run xs n_L_law 788 [l0, l1, l2, l3] (.ref i :: st) h = sm_run xs n_L_law 791 [l0, l1, l2, l3] ((sm_rr (sm_call xs n_X10_netted [.ref i] h)).toList ++ st) (sm_rh (sm_call xs n_X10_netted [.ref i] h)) := sx_vrt (ci := 10) (en := (10, 151, 0, [1015, 1016, 1017, 55, 1018])) (k := mi_X10_netted) (as := [.ref i]) (rest := st) hm_L_law rfl vk_13_109 rfl hm_X10_netted (by decide) ⟨by show 0 ≤ _; simp only [List.length_cons]; omega, rfl, rfl⟩ hs hcl hc
set_option maxRecDepth 100000 in
theorem s_L_law_791 {xs : List Int32} {l0 l1 l2 l3 : Option Value} {st : List Value} {h : HH} {x y : Int32} : sm_run xs n_L_law 791 [l0, l1, l2, l3] (.int y :: .int x :: st) h = if x = y then sm_run xs n_L_law 908 [l0, l1, l2, l3] st h else sm_run xs n_L_law 794 [l0, l1, l2, l3] st h := sx_icmp hm_L_law rfl rfl rfl
set_option maxRecDepth 100000 in
theorem s_L_law_794 {xs : List Int32} {l0 l1 l2 l3 : Option Value} {st : List Value} {h : HH} : sm_run xs n_L_law 794 [l0, l1, l2, l3] st h = sm_run xs n_L_law 795 [l0, l1, l2, l3] (.int 0 :: st) h := sx_pur (.iconst 0) hm_L_law rfl rfl rfl rfl
set_option maxRecDepth 100000 in
theorem s_L_law_795z0 {xs : List Int32} {l0 l1 l2 l3 : Option Value} {h : HH} : sm_run xs n_L_law 795 [l0, l1, l2, l3] [.int 0] h = some (some (.int 0), h) := sm_return hm_L_law rfl rfl
set_option maxRecDepth 100000 in
theorem s_L_law_795z1 {xs : List Int32} {l0 l1 l2 l3 : Option Value} {h : HH} : sm_run xs n_L_law 795 [l0, l1, l2, l3] [.int 1] h = some (some (.int 1), h) := sm_return hm_L_law rfl rfl
set_option maxRecDepth 100000 in
theorem s_L_law_796 {xs : List Int32} {l0 l2 l3 : Option Value} {st : List Value} {h : HH} {x : Nat} : sm_run xs n_L_law 796 [l0, some (.ref x), l2, l3] st h = sm_run xs n_L_law 797 [l0, some (.ref x), l2, l3] (.ref x :: st) h := sx_pur (.aload_n 1) hm_L_law rfl rfl rfl rfl
set_option maxRecDepth 100000 in
theorem s_L_law_797 {xs : List Int32} {l1 l2 l3 : Option Value} {st : List Value} {h : HH} {x : Nat} : sm_run xs n_L_law 797 [some (.ref x), l1, l2, l3] st h = sm_run xs n_L_law 798 [some (.ref x), l1, l2, l3] (.ref x :: st) h := sx_pur (.aload_n 0) hm_L_law rfl rfl rfl rfl
set_option maxRecDepth 100000 in
theorem s_L_law_798 {xs : List Int32} {l0 l1 l2 : Option Value} {st : List Value} {h : HH} {x : Int32} : sm_run xs n_L_law 798 [l0, l1, l2, some (.int x)] st h = sm_run xs n_L_law 799 [l0, l1, l2, some (.int x)] (.int x :: st) h := sx_pur (.iload_n 3) hm_L_law rfl rfl rfl rfl
set_option maxRecDepth 100000 in
theorem s_L_law_799 {xs : List Int32} {l0 l1 l2 l3 : Option Value} {st : List Value} {h : HH} : sm_run xs n_L_law 799 [l0, l1, l2, l3] st h = sm_run xs n_L_law 800 [l0, l1, l2, l3] (.int 1 :: st) h := sx_pur (.iconst 1) hm_L_law rfl rfl rfl rfl
set_option maxRecDepth 100000 in
theorem s_L_law_800 {xs : List Int32} {l0 l1 l2 l3 : Option Value} {st : List Value} {h : HH} {x y : Int32} : sm_run xs n_L_law 800 [l0, l1, l2, l3] (.int y :: .int x :: st) h = sm_run xs n_L_law 801 [l0, l1, l2, l3] (.int (x + y) :: st) h := sx_pur (.iadd) hm_L_law rfl rfl rfl rfl
set_option maxRecDepth 100000 in
theorem s_L_law_801 {xs : List Int32} {l0 l1 l2 l3 : Option Value} {st : List Value} {h : HH} {j : Int32} (hh : h[sm_B + 9]? = none) (hin : sm_inr (some xs) j = true) : sm_run xs n_L_law 801 [l0, l1, l2, l3] (.int j :: .ref (sm_B + 9) :: st) h = sm_run xs n_L_law 802 [l0, l1, l2, l3] (.int (sm_el (some xs) j) :: st) h := sx_sald hm_L_law rfl hh hin
set_option maxRecDepth 100000 in
theorem s_L_law_802 {xs : List Int32} {l0 l1 l2 l3 : Option Value} {st : List Value} {h : HH} {i : Nat} {b0 : Int32} (hs : (st.map fun v => v.category).sum ≤ 8) (hcl : sm_cls h i = some 9) (hc : (sm_call xs n_X9_ring [.ref i, .int b0] h).isSome = true) : sm_run xs n_L_law 802 [l0, l1, l2, l3] (.int b0 :: .ref i :: st) h = sm_run xs n_L_law 805 [l0, l1, l2, l3] ((sm_rr (sm_call xs n_X9_ring [.ref i, .int b0] h)).toList ++ st) (sm_rh (sm_call xs n_X9_ring [.ref i, .int b0] h)) := sx_vrt (ci := 9) (en := (9, 153, 0, [670, 671, 672, 44, 673])) (k := mi_X9_ring) (as := [.ref i, .int b0]) (rest := st) hm_L_law rfl vk_13_110 rfl hm_X9_ring (by decide) ⟨by show 1 ≤ _; simp only [List.length_cons]; omega, rfl, rfl⟩ hs hcl hc
set_option maxRecDepth 100000 in
theorem s_L_law_805 {xs : List Int32} {l0 l1 l3 : Option Value} {st : List Value} {h : HH} {x : Nat} : sm_run xs n_L_law 805 [l0, l1, some (.ref x), l3] st h = sm_run xs n_L_law 806 [l0, l1, some (.ref x), l3] (.ref x :: st) h := sx_pur (.aload_n 2) hm_L_law rfl rfl rfl rfl
set_option maxRecDepth 100000 in
theorem s_L_law_806 {xs : List Int32} {l1 l2 l3 : Option Value} {st : List Value} {h : HH} {x : Nat} : sm_run xs n_L_law 806 [some (.ref x), l1, l2, l3] st h = sm_run xs n_L_law 807 [some (.ref x), l1, l2, l3] (.ref x :: st) h := sx_pur (.aload_n 0) hm_L_law rfl rfl rfl rfl
set_option maxRecDepth 100000 in
theorem s_L_law_807 {xs : List Int32} {l0 l1 l2 : Option Value} {st : List Value} {h : HH} {x : Int32} : sm_run xs n_L_law 807 [l0, l1, l2, some (.int x)] st h = sm_run xs n_L_law 808 [l0, l1, l2, some (.int x)] (.int x :: st) h := sx_pur (.iload_n 3) hm_L_law rfl rfl rfl rfl
set_option maxRecDepth 100000 in
theorem s_L_law_808 {xs : List Int32} {l0 l1 l2 l3 : Option Value} {st : List Value} {h : HH} : sm_run xs n_L_law 808 [l0, l1, l2, l3] st h = sm_run xs n_L_law 809 [l0, l1, l2, l3] (.int 1 :: st) h := sx_pur (.iconst 1) hm_L_law rfl rfl rfl rfl
set_option maxRecDepth 100000 in
theorem s_L_law_809 {xs : List Int32} {l0 l1 l2 l3 : Option Value} {st : List Value} {h : HH} {x y : Int32} : sm_run xs n_L_law 809 [l0, l1, l2, l3] (.int y :: .int x :: st) h = sm_run xs n_L_law 810 [l0, l1, l2, l3] (.int (x + y) :: st) h := sx_pur (.iadd) hm_L_law rfl rfl rfl rfl
set_option maxRecDepth 100000 in
theorem s_L_law_810 {xs : List Int32} {l0 l1 l2 l3 : Option Value} {st : List Value} {h : HH} {j : Int32} (hh : h[sm_B + 9]? = none) (hin : sm_inr (some xs) j = true) : sm_run xs n_L_law 810 [l0, l1, l2, l3] (.int j :: .ref (sm_B + 9) :: st) h = sm_run xs n_L_law 811 [l0, l1, l2, l3] (.int (sm_el (some xs) j) :: st) h := sx_sald hm_L_law rfl hh hin
set_option maxRecDepth 100000 in
theorem s_L_law_811 {xs : List Int32} {l0 l1 l2 l3 : Option Value} {st : List Value} {h : HH} {i : Nat} {b0 : Int32} (hs : (st.map fun v => v.category).sum ≤ 8) (hcl : sm_cls h i = some 10) (hc : (sm_call xs n_X10_ring [.ref i, .int b0] h).isSome = true) : sm_run xs n_L_law 811 [l0, l1, l2, l3] (.int b0 :: .ref i :: st) h = sm_run xs n_L_law 814 [l0, l1, l2, l3] ((sm_rr (sm_call xs n_X10_ring [.ref i, .int b0] h)).toList ++ st) (sm_rh (sm_call xs n_X10_ring [.ref i, .int b0] h)) := sx_vrt (ci := 10) (en := (10, 154, 0, [1023, 1024, 1025, 55, 1026])) (k := mi_X10_ring) (as := [.ref i, .int b0]) (rest := st) hm_L_law rfl vk_13_113 rfl hm_X10_ring (by decide) ⟨by show 1 ≤ _; simp only [List.length_cons]; omega, rfl, rfl⟩ hs hcl hc
set_option maxRecDepth 100000 in
theorem s_L_law_814 {xs : List Int32} {l0 l1 l2 l3 : Option Value} {st : List Value} {h : HH} {x y : Int32} : sm_run xs n_L_law 814 [l0, l1, l2, l3] (.int y :: .int x :: st) h = if x = y then sm_run xs n_L_law 908 [l0, l1, l2, l3] st h else sm_run xs n_L_law 817 [l0, l1, l2, l3] st h := sx_icmp hm_L_law rfl rfl rfl
set_option maxRecDepth 100000 in
theorem s_L_law_817 {xs : List Int32} {l0 l1 l2 l3 : Option Value} {st : List Value} {h : HH} : sm_run xs n_L_law 817 [l0, l1, l2, l3] st h = sm_run xs n_L_law 818 [l0, l1, l2, l3] (.int 0 :: st) h := sx_pur (.iconst 0) hm_L_law rfl rfl rfl rfl
set_option maxRecDepth 100000 in
theorem s_L_law_818z0 {xs : List Int32} {l0 l1 l2 l3 : Option Value} {h : HH} : sm_run xs n_L_law 818 [l0, l1, l2, l3] [.int 0] h = some (some (.int 0), h) := sm_return hm_L_law rfl rfl
set_option maxRecDepth 100000 in
theorem s_L_law_818z1 {xs : List Int32} {l0 l1 l2 l3 : Option Value} {h : HH} : sm_run xs n_L_law 818 [l0, l1, l2, l3] [.int 1] h = some (some (.int 1), h) := sm_return hm_L_law rfl rfl
set_option maxRecDepth 100000 in
theorem s_L_law_819 {xs : List Int32} {l0 l2 l3 : Option Value} {st : List Value} {h : HH} {x : Nat} : sm_run xs n_L_law 819 [l0, some (.ref x), l2, l3] st h = sm_run xs n_L_law 820 [l0, some (.ref x), l2, l3] (.ref x :: st) h := sx_pur (.aload_n 1) hm_L_law rfl rfl rfl rfl
set_option maxRecDepth 100000 in
theorem s_L_law_820 {xs : List Int32} {l0 l1 l2 l3 : Option Value} {st : List Value} {h : HH} {i : Nat} (hs : (st.map fun v => v.category).sum ≤ 8) (hcl : sm_cls h i = some 9) (hc : (sm_call xs n_X9_poor [.ref i] h).isSome = true) : sm_run xs n_L_law 820 [l0, l1, l2, l3] (.ref i :: st) h = sm_run xs n_L_law 823 [l0, l1, l2, l3] ((sm_rr (sm_call xs n_X9_poor [.ref i] h)).toList ++ st) (sm_rh (sm_call xs n_X9_poor [.ref i] h)) := sx_vrt (ci := 9) (en := (9, 155, 0, [679, 680, 681, 44, 682])) (k := mi_X9_poor) (as := [.ref i]) (rest := st) hm_L_law rfl vk_13_114 rfl hm_X9_poor (by decide) ⟨by show 0 ≤ _; simp only [List.length_cons]; omega, rfl, rfl⟩ hs hcl hc
set_option maxRecDepth 100000 in
theorem s_L_law_823 {xs : List Int32} {l0 l1 l3 : Option Value} {st : List Value} {h : HH} {x : Nat} : sm_run xs n_L_law 823 [l0, l1, some (.ref x), l3] st h = sm_run xs n_L_law 824 [l0, l1, some (.ref x), l3] (.ref x :: st) h := sx_pur (.aload_n 2) hm_L_law rfl rfl rfl rfl
set_option maxRecDepth 100000 in
theorem s_L_law_824 {xs : List Int32} {l0 l1 l2 l3 : Option Value} {st : List Value} {h : HH} {i : Nat} (hs : (st.map fun v => v.category).sum ≤ 8) (hcl : sm_cls h i = some 10) (hc : (sm_call xs n_X10_poor [.ref i] h).isSome = true) : sm_run xs n_L_law 824 [l0, l1, l2, l3] (.ref i :: st) h = sm_run xs n_L_law 827 [l0, l1, l2, l3] ((sm_rr (sm_call xs n_X10_poor [.ref i] h)).toList ++ st) (sm_rh (sm_call xs n_X10_poor [.ref i] h)) := sx_vrt (ci := 10) (en := (10, 156, 0, [1027, 1028, 1029, 55, 1030])) (k := mi_X10_poor) (as := [.ref i]) (rest := st) hm_L_law rfl vk_13_117 rfl hm_X10_poor (by decide) ⟨by show 0 ≤ _; simp only [List.length_cons]; omega, rfl, rfl⟩ hs hcl hc
set_option maxRecDepth 100000 in
theorem s_L_law_827 {xs : List Int32} {l0 l1 l2 l3 : Option Value} {st : List Value} {h : HH} {x y : Int32} : sm_run xs n_L_law 827 [l0, l1, l2, l3] (.int y :: .int x :: st) h = if x = y then sm_run xs n_L_law 908 [l0, l1, l2, l3] st h else sm_run xs n_L_law 830 [l0, l1, l2, l3] st h := sx_icmp hm_L_law rfl rfl rfl
set_option maxRecDepth 100000 in
theorem s_L_law_830 {xs : List Int32} {l0 l1 l2 l3 : Option Value} {st : List Value} {h : HH} : sm_run xs n_L_law 830 [l0, l1, l2, l3] st h = sm_run xs n_L_law 831 [l0, l1, l2, l3] (.int 0 :: st) h := sx_pur (.iconst 0) hm_L_law rfl rfl rfl rfl
set_option maxRecDepth 100000 in
theorem s_L_law_831z0 {xs : List Int32} {l0 l1 l2 l3 : Option Value} {h : HH} : sm_run xs n_L_law 831 [l0, l1, l2, l3] [.int 0] h = some (some (.int 0), h) := sm_return hm_L_law rfl rfl
set_option maxRecDepth 100000 in
theorem s_L_law_831z1 {xs : List Int32} {l0 l1 l2 l3 : Option Value} {h : HH} : sm_run xs n_L_law 831 [l0, l1, l2, l3] [.int 1] h = some (some (.int 1), h) := sm_return hm_L_law rfl rfl
set_option maxRecDepth 100000 in
theorem s_L_law_832 {xs : List Int32} {l0 l2 l3 : Option Value} {st : List Value} {h : HH} {x : Nat} : sm_run xs n_L_law 832 [l0, some (.ref x), l2, l3] st h = sm_run xs n_L_law 833 [l0, some (.ref x), l2, l3] (.ref x :: st) h := sx_pur (.aload_n 1) hm_L_law rfl rfl rfl rfl
set_option maxRecDepth 100000 in
theorem s_L_law_833 {xs : List Int32} {l1 l2 l3 : Option Value} {st : List Value} {h : HH} {x : Nat} : sm_run xs n_L_law 833 [some (.ref x), l1, l2, l3] st h = sm_run xs n_L_law 834 [some (.ref x), l1, l2, l3] (.ref x :: st) h := sx_pur (.aload_n 0) hm_L_law rfl rfl rfl rfl
set_option maxRecDepth 100000 in
theorem s_L_law_834 {xs : List Int32} {l0 l1 l2 : Option Value} {st : List Value} {h : HH} {x : Int32} : sm_run xs n_L_law 834 [l0, l1, l2, some (.int x)] st h = sm_run xs n_L_law 835 [l0, l1, l2, some (.int x)] (.int x :: st) h := sx_pur (.iload_n 3) hm_L_law rfl rfl rfl rfl
set_option maxRecDepth 100000 in
theorem s_L_law_835 {xs : List Int32} {l0 l1 l2 l3 : Option Value} {st : List Value} {h : HH} : sm_run xs n_L_law 835 [l0, l1, l2, l3] st h = sm_run xs n_L_law 836 [l0, l1, l2, l3] (.int 1 :: st) h := sx_pur (.iconst 1) hm_L_law rfl rfl rfl rfl
set_option maxRecDepth 100000 in
theorem s_L_law_836 {xs : List Int32} {l0 l1 l2 l3 : Option Value} {st : List Value} {h : HH} {x y : Int32} : sm_run xs n_L_law 836 [l0, l1, l2, l3] (.int y :: .int x :: st) h = sm_run xs n_L_law 837 [l0, l1, l2, l3] (.int (x + y) :: st) h := sx_pur (.iadd) hm_L_law rfl rfl rfl rfl
set_option maxRecDepth 100000 in
theorem s_L_law_837 {xs : List Int32} {l0 l1 l2 l3 : Option Value} {st : List Value} {h : HH} {j : Int32} (hh : h[sm_B + 9]? = none) (hin : sm_inr (some xs) j = true) : sm_run xs n_L_law 837 [l0, l1, l2, l3] (.int j :: .ref (sm_B + 9) :: st) h = sm_run xs n_L_law 838 [l0, l1, l2, l3] (.int (sm_el (some xs) j) :: st) h := sx_sald hm_L_law rfl hh hin
set_option maxRecDepth 100000 in
theorem s_L_law_838 {xs : List Int32} {l1 l2 l3 : Option Value} {st : List Value} {h : HH} {x : Nat} : sm_run xs n_L_law 838 [some (.ref x), l1, l2, l3] st h = sm_run xs n_L_law 839 [some (.ref x), l1, l2, l3] (.ref x :: st) h := sx_pur (.aload_n 0) hm_L_law rfl rfl rfl rfl
set_option maxRecDepth 100000 in
theorem s_L_law_839 {xs : List Int32} {l0 l1 l2 : Option Value} {st : List Value} {h : HH} {x : Int32} : sm_run xs n_L_law 839 [l0, l1, l2, some (.int x)] st h = sm_run xs n_L_law 840 [l0, l1, l2, some (.int x)] (.int x :: st) h := sx_pur (.iload_n 3) hm_L_law rfl rfl rfl rfl
set_option maxRecDepth 100000 in
theorem s_L_law_840 {xs : List Int32} {l0 l1 l2 l3 : Option Value} {st : List Value} {h : HH} : sm_run xs n_L_law 840 [l0, l1, l2, l3] st h = sm_run xs n_L_law 841 [l0, l1, l2, l3] (.int 2 :: st) h := sx_pur (.iconst 2) hm_L_law rfl rfl rfl rfl
set_option maxRecDepth 100000 in
theorem s_L_law_841 {xs : List Int32} {l0 l1 l2 l3 : Option Value} {st : List Value} {h : HH} {x y : Int32} : sm_run xs n_L_law 841 [l0, l1, l2, l3] (.int y :: .int x :: st) h = sm_run xs n_L_law 842 [l0, l1, l2, l3] (.int (x + y) :: st) h := sx_pur (.iadd) hm_L_law rfl rfl rfl rfl
set_option maxRecDepth 100000 in
theorem s_L_law_842 {xs : List Int32} {l0 l1 l2 l3 : Option Value} {st : List Value} {h : HH} {j : Int32} (hh : h[sm_B + 9]? = none) (hin : sm_inr (some xs) j = true) : sm_run xs n_L_law 842 [l0, l1, l2, l3] (.int j :: .ref (sm_B + 9) :: st) h = sm_run xs n_L_law 843 [l0, l1, l2, l3] (.int (sm_el (some xs) j) :: st) h := sx_sald hm_L_law rfl hh hin
set_option maxRecDepth 100000 in
theorem s_L_law_843 {xs : List Int32} {l1 l2 l3 : Option Value} {st : List Value} {h : HH} {x : Nat} : sm_run xs n_L_law 843 [some (.ref x), l1, l2, l3] st h = sm_run xs n_L_law 844 [some (.ref x), l1, l2, l3] (.ref x :: st) h := sx_pur (.aload_n 0) hm_L_law rfl rfl rfl rfl
set_option maxRecDepth 100000 in
theorem s_L_law_844 {xs : List Int32} {l0 l1 l2 : Option Value} {st : List Value} {h : HH} {x : Int32} : sm_run xs n_L_law 844 [l0, l1, l2, some (.int x)] st h = sm_run xs n_L_law 845 [l0, l1, l2, some (.int x)] (.int x :: st) h := sx_pur (.iload_n 3) hm_L_law rfl rfl rfl rfl
set_option maxRecDepth 100000 in
theorem s_L_law_845 {xs : List Int32} {l0 l1 l2 l3 : Option Value} {st : List Value} {h : HH} : sm_run xs n_L_law 845 [l0, l1, l2, l3] st h = sm_run xs n_L_law 846 [l0, l1, l2, l3] (.int 3 :: st) h := sx_pur (.iconst 3) hm_L_law rfl rfl rfl rfl
set_option maxRecDepth 100000 in
theorem s_L_law_846 {xs : List Int32} {l0 l1 l2 l3 : Option Value} {st : List Value} {h : HH} {x y : Int32} : sm_run xs n_L_law 846 [l0, l1, l2, l3] (.int y :: .int x :: st) h = sm_run xs n_L_law 847 [l0, l1, l2, l3] (.int (x + y) :: st) h := sx_pur (.iadd) hm_L_law rfl rfl rfl rfl
set_option maxRecDepth 100000 in
theorem s_L_law_847 {xs : List Int32} {l0 l1 l2 l3 : Option Value} {st : List Value} {h : HH} {j : Int32} (hh : h[sm_B + 9]? = none) (hin : sm_inr (some xs) j = true) : sm_run xs n_L_law 847 [l0, l1, l2, l3] (.int j :: .ref (sm_B + 9) :: st) h = sm_run xs n_L_law 848 [l0, l1, l2, l3] (.int (sm_el (some xs) j) :: st) h := sx_sald hm_L_law rfl hh hin
set_option maxRecDepth 100000 in
theorem s_L_law_848 {xs : List Int32} {l1 l2 l3 : Option Value} {st : List Value} {h : HH} {x : Nat} : sm_run xs n_L_law 848 [some (.ref x), l1, l2, l3] st h = sm_run xs n_L_law 849 [some (.ref x), l1, l2, l3] (.ref x :: st) h := sx_pur (.aload_n 0) hm_L_law rfl rfl rfl rfl
set_option maxRecDepth 100000 in
theorem s_L_law_849 {xs : List Int32} {l0 l1 l2 : Option Value} {st : List Value} {h : HH} {x : Int32} : sm_run xs n_L_law 849 [l0, l1, l2, some (.int x)] st h = sm_run xs n_L_law 850 [l0, l1, l2, some (.int x)] (.int x :: st) h := sx_pur (.iload_n 3) hm_L_law rfl rfl rfl rfl
set_option maxRecDepth 100000 in
theorem s_L_law_850 {xs : List Int32} {l0 l1 l2 l3 : Option Value} {st : List Value} {h : HH} : sm_run xs n_L_law 850 [l0, l1, l2, l3] st h = sm_run xs n_L_law 851 [l0, l1, l2, l3] (.int 4 :: st) h := sx_pur (.iconst 4) hm_L_law rfl rfl rfl rfl
set_option maxRecDepth 100000 in
theorem s_L_law_851 {xs : List Int32} {l0 l1 l2 l3 : Option Value} {st : List Value} {h : HH} {x y : Int32} : sm_run xs n_L_law 851 [l0, l1, l2, l3] (.int y :: .int x :: st) h = sm_run xs n_L_law 852 [l0, l1, l2, l3] (.int (x + y) :: st) h := sx_pur (.iadd) hm_L_law rfl rfl rfl rfl
set_option maxRecDepth 100000 in
theorem s_L_law_852 {xs : List Int32} {l0 l1 l2 l3 : Option Value} {st : List Value} {h : HH} {j : Int32} (hh : h[sm_B + 9]? = none) (hin : sm_inr (some xs) j = true) : sm_run xs n_L_law 852 [l0, l1, l2, l3] (.int j :: .ref (sm_B + 9) :: st) h = sm_run xs n_L_law 853 [l0, l1, l2, l3] (.int (sm_el (some xs) j) :: st) h := sx_sald hm_L_law rfl hh hin
set_option maxRecDepth 100000 in
theorem s_L_law_853 {xs : List Int32} {l0 l1 l2 l3 : Option Value} {st : List Value} {h : HH} {i : Nat} {b0 : Int32} {b1 : Int32} {b2 : Int32} {b3 : Int32} (hs : (st.map fun v => v.category).sum ≤ 8) (hcl : sm_cls h i = some 9) (hc : (sm_call xs n_X9_rain [.ref i, .int b0, .int b1, .int b2, .int b3] h).isSome = true) : sm_run xs n_L_law 853 [l0, l1, l2, l3] (.int b3 :: .int b2 :: .int b1 :: .int b0 :: .ref i :: st) h = sm_run xs n_L_law 856 [l0, l1, l2, l3] ((sm_rr (sm_call xs n_X9_rain [.ref i, .int b0, .int b1, .int b2, .int b3] h)).toList ++ st) (sm_rh (sm_call xs n_X9_rain [.ref i, .int b0, .int b1, .int b2, .int b3] h)) := sx_vrt (ci := 9) (en := (9, 158, 0, [683, 684, 685, 44, 686])) (k := mi_X9_rain) (as := [.ref i, .int b0, .int b1, .int b2, .int b3]) (rest := st) hm_L_law rfl vk_13_118 rfl hm_X9_rain (by decide) ⟨by show 4 ≤ _; simp only [List.length_cons]; omega, rfl, rfl⟩ hs hcl hc
set_option maxRecDepth 100000 in
theorem s_L_law_856 {xs : List Int32} {l0 l1 l3 : Option Value} {st : List Value} {h : HH} {x : Nat} : sm_run xs n_L_law 856 [l0, l1, some (.ref x), l3] st h = sm_run xs n_L_law 857 [l0, l1, some (.ref x), l3] (.ref x :: st) h := sx_pur (.aload_n 2) hm_L_law rfl rfl rfl rfl
set_option maxRecDepth 100000 in
theorem s_L_law_857 {xs : List Int32} {l1 l2 l3 : Option Value} {st : List Value} {h : HH} {x : Nat} : sm_run xs n_L_law 857 [some (.ref x), l1, l2, l3] st h = sm_run xs n_L_law 858 [some (.ref x), l1, l2, l3] (.ref x :: st) h := sx_pur (.aload_n 0) hm_L_law rfl rfl rfl rfl
set_option maxRecDepth 100000 in
theorem s_L_law_858 {xs : List Int32} {l0 l1 l2 : Option Value} {st : List Value} {h : HH} {x : Int32} : sm_run xs n_L_law 858 [l0, l1, l2, some (.int x)] st h = sm_run xs n_L_law 859 [l0, l1, l2, some (.int x)] (.int x :: st) h := sx_pur (.iload_n 3) hm_L_law rfl rfl rfl rfl
set_option maxRecDepth 100000 in
theorem s_L_law_859 {xs : List Int32} {l0 l1 l2 l3 : Option Value} {st : List Value} {h : HH} : sm_run xs n_L_law 859 [l0, l1, l2, l3] st h = sm_run xs n_L_law 860 [l0, l1, l2, l3] (.int 1 :: st) h := sx_pur (.iconst 1) hm_L_law rfl rfl rfl rfl
set_option maxRecDepth 100000 in
theorem s_L_law_860 {xs : List Int32} {l0 l1 l2 l3 : Option Value} {st : List Value} {h : HH} {x y : Int32} : sm_run xs n_L_law 860 [l0, l1, l2, l3] (.int y :: .int x :: st) h = sm_run xs n_L_law 861 [l0, l1, l2, l3] (.int (x + y) :: st) h := sx_pur (.iadd) hm_L_law rfl rfl rfl rfl
set_option maxRecDepth 100000 in
theorem s_L_law_861 {xs : List Int32} {l0 l1 l2 l3 : Option Value} {st : List Value} {h : HH} {j : Int32} (hh : h[sm_B + 9]? = none) (hin : sm_inr (some xs) j = true) : sm_run xs n_L_law 861 [l0, l1, l2, l3] (.int j :: .ref (sm_B + 9) :: st) h = sm_run xs n_L_law 862 [l0, l1, l2, l3] (.int (sm_el (some xs) j) :: st) h := sx_sald hm_L_law rfl hh hin
set_option maxRecDepth 100000 in
theorem s_L_law_862 {xs : List Int32} {l1 l2 l3 : Option Value} {st : List Value} {h : HH} {x : Nat} : sm_run xs n_L_law 862 [some (.ref x), l1, l2, l3] st h = sm_run xs n_L_law 863 [some (.ref x), l1, l2, l3] (.ref x :: st) h := sx_pur (.aload_n 0) hm_L_law rfl rfl rfl rfl
set_option maxRecDepth 100000 in
theorem s_L_law_863 {xs : List Int32} {l0 l1 l2 : Option Value} {st : List Value} {h : HH} {x : Int32} : sm_run xs n_L_law 863 [l0, l1, l2, some (.int x)] st h = sm_run xs n_L_law 864 [l0, l1, l2, some (.int x)] (.int x :: st) h := sx_pur (.iload_n 3) hm_L_law rfl rfl rfl rfl
set_option maxRecDepth 100000 in
theorem s_L_law_864 {xs : List Int32} {l0 l1 l2 l3 : Option Value} {st : List Value} {h : HH} : sm_run xs n_L_law 864 [l0, l1, l2, l3] st h = sm_run xs n_L_law 865 [l0, l1, l2, l3] (.int 2 :: st) h := sx_pur (.iconst 2) hm_L_law rfl rfl rfl rfl
set_option maxRecDepth 100000 in
theorem s_L_law_865 {xs : List Int32} {l0 l1 l2 l3 : Option Value} {st : List Value} {h : HH} {x y : Int32} : sm_run xs n_L_law 865 [l0, l1, l2, l3] (.int y :: .int x :: st) h = sm_run xs n_L_law 866 [l0, l1, l2, l3] (.int (x + y) :: st) h := sx_pur (.iadd) hm_L_law rfl rfl rfl rfl
set_option maxRecDepth 100000 in
theorem s_L_law_866 {xs : List Int32} {l0 l1 l2 l3 : Option Value} {st : List Value} {h : HH} {j : Int32} (hh : h[sm_B + 9]? = none) (hin : sm_inr (some xs) j = true) : sm_run xs n_L_law 866 [l0, l1, l2, l3] (.int j :: .ref (sm_B + 9) :: st) h = sm_run xs n_L_law 867 [l0, l1, l2, l3] (.int (sm_el (some xs) j) :: st) h := sx_sald hm_L_law rfl hh hin
set_option maxRecDepth 100000 in
theorem s_L_law_867 {xs : List Int32} {l1 l2 l3 : Option Value} {st : List Value} {h : HH} {x : Nat} : sm_run xs n_L_law 867 [some (.ref x), l1, l2, l3] st h = sm_run xs n_L_law 868 [some (.ref x), l1, l2, l3] (.ref x :: st) h := sx_pur (.aload_n 0) hm_L_law rfl rfl rfl rfl
set_option maxRecDepth 100000 in
theorem s_L_law_868 {xs : List Int32} {l0 l1 l2 : Option Value} {st : List Value} {h : HH} {x : Int32} : sm_run xs n_L_law 868 [l0, l1, l2, some (.int x)] st h = sm_run xs n_L_law 869 [l0, l1, l2, some (.int x)] (.int x :: st) h := sx_pur (.iload_n 3) hm_L_law rfl rfl rfl rfl
set_option maxRecDepth 100000 in
theorem s_L_law_869 {xs : List Int32} {l0 l1 l2 l3 : Option Value} {st : List Value} {h : HH} : sm_run xs n_L_law 869 [l0, l1, l2, l3] st h = sm_run xs n_L_law 870 [l0, l1, l2, l3] (.int 3 :: st) h := sx_pur (.iconst 3) hm_L_law rfl rfl rfl rfl
set_option maxRecDepth 100000 in
theorem s_L_law_870 {xs : List Int32} {l0 l1 l2 l3 : Option Value} {st : List Value} {h : HH} {x y : Int32} : sm_run xs n_L_law 870 [l0, l1, l2, l3] (.int y :: .int x :: st) h = sm_run xs n_L_law 871 [l0, l1, l2, l3] (.int (x + y) :: st) h := sx_pur (.iadd) hm_L_law rfl rfl rfl rfl
set_option maxRecDepth 100000 in
theorem s_L_law_871 {xs : List Int32} {l0 l1 l2 l3 : Option Value} {st : List Value} {h : HH} {j : Int32} (hh : h[sm_B + 9]? = none) (hin : sm_inr (some xs) j = true) : sm_run xs n_L_law 871 [l0, l1, l2, l3] (.int j :: .ref (sm_B + 9) :: st) h = sm_run xs n_L_law 872 [l0, l1, l2, l3] (.int (sm_el (some xs) j) :: st) h := sx_sald hm_L_law rfl hh hin
set_option maxRecDepth 100000 in
theorem s_L_law_872 {xs : List Int32} {l1 l2 l3 : Option Value} {st : List Value} {h : HH} {x : Nat} : sm_run xs n_L_law 872 [some (.ref x), l1, l2, l3] st h = sm_run xs n_L_law 873 [some (.ref x), l1, l2, l3] (.ref x :: st) h := sx_pur (.aload_n 0) hm_L_law rfl rfl rfl rfl
set_option maxRecDepth 100000 in
theorem s_L_law_873 {xs : List Int32} {l0 l1 l2 : Option Value} {st : List Value} {h : HH} {x : Int32} : sm_run xs n_L_law 873 [l0, l1, l2, some (.int x)] st h = sm_run xs n_L_law 874 [l0, l1, l2, some (.int x)] (.int x :: st) h := sx_pur (.iload_n 3) hm_L_law rfl rfl rfl rfl
set_option maxRecDepth 100000 in
theorem s_L_law_874 {xs : List Int32} {l0 l1 l2 l3 : Option Value} {st : List Value} {h : HH} : sm_run xs n_L_law 874 [l0, l1, l2, l3] st h = sm_run xs n_L_law 875 [l0, l1, l2, l3] (.int 4 :: st) h := sx_pur (.iconst 4) hm_L_law rfl rfl rfl rfl
set_option maxRecDepth 100000 in
theorem s_L_law_875 {xs : List Int32} {l0 l1 l2 l3 : Option Value} {st : List Value} {h : HH} {x y : Int32} : sm_run xs n_L_law 875 [l0, l1, l2, l3] (.int y :: .int x :: st) h = sm_run xs n_L_law 876 [l0, l1, l2, l3] (.int (x + y) :: st) h := sx_pur (.iadd) hm_L_law rfl rfl rfl rfl
set_option maxRecDepth 100000 in
theorem s_L_law_876 {xs : List Int32} {l0 l1 l2 l3 : Option Value} {st : List Value} {h : HH} {j : Int32} (hh : h[sm_B + 9]? = none) (hin : sm_inr (some xs) j = true) : sm_run xs n_L_law 876 [l0, l1, l2, l3] (.int j :: .ref (sm_B + 9) :: st) h = sm_run xs n_L_law 877 [l0, l1, l2, l3] (.int (sm_el (some xs) j) :: st) h := sx_sald hm_L_law rfl hh hin
set_option maxRecDepth 100000 in
theorem s_L_law_877 {xs : List Int32} {l0 l1 l2 l3 : Option Value} {st : List Value} {h : HH} {i : Nat} {b0 : Int32} {b1 : Int32} {b2 : Int32} {b3 : Int32} (hs : (st.map fun v => v.category).sum ≤ 8) (hcl : sm_cls h i = some 10) (hc : (sm_call xs n_X10_rain [.ref i, .int b0, .int b1, .int b2, .int b3] h).isSome = true) : sm_run xs n_L_law 877 [l0, l1, l2, l3] (.int b3 :: .int b2 :: .int b1 :: .int b0 :: .ref i :: st) h = sm_run xs n_L_law 880 [l0, l1, l2, l3] ((sm_rr (sm_call xs n_X10_rain [.ref i, .int b0, .int b1, .int b2, .int b3] h)).toList ++ st) (sm_rh (sm_call xs n_X10_rain [.ref i, .int b0, .int b1, .int b2, .int b3] h)) := sx_vrt (ci := 10) (en := (10, 159, 0, [1031, 1032, 1033, 55, 1034])) (k := mi_X10_rain) (as := [.ref i, .int b0, .int b1, .int b2, .int b3]) (rest := st) hm_L_law rfl vk_13_122 rfl hm_X10_rain (by decide) ⟨by show 4 ≤ _; simp only [List.length_cons]; omega, rfl, rfl⟩ hs hcl hc
set_option maxRecDepth 100000 in
theorem s_L_law_880 {xs : List Int32} {l0 l1 l2 l3 : Option Value} {st : List Value} {h : HH} {x y : Int32} : sm_run xs n_L_law 880 [l0, l1, l2, l3] (.int y :: .int x :: st) h = if x = y then sm_run xs n_L_law 908 [l0, l1, l2, l3] st h else sm_run xs n_L_law 883 [l0, l1, l2, l3] st h := sx_icmp hm_L_law rfl rfl rfl
set_option maxRecDepth 100000 in
theorem s_L_law_883 {xs : List Int32} {l0 l1 l2 l3 : Option Value} {st : List Value} {h : HH} : sm_run xs n_L_law 883 [l0, l1, l2, l3] st h = sm_run xs n_L_law 884 [l0, l1, l2, l3] (.int 0 :: st) h := sx_pur (.iconst 0) hm_L_law rfl rfl rfl rfl
set_option maxRecDepth 100000 in
theorem s_L_law_884z0 {xs : List Int32} {l0 l1 l2 l3 : Option Value} {h : HH} : sm_run xs n_L_law 884 [l0, l1, l2, l3] [.int 0] h = some (some (.int 0), h) := sm_return hm_L_law rfl rfl
set_option maxRecDepth 100000 in
theorem s_L_law_884z1 {xs : List Int32} {l0 l1 l2 l3 : Option Value} {h : HH} : sm_run xs n_L_law 884 [l0, l1, l2, l3] [.int 1] h = some (some (.int 1), h) := sm_return hm_L_law rfl rfl
set_option maxRecDepth 100000 in
theorem s_L_law_885 {xs : List Int32} {l0 l2 l3 : Option Value} {st : List Value} {h : HH} {x : Nat} : sm_run xs n_L_law 885 [l0, some (.ref x), l2, l3] st h = sm_run xs n_L_law 886 [l0, some (.ref x), l2, l3] (.ref x :: st) h := sx_pur (.aload_n 1) hm_L_law rfl rfl rfl rfl
set_option maxRecDepth 100000 in
theorem s_L_law_886 {xs : List Int32} {l1 l2 l3 : Option Value} {st : List Value} {h : HH} {x : Nat} : sm_run xs n_L_law 886 [some (.ref x), l1, l2, l3] st h = sm_run xs n_L_law 887 [some (.ref x), l1, l2, l3] (.ref x :: st) h := sx_pur (.aload_n 0) hm_L_law rfl rfl rfl rfl
set_option maxRecDepth 100000 in
theorem s_L_law_887 {xs : List Int32} {l0 l1 l2 : Option Value} {st : List Value} {h : HH} {x : Int32} : sm_run xs n_L_law 887 [l0, l1, l2, some (.int x)] st h = sm_run xs n_L_law 888 [l0, l1, l2, some (.int x)] (.int x :: st) h := sx_pur (.iload_n 3) hm_L_law rfl rfl rfl rfl
set_option maxRecDepth 100000 in
theorem s_L_law_888 {xs : List Int32} {l0 l1 l2 l3 : Option Value} {st : List Value} {h : HH} : sm_run xs n_L_law 888 [l0, l1, l2, l3] st h = sm_run xs n_L_law 889 [l0, l1, l2, l3] (.int 1 :: st) h := sx_pur (.iconst 1) hm_L_law rfl rfl rfl rfl
set_option maxRecDepth 100000 in
theorem s_L_law_889 {xs : List Int32} {l0 l1 l2 l3 : Option Value} {st : List Value} {h : HH} {x y : Int32} : sm_run xs n_L_law 889 [l0, l1, l2, l3] (.int y :: .int x :: st) h = sm_run xs n_L_law 890 [l0, l1, l2, l3] (.int (x + y) :: st) h := sx_pur (.iadd) hm_L_law rfl rfl rfl rfl
set_option maxRecDepth 100000 in
theorem s_L_law_890 {xs : List Int32} {l0 l1 l2 l3 : Option Value} {st : List Value} {h : HH} {j : Int32} (hh : h[sm_B + 9]? = none) (hin : sm_inr (some xs) j = true) : sm_run xs n_L_law 890 [l0, l1, l2, l3] (.int j :: .ref (sm_B + 9) :: st) h = sm_run xs n_L_law 891 [l0, l1, l2, l3] (.int (sm_el (some xs) j) :: st) h := sx_sald hm_L_law rfl hh hin
set_option maxRecDepth 100000 in
theorem s_L_law_891 {xs : List Int32} {l0 l1 l2 l3 : Option Value} {st : List Value} {h : HH} {i : Nat} {b0 : Int32} (hs : (st.map fun v => v.category).sum ≤ 8) (hcl : sm_cls h i = some 9) (hc : (sm_call xs n_X9_count [.ref i, .int b0] h).isSome = true) : sm_run xs n_L_law 891 [l0, l1, l2, l3] (.int b0 :: .ref i :: st) h = sm_run xs n_L_law 894 [l0, l1, l2, l3] ((sm_rr (sm_call xs n_X9_count [.ref i, .int b0] h)).toList ++ st) (sm_rh (sm_call xs n_X9_count [.ref i, .int b0] h)) := sx_vrt (ci := 9) (en := (9, 162, 0, [690, 691, 692, 44, 693])) (k := mi_X9_count) (as := [.ref i, .int b0]) (rest := st) hm_L_law rfl vk_13_123 rfl hm_X9_count (by decide) ⟨by show 1 ≤ _; simp only [List.length_cons]; omega, rfl, rfl⟩ hs hcl hc
set_option maxRecDepth 100000 in
theorem s_L_law_894 {xs : List Int32} {l0 l1 l3 : Option Value} {st : List Value} {h : HH} {x : Nat} : sm_run xs n_L_law 894 [l0, l1, some (.ref x), l3] st h = sm_run xs n_L_law 895 [l0, l1, some (.ref x), l3] (.ref x :: st) h := sx_pur (.aload_n 2) hm_L_law rfl rfl rfl rfl
set_option maxRecDepth 100000 in
theorem s_L_law_895 {xs : List Int32} {l1 l2 l3 : Option Value} {st : List Value} {h : HH} {x : Nat} : sm_run xs n_L_law 895 [some (.ref x), l1, l2, l3] st h = sm_run xs n_L_law 896 [some (.ref x), l1, l2, l3] (.ref x :: st) h := sx_pur (.aload_n 0) hm_L_law rfl rfl rfl rfl
set_option maxRecDepth 100000 in
theorem s_L_law_896 {xs : List Int32} {l0 l1 l2 : Option Value} {st : List Value} {h : HH} {x : Int32} : sm_run xs n_L_law 896 [l0, l1, l2, some (.int x)] st h = sm_run xs n_L_law 897 [l0, l1, l2, some (.int x)] (.int x :: st) h := sx_pur (.iload_n 3) hm_L_law rfl rfl rfl rfl
set_option maxRecDepth 100000 in
theorem s_L_law_897 {xs : List Int32} {l0 l1 l2 l3 : Option Value} {st : List Value} {h : HH} : sm_run xs n_L_law 897 [l0, l1, l2, l3] st h = sm_run xs n_L_law 898 [l0, l1, l2, l3] (.int 1 :: st) h := sx_pur (.iconst 1) hm_L_law rfl rfl rfl rfl
set_option maxRecDepth 100000 in
theorem s_L_law_898 {xs : List Int32} {l0 l1 l2 l3 : Option Value} {st : List Value} {h : HH} {x y : Int32} : sm_run xs n_L_law 898 [l0, l1, l2, l3] (.int y :: .int x :: st) h = sm_run xs n_L_law 899 [l0, l1, l2, l3] (.int (x + y) :: st) h := sx_pur (.iadd) hm_L_law rfl rfl rfl rfl
set_option maxRecDepth 100000 in
theorem s_L_law_899 {xs : List Int32} {l0 l1 l2 l3 : Option Value} {st : List Value} {h : HH} {j : Int32} (hh : h[sm_B + 9]? = none) (hin : sm_inr (some xs) j = true) : sm_run xs n_L_law 899 [l0, l1, l2, l3] (.int j :: .ref (sm_B + 9) :: st) h = sm_run xs n_L_law 900 [l0, l1, l2, l3] (.int (sm_el (some xs) j) :: st) h := sx_sald hm_L_law rfl hh hin
set_option maxRecDepth 100000 in
theorem s_L_law_900 {xs : List Int32} {l0 l1 l2 l3 : Option Value} {st : List Value} {h : HH} {i : Nat} {b0 : Int32} (hs : (st.map fun v => v.category).sum ≤ 8) (hcl : sm_cls h i = some 10) (hc : (sm_call xs n_X10_count [.ref i, .int b0] h).isSome = true) : sm_run xs n_L_law 900 [l0, l1, l2, l3] (.int b0 :: .ref i :: st) h = sm_run xs n_L_law 903 [l0, l1, l2, l3] ((sm_rr (sm_call xs n_X10_count [.ref i, .int b0] h)).toList ++ st) (sm_rh (sm_call xs n_X10_count [.ref i, .int b0] h)) := sx_vrt (ci := 10) (en := (10, 165, 0, [1036, 1037, 1038, 55, 1039])) (k := mi_X10_count) (as := [.ref i, .int b0]) (rest := st) hm_L_law rfl vk_13_126 rfl hm_X10_count (by decide) ⟨by show 1 ≤ _; simp only [List.length_cons]; omega, rfl, rfl⟩ hs hcl hc
set_option maxRecDepth 100000 in
theorem s_L_law_903 {xs : List Int32} {l0 l1 l2 l3 : Option Value} {st : List Value} {h : HH} {x y : Int32} : sm_run xs n_L_law 903 [l0, l1, l2, l3] (.int y :: .int x :: st) h = if x = y then sm_run xs n_L_law 908 [l0, l1, l2, l3] st h else sm_run xs n_L_law 906 [l0, l1, l2, l3] st h := sx_icmp hm_L_law rfl rfl rfl
set_option maxRecDepth 100000 in
theorem s_L_law_906 {xs : List Int32} {l0 l1 l2 l3 : Option Value} {st : List Value} {h : HH} : sm_run xs n_L_law 906 [l0, l1, l2, l3] st h = sm_run xs n_L_law 907 [l0, l1, l2, l3] (.int 0 :: st) h := sx_pur (.iconst 0) hm_L_law rfl rfl rfl rfl
set_option maxRecDepth 100000 in
theorem s_L_law_907z0 {xs : List Int32} {l0 l1 l2 l3 : Option Value} {h : HH} : sm_run xs n_L_law 907 [l0, l1, l2, l3] [.int 0] h = some (some (.int 0), h) := sm_return hm_L_law rfl rfl
set_option maxRecDepth 100000 in
theorem s_L_law_907z1 {xs : List Int32} {l0 l1 l2 l3 : Option Value} {h : HH} : sm_run xs n_L_law 907 [l0, l1, l2, l3] [.int 1] h = some (some (.int 1), h) := sm_return hm_L_law rfl rfl
set_option maxRecDepth 100000 in
theorem s_L_law_908 {xs : List Int32} {l0 l1 l2 : Option Value} {st : List Value} {h : HH} {x : Int32} : sm_run xs n_L_law 908 [l0, l1, l2, some (.int x)] st h = sm_run xs n_L_law 911 [l0, l1, sm_clr l2, some (.int (x + 5))] st h := sx_pur (.iinc 3 5) hm_L_law rfl rfl rfl rfl
set_option maxRecDepth 100000 in
theorem s_L_law_911 {xs : List Int32} {l0 l1 l2 l3 : Option Value} {st : List Value} {h : HH} : sm_run xs n_L_law 911 [l0, l1, l2, l3] st h = sm_run xs n_L_law 18 [l0, l1, l2, l3] st h := sx_ctl (i := .goto (-893)) hm_L_law rfl rfl rfl rfl
set_option maxRecDepth 100000 in
theorem s_L_law_914 {xs : List Int32} {l0 l1 l2 l3 : Option Value} {st : List Value} {h : HH} : sm_run xs n_L_law 914 [l0, l1, l2, l3] st h = sm_run xs n_L_law 915 [l0, l1, l2, l3] (.int 1 :: st) h := sx_pur (.iconst 1) hm_L_law rfl rfl rfl rfl
set_option maxRecDepth 100000 in
theorem s_L_law_915z0 {xs : List Int32} {l0 l1 l2 l3 : Option Value} {h : HH} : sm_run xs n_L_law 915 [l0, l1, l2, l3] [.int 0] h = some (some (.int 0), h) := sm_return hm_L_law rfl rfl
set_option maxRecDepth 100000 in
theorem s_L_law_915z1 {xs : List Int32} {l0 l1 l2 l3 : Option Value} {h : HH} : sm_run xs n_L_law 915 [l0, l1, l2, l3] [.int 1] h = some (some (.int 1), h) := sm_return hm_L_law rfl rfl

theorem sm_VL_all0 : sm_VL0.all sm_VLc = true := by decide +kernel
theorem sm_VL_all1 : sm_VL1.all sm_VLc = true := by decide +kernel
theorem sm_VL_all2 : sm_VL2.all sm_VLc = true := by decide +kernel
theorem sm_VL_all3 : sm_VL3.all sm_VLc = true := by decide +kernel
theorem sm_VL_all4 : sm_VL4.all sm_VLc = true := by decide +kernel
theorem sm_VL_all5 : sm_VL5.all sm_VLc = true := by decide +kernel
theorem sm_VL_all6 : sm_VL6.all sm_VLc = true := by decide +kernel
theorem sm_VL_all7 : sm_VL7.all sm_VLc = true := by decide +kernel
theorem sm_VL_all8 : sm_VL8.all sm_VLc = true := by decide +kernel
theorem sm_VL_all9 : sm_VL9.all sm_VLc = true := by decide +kernel
theorem sm_VL_all10 : sm_VL10.all sm_VLc = true := by decide +kernel
theorem sm_VL_all11 : sm_VL11.all sm_VLc = true := by decide +kernel
theorem sm_VL_all : sm_VL.all sm_VLc = true := by
  simp only [sm_VL, List.all_append, Bool.and_eq_true]
  exact ⟨sm_VL_all0, ⟨sm_VL_all1, ⟨sm_VL_all2, ⟨sm_VL_all3, ⟨sm_VL_all4, ⟨sm_VL_all5, ⟨sm_VL_all6, ⟨sm_VL_all7, ⟨sm_VL_all8, ⟨sm_VL_all9, ⟨sm_VL_all10, sm_VL_all11⟩⟩⟩⟩⟩⟩⟩⟩⟩⟩⟩
set_option maxRecDepth 100000 in
theorem cw_J7_fill_53178 : Cond.code (mi_nm mi_J7_fill_53178) (mi_cd mi_J7_fill_53178) (mi_ml mi_J7_fill_53178) (mi_rt mi_J7_fill_53178) ∈ sm_GG := List.mem_filter.mpr ⟨List.mem_of_getElem? (i := 78) rfl, rfl⟩
set_option maxRecDepth 100000 in
theorem cw_X3_init : Cond.code (mi_nm mi_X3_init) (mi_cd mi_X3_init) (mi_ml mi_X3_init) (mi_rt mi_X3_init) ∈ sm_GG := List.mem_filter.mpr ⟨List.mem_of_getElem? (i := 74) rfl, rfl⟩
set_option maxRecDepth 100000 in
theorem cw_X2_init : Cond.code (mi_nm mi_X2_init) (mi_cd mi_X2_init) (mi_ml mi_X2_init) (mi_rt mi_X2_init) ∈ sm_GG := List.mem_filter.mpr ⟨List.mem_of_getElem? (i := 117) rfl, rfl⟩
set_option maxRecDepth 100000 in
theorem cw_X5_init : Cond.code (mi_nm mi_X5_init) (mi_cd mi_X5_init) (mi_ml mi_X5_init) (mi_rt mi_X5_init) ∈ sm_GG := List.mem_filter.mpr ⟨List.mem_of_getElem? (i := 136) rfl, rfl⟩
set_option maxRecDepth 100000 in
theorem cw_X7_init : Cond.code (mi_nm mi_X7_init) (mi_cd mi_X7_init) (mi_ml mi_X7_init) (mi_rt mi_X7_init) ∈ sm_GG := List.mem_filter.mpr ⟨List.mem_of_getElem? (i := 153) rfl, rfl⟩
set_option maxRecDepth 100000 in
theorem cw_X8_init : Cond.code (mi_nm mi_X8_init) (mi_cd mi_X8_init) (mi_ml mi_X8_init) (mi_rt mi_X8_init) ∈ sm_GG := List.mem_filter.mpr ⟨List.mem_of_getElem? (i := 193) rfl, rfl⟩
set_option maxRecDepth 100000 in
theorem cw_X6_init : Cond.code (mi_nm mi_X6_init) (mi_cd mi_X6_init) (mi_ml mi_X6_init) (mi_rt mi_X6_init) ∈ sm_GG := List.mem_filter.mpr ⟨List.mem_of_getElem? (i := 190) rfl, rfl⟩
set_option maxRecDepth 100000 in
theorem cw_X4_init : Cond.code (mi_nm mi_X4_init) (mi_cd mi_X4_init) (mi_ml mi_X4_init) (mi_rt mi_X4_init) ∈ sm_GG := List.mem_filter.mpr ⟨List.mem_of_getElem? (i := 200) rfl, rfl⟩
set_option maxRecDepth 100000 in
theorem cw_X1_init : Cond.code (mi_nm mi_X1_init) (mi_cd mi_X1_init) (mi_ml mi_X1_init) (mi_rt mi_X1_init) ∈ sm_GG := List.mem_filter.mpr ⟨List.mem_of_getElem? (i := 207) rfl, rfl⟩
set_option maxRecDepth 100000 in
theorem cw_X0_init : Cond.code (mi_nm mi_X0_init) (mi_cd mi_X0_init) (mi_ml mi_X0_init) (mi_rt mi_X0_init) ∈ sm_GG := List.mem_filter.mpr ⟨List.mem_of_getElem? (i := 214) rfl, rfl⟩
set_option maxRecDepth 100000 in
theorem cw_X9_init : Cond.code (mi_nm mi_X9_init) (mi_cd mi_X9_init) (mi_ml mi_X9_init) (mi_rt mi_X9_init) ∈ sm_GG := List.mem_filter.mpr ⟨List.mem_of_getElem? (i := 66) rfl, rfl⟩
set_option maxRecDepth 100000 in
theorem cw_X10_init : Cond.code (mi_nm mi_X10_init) (mi_cd mi_X10_init) (mi_ml mi_X10_init) (mi_rt mi_X10_init) ∈ sm_GG := List.mem_filter.mpr ⟨List.mem_of_getElem? (i := 705) rfl, rfl⟩
set_option maxRecDepth 100000 in
theorem cw_X7_add : Cond.code (mi_nm mi_X7_add) (mi_cd mi_X7_add) (mi_ml mi_X7_add) (mi_rt mi_X7_add) ∈ sm_GG := List.mem_filter.mpr ⟨List.mem_of_getElem? (i := 270) rfl, rfl⟩
set_option maxRecDepth 100000 in
theorem cw_X9_write : Cond.code (mi_nm mi_X9_write) (mi_cd mi_X9_write) (mi_ml mi_X9_write) (mi_rt mi_X9_write) ∈ sm_GG := List.mem_filter.mpr ⟨List.mem_of_getElem? (i := 266) rfl, rfl⟩
set_option maxRecDepth 100000 in
theorem cw_X10_in : Cond.code (mi_nm mi_X10_in) (mi_cd mi_X10_in) (mi_ml mi_X10_in) (mi_rt mi_X10_in) ∈ sm_GG := List.mem_filter.mpr ⟨List.mem_of_getElem? (i := 782) rfl, rfl⟩
set_option maxRecDepth 100000 in
theorem cw_X10_write : Cond.code (mi_nm mi_X10_write) (mi_cd mi_X10_write) (mi_ml mi_X10_write) (mi_rt mi_X10_write) ∈ sm_GG := List.mem_filter.mpr ⟨List.mem_of_getElem? (i := 778) rfl, rfl⟩
set_option maxRecDepth 100000 in
theorem cw_X9_erase : Cond.code (mi_nm mi_X9_erase) (mi_cd mi_X9_erase) (mi_ml mi_X9_erase) (mi_rt mi_X9_erase) ∈ sm_GG := List.mem_filter.mpr ⟨List.mem_of_getElem? (i := 274) rfl, rfl⟩
set_option maxRecDepth 100000 in
theorem cw_X10_erase : Cond.code (mi_nm mi_X10_erase) (mi_cd mi_X10_erase) (mi_ml mi_X10_erase) (mi_rt mi_X10_erase) ∈ sm_GG := List.mem_filter.mpr ⟨List.mem_of_getElem? (i := 786) rfl, rfl⟩
set_option maxRecDepth 100000 in
theorem cw_X7_sortOf : Cond.code (mi_nm mi_X7_sortOf) (mi_cd mi_X7_sortOf) (mi_ml mi_X7_sortOf) (mi_rt mi_X7_sortOf) ∈ sm_GG := List.mem_filter.mpr ⟨List.mem_of_getElem? (i := 293) rfl, rfl⟩
set_option maxRecDepth 100000 in
theorem cw_X7_step : Cond.code (mi_nm mi_X7_step) (mi_cd mi_X7_step) (mi_ml mi_X7_step) (mi_rt mi_X7_step) ∈ sm_GG := List.mem_filter.mpr ⟨List.mem_of_getElem? (i := 290) rfl, rfl⟩
set_option maxRecDepth 100000 in
theorem cw_X7_wordOf : Cond.code (mi_nm mi_X7_wordOf) (mi_cd mi_X7_wordOf) (mi_ml mi_X7_wordOf) (mi_rt mi_X7_wordOf) ∈ sm_GG := List.mem_filter.mpr ⟨List.mem_of_getElem? (i := 300) rfl, rfl⟩
set_option maxRecDepth 100000 in
theorem cw_X7_isHere : Cond.code (mi_nm mi_X7_isHere) (mi_cd mi_X7_isHere) (mi_ml mi_X7_isHere) (mi_rt mi_X7_isHere) ∈ sm_GG := List.mem_filter.mpr ⟨List.mem_of_getElem? (i := 313) rfl, rfl⟩
set_option maxRecDepth 100000 in
theorem cw_X7_verbHere : Cond.code (mi_nm mi_X7_verbHere) (mi_cd mi_X7_verbHere) (mi_ml mi_X7_verbHere) (mi_rt mi_X7_verbHere) ∈ sm_GG := List.mem_filter.mpr ⟨List.mem_of_getElem? (i := 297) rfl, rfl⟩
set_option maxRecDepth 100000 in
theorem cw_X7_isPlayer : Cond.code (mi_nm mi_X7_isPlayer) (mi_cd mi_X7_isPlayer) (mi_ml mi_X7_isPlayer) (mi_rt mi_X7_isPlayer) ∈ sm_GG := List.mem_filter.mpr ⟨List.mem_of_getElem? (i := 364) rfl, rfl⟩
set_option maxRecDepth 100000 in
theorem cw_X7_numbersOf : Cond.code (mi_nm mi_X7_numbersOf) (mi_cd mi_X7_numbersOf) (mi_ml mi_X7_numbersOf) (mi_rt mi_X7_numbersOf) ∈ sm_GG := List.mem_filter.mpr ⟨List.mem_of_getElem? (i := 367) rfl, rfl⟩
set_option maxRecDepth 100000 in
theorem cw_X7_numberHere : Cond.code (mi_nm mi_X7_numberHere) (mi_cd mi_X7_numberHere) (mi_ml mi_X7_numberHere) (mi_rt mi_X7_numberHere) ∈ sm_GG := List.mem_filter.mpr ⟨List.mem_of_getElem? (i := 371) rfl, rfl⟩
set_option maxRecDepth 100000 in
theorem cw_X7_lowest : Cond.code (mi_nm mi_X7_lowest) (mi_cd mi_X7_lowest) (mi_ml mi_X7_lowest) (mi_rt mi_X7_lowest) ∈ sm_GG := List.mem_filter.mpr ⟨List.mem_of_getElem? (i := 374) rfl, rfl⟩
set_option maxRecDepth 100000 in
theorem cw_X7_highest : Cond.code (mi_nm mi_X7_highest) (mi_cd mi_X7_highest) (mi_ml mi_X7_highest) (mi_rt mi_X7_highest) ∈ sm_GG := List.mem_filter.mpr ⟨List.mem_of_getElem? (i := 378) rfl, rfl⟩
set_option maxRecDepth 100000 in
theorem cw_X7_readClause : Cond.code (mi_nm mi_X7_readClause) (mi_cd mi_X7_readClause) (mi_ml mi_X7_readClause) (mi_rt mi_X7_readClause) ∈ sm_GG := List.mem_filter.mpr ⟨List.mem_of_getElem? (i := 286) rfl, rfl⟩
set_option maxRecDepth 100000 in
theorem cw_X7_read : Cond.code (mi_nm mi_X7_read) (mi_cd mi_X7_read) (mi_ml mi_X7_read) (mi_rt mi_X7_read) ∈ sm_GG := List.mem_filter.mpr ⟨List.mem_of_getElem? (i := 282) rfl, rfl⟩
set_option maxRecDepth 100000 in
theorem cw_X9_fault : Cond.code (mi_nm mi_X9_fault) (mi_cd mi_X9_fault) (mi_ml mi_X9_fault) (mi_rt mi_X9_fault) ∈ sm_GG := List.mem_filter.mpr ⟨List.mem_of_getElem? (i := 278) rfl, rfl⟩
set_option maxRecDepth 100000 in
theorem cw_X10_isSort : Cond.code (mi_nm mi_X10_isSort) (mi_cd mi_X10_isSort) (mi_ml mi_X10_isSort) (mi_rt mi_X10_isSort) ∈ sm_GG := List.mem_filter.mpr ⟨List.mem_of_getElem? (i := 806) rfl, rfl⟩
set_option maxRecDepth 100000 in
theorem cw_X10_look : Cond.code (mi_nm mi_X10_look) (mi_cd mi_X10_look) (mi_ml mi_X10_look) (mi_rt mi_X10_look) ∈ sm_GG := List.mem_filter.mpr ⟨List.mem_of_getElem? (i := 802) rfl, rfl⟩
set_option maxRecDepth 100000 in
theorem cw_X10_isWord : Cond.code (mi_nm mi_X10_isWord) (mi_cd mi_X10_isWord) (mi_ml mi_X10_isWord) (mi_rt mi_X10_isWord) ∈ sm_GG := List.mem_filter.mpr ⟨List.mem_of_getElem? (i := 814) rfl, rfl⟩
set_option maxRecDepth 100000 in
theorem cw_X10_kindOfWord : Cond.code (mi_nm mi_X10_kindOfWord) (mi_cd mi_X10_kindOfWord) (mi_ml mi_X10_kindOfWord) (mi_rt mi_X10_kindOfWord) ∈ sm_GG := List.mem_filter.mpr ⟨List.mem_of_getElem? (i := 810) rfl, rfl⟩
set_option maxRecDepth 100000 in
theorem cw_X10_skip : Cond.code (mi_nm mi_X10_skip) (mi_cd mi_X10_skip) (mi_ml mi_X10_skip) (mi_rt mi_X10_skip) ∈ sm_GG := List.mem_filter.mpr ⟨List.mem_of_getElem? (i := 818) rfl, rfl⟩
set_option maxRecDepth 100000 in
theorem cw_X10_takeNumber : Cond.code (mi_nm mi_X10_takeNumber) (mi_cd mi_X10_takeNumber) (mi_ml mi_X10_takeNumber) (mi_rt mi_X10_takeNumber) ∈ sm_GG := List.mem_filter.mpr ⟨List.mem_of_getElem? (i := 826) rfl, rfl⟩
set_option maxRecDepth 100000 in
theorem cw_X10_takePatch : Cond.code (mi_nm mi_X10_takePatch) (mi_cd mi_X10_takePatch) (mi_ml mi_X10_takePatch) (mi_rt mi_X10_takePatch) ∈ sm_GG := List.mem_filter.mpr ⟨List.mem_of_getElem? (i := 822) rfl, rfl⟩
set_option maxRecDepth 100000 in
theorem cw_X10_takeCell : Cond.code (mi_nm mi_X10_takeCell) (mi_cd mi_X10_takeCell) (mi_ml mi_X10_takeCell) (mi_rt mi_X10_takeCell) ∈ sm_GG := List.mem_filter.mpr ⟨List.mem_of_getElem? (i := 830) rfl, rfl⟩
set_option maxRecDepth 100000 in
theorem cw_X10_takeOwe : Cond.code (mi_nm mi_X10_takeOwe) (mi_cd mi_X10_takeOwe) (mi_ml mi_X10_takeOwe) (mi_rt mi_X10_takeOwe) ∈ sm_GG := List.mem_filter.mpr ⟨List.mem_of_getElem? (i := 834) rfl, rfl⟩
set_option maxRecDepth 100000 in
theorem cw_X10_even : Cond.code (mi_nm mi_X10_even) (mi_cd mi_X10_even) (mi_ml mi_X10_even) (mi_rt mi_X10_even) ∈ sm_GG := List.mem_filter.mpr ⟨List.mem_of_getElem? (i := 838) rfl, rfl⟩
set_option maxRecDepth 100000 in
theorem cw_X10_takePlayer : Cond.code (mi_nm mi_X10_takePlayer) (mi_cd mi_X10_takePlayer) (mi_ml mi_X10_takePlayer) (mi_rt mi_X10_takePlayer) ∈ sm_GG := List.mem_filter.mpr ⟨List.mem_of_getElem? (i := 842) rfl, rfl⟩
set_option maxRecDepth 100000 in
theorem cw_X10_takeClause : Cond.code (mi_nm mi_X10_takeClause) (mi_cd mi_X10_takeClause) (mi_ml mi_X10_takeClause) (mi_rt mi_X10_takeClause) ∈ sm_GG := List.mem_filter.mpr ⟨List.mem_of_getElem? (i := 798) rfl, rfl⟩
set_option maxRecDepth 100000 in
theorem cw_X10_readAll : Cond.code (mi_nm mi_X10_readAll) (mi_cd mi_X10_readAll) (mi_ml mi_X10_readAll) (mi_rt mi_X10_readAll) ∈ sm_GG := List.mem_filter.mpr ⟨List.mem_of_getElem? (i := 794) rfl, rfl⟩
set_option maxRecDepth 100000 in
theorem cw_X10_fault : Cond.code (mi_nm mi_X10_fault) (mi_cd mi_X10_fault) (mi_ml mi_X10_fault) (mi_rt mi_X10_fault) ∈ sm_GG := List.mem_filter.mpr ⟨List.mem_of_getElem? (i := 790) rfl, rfl⟩
set_option maxRecDepth 100000 in
theorem cw_X7_verbOf : Cond.code (mi_nm mi_X7_verbOf) (mi_cd mi_X7_verbOf) (mi_ml mi_X7_verbOf) (mi_rt mi_X7_verbOf) ∈ sm_GG := List.mem_filter.mpr ⟨List.mem_of_getElem? (i := 387) rfl, rfl⟩
set_option maxRecDepth 100000 in
theorem cw_X7_number : Cond.code (mi_nm mi_X7_number) (mi_cd mi_X7_number) (mi_ml mi_X7_number) (mi_rt mi_X7_number) ∈ sm_GG := List.mem_filter.mpr ⟨List.mem_of_getElem? (i := 391) rfl, rfl⟩
set_option maxRecDepth 100000 in
theorem cw_X3_clearMarbles : Cond.code (mi_nm mi_X3_clearMarbles) (mi_cd mi_X3_clearMarbles) (mi_ml mi_X3_clearMarbles) (mi_rt mi_X3_clearMarbles) ∈ sm_GG := List.mem_filter.mpr ⟨List.mem_of_getElem? (i := 403) rfl, rfl⟩
set_option maxRecDepth 100000 in
theorem cw_X3_begin : Cond.code (mi_nm mi_X3_begin) (mi_cd mi_X3_begin) (mi_ml mi_X3_begin) (mi_rt mi_X3_begin) ∈ sm_GG := List.mem_filter.mpr ⟨List.mem_of_getElem? (i := 399) rfl, rfl⟩
set_option maxRecDepth 100000 in
theorem cw_X3_hasCell : Cond.code (mi_nm mi_X3_hasCell) (mi_cd mi_X3_hasCell) (mi_ml mi_X3_hasCell) (mi_rt mi_X3_hasCell) ∈ sm_GG := List.mem_filter.mpr ⟨List.mem_of_getElem? (i := 411) rfl, rfl⟩
set_option maxRecDepth 100000 in
theorem cw_X3_tilt : Cond.code (mi_nm mi_X3_tilt) (mi_cd mi_X3_tilt) (mi_ml mi_X3_tilt) (mi_rt mi_X3_tilt) ∈ sm_GG := List.mem_filter.mpr ⟨List.mem_of_getElem? (i := 407) rfl, rfl⟩
set_option maxRecDepth 100000 in
theorem cw_X3_lay : Cond.code (mi_nm mi_X3_lay) (mi_cd mi_X3_lay) (mi_ml mi_X3_lay) (mi_rt mi_X3_lay) ∈ sm_GG := List.mem_filter.mpr ⟨List.mem_of_getElem? (i := 415) rfl, rfl⟩
set_option maxRecDepth 100000 in
theorem cw_X3_hasPlayer : Cond.code (mi_nm mi_X3_hasPlayer) (mi_cd mi_X3_hasPlayer) (mi_ml mi_X3_hasPlayer) (mi_rt mi_X3_hasPlayer) ∈ sm_GG := List.mem_filter.mpr ⟨List.mem_of_getElem? (i := 427) rfl, rfl⟩
set_option maxRecDepth 100000 in
theorem cw_X3_hasPair : Cond.code (mi_nm mi_X3_hasPair) (mi_cd mi_X3_hasPair) (mi_ml mi_X3_hasPair) (mi_rt mi_X3_hasPair) ∈ sm_GG := List.mem_filter.mpr ⟨List.mem_of_getElem? (i := 423) rfl, rfl⟩
set_option maxRecDepth 100000 in
theorem cw_X3_owe : Cond.code (mi_nm mi_X3_owe) (mi_cd mi_X3_owe) (mi_ml mi_X3_owe) (mi_rt mi_X3_owe) ∈ sm_GG := List.mem_filter.mpr ⟨List.mem_of_getElem? (i := 419) rfl, rfl⟩
set_option maxRecDepth 100000 in
theorem cw_X3_join : Cond.code (mi_nm mi_X3_join) (mi_cd mi_X3_join) (mi_ml mi_X3_join) (mi_rt mi_X3_join) ∈ sm_GG := List.mem_filter.mpr ⟨List.mem_of_getElem? (i := 431) rfl, rfl⟩
set_option maxRecDepth 100000 in
theorem cw_X3_tell : Cond.code (mi_nm mi_X3_tell) (mi_cd mi_X3_tell) (mi_ml mi_X3_tell) (mi_rt mi_X3_tell) ∈ sm_GG := List.mem_filter.mpr ⟨List.mem_of_getElem? (i := 395) rfl, rfl⟩
set_option maxRecDepth 100000 in
theorem cw_X3_become : Cond.code (mi_nm mi_X3_become) (mi_cd mi_X3_become) (mi_ml mi_X3_become) (mi_rt mi_X3_become) ∈ sm_GG := List.mem_filter.mpr ⟨List.mem_of_getElem? (i := 435) rfl, rfl⟩
set_option maxRecDepth 100000 in
theorem cw_X9_patch : Cond.code (mi_nm mi_X9_patch) (mi_cd mi_X9_patch) (mi_ml mi_X9_patch) (mi_rt mi_X9_patch) ∈ sm_GG := List.mem_filter.mpr ⟨List.mem_of_getElem? (i := 383) rfl, rfl⟩
set_option maxRecDepth 100000 in
theorem cw_X10_patch : Cond.code (mi_nm mi_X10_patch) (mi_cd mi_X10_patch) (mi_ml mi_X10_patch) (mi_rt mi_X10_patch) ∈ sm_GG := List.mem_filter.mpr ⟨List.mem_of_getElem? (i := 846) rfl, rfl⟩
set_option maxRecDepth 100000 in
theorem cw_X9_cell : Cond.code (mi_nm mi_X9_cell) (mi_cd mi_X9_cell) (mi_ml mi_X9_cell) (mi_rt mi_X9_cell) ∈ sm_GG := List.mem_filter.mpr ⟨List.mem_of_getElem? (i := 442) rfl, rfl⟩
set_option maxRecDepth 100000 in
theorem cw_X10_cells : Cond.code (mi_nm mi_X10_cells) (mi_cd mi_X10_cells) (mi_ml mi_X10_cells) (mi_rt mi_X10_cells) ∈ sm_GG := List.mem_filter.mpr ⟨List.mem_of_getElem? (i := 858) rfl, rfl⟩
set_option maxRecDepth 100000 in
theorem cw_X10_isCell : Cond.code (mi_nm mi_X10_isCell) (mi_cd mi_X10_isCell) (mi_ml mi_X10_isCell) (mi_rt mi_X10_isCell) ∈ sm_GG := List.mem_filter.mpr ⟨List.mem_of_getElem? (i := 854) rfl, rfl⟩
set_option maxRecDepth 100000 in
theorem cw_X10_cell : Cond.code (mi_nm mi_X10_cell) (mi_cd mi_X10_cell) (mi_ml mi_X10_cell) (mi_rt mi_X10_cell) ∈ sm_GG := List.mem_filter.mpr ⟨List.mem_of_getElem? (i := 850) rfl, rfl⟩
set_option maxRecDepth 100000 in
theorem cw_X3_owes : Cond.code (mi_nm mi_X3_owes) (mi_cd mi_X3_owes) (mi_ml mi_X3_owes) (mi_rt mi_X3_owes) ∈ sm_GG := List.mem_filter.mpr ⟨List.mem_of_getElem? (i := 456) rfl, rfl⟩
set_option maxRecDepth 100000 in
theorem cw_X3_owesInAll : Cond.code (mi_nm mi_X3_owesInAll) (mi_cd mi_X3_owesInAll) (mi_ml mi_X3_owesInAll) (mi_rt mi_X3_owesInAll) ∈ sm_GG := List.mem_filter.mpr ⟨List.mem_of_getElem? (i := 452) rfl, rfl⟩
set_option maxRecDepth 100000 in
theorem cw_X3_isOwedInAll : Cond.code (mi_nm mi_X3_isOwedInAll) (mi_cd mi_X3_isOwedInAll) (mi_ml mi_X3_isOwedInAll) (mi_rt mi_X3_isOwedInAll) ∈ sm_GG := List.mem_filter.mpr ⟨List.mem_of_getElem? (i := 460) rfl, rfl⟩
set_option maxRecDepth 100000 in
theorem cw_X9_player : Cond.code (mi_nm mi_X9_player) (mi_cd mi_X9_player) (mi_ml mi_X9_player) (mi_rt mi_X9_player) ∈ sm_GG := List.mem_filter.mpr ⟨List.mem_of_getElem? (i := 447) rfl, rfl⟩
set_option maxRecDepth 100000 in
theorem cw_X10_players : Cond.code (mi_nm mi_X10_players) (mi_cd mi_X10_players) (mi_ml mi_X10_players) (mi_rt mi_X10_players) ∈ sm_GG := List.mem_filter.mpr ⟨List.mem_of_getElem? (i := 870) rfl, rfl⟩
set_option maxRecDepth 100000 in
theorem cw_X10_isPlayer : Cond.code (mi_nm mi_X10_isPlayer) (mi_cd mi_X10_isPlayer) (mi_ml mi_X10_isPlayer) (mi_rt mi_X10_isPlayer) ∈ sm_GG := List.mem_filter.mpr ⟨List.mem_of_getElem? (i := 866) rfl, rfl⟩
set_option maxRecDepth 100000 in
theorem cw_X10_kind : Cond.code (mi_nm mi_X10_kind) (mi_cd mi_X10_kind) (mi_ml mi_X10_kind) (mi_rt mi_X10_kind) ∈ sm_GG := List.mem_filter.mpr ⟨List.mem_of_getElem? (i := 874) rfl, rfl⟩
set_option maxRecDepth 100000 in
theorem cw_X10_owes : Cond.code (mi_nm mi_X10_owes) (mi_cd mi_X10_owes) (mi_ml mi_X10_owes) (mi_rt mi_X10_owes) ∈ sm_GG := List.mem_filter.mpr ⟨List.mem_of_getElem? (i := 878) rfl, rfl⟩
set_option maxRecDepth 100000 in
theorem cw_X10_owed : Cond.code (mi_nm mi_X10_owed) (mi_cd mi_X10_owed) (mi_ml mi_X10_owed) (mi_rt mi_X10_owed) ∈ sm_GG := List.mem_filter.mpr ⟨List.mem_of_getElem? (i := 882) rfl, rfl⟩
set_option maxRecDepth 100000 in
theorem cw_X10_player : Cond.code (mi_nm mi_X10_player) (mi_cd mi_X10_player) (mi_ml mi_X10_player) (mi_rt mi_X10_player) ∈ sm_GG := List.mem_filter.mpr ⟨List.mem_of_getElem? (i := 862) rfl, rfl⟩
set_option maxRecDepth 100000 in
theorem cw_X9_debt : Cond.code (mi_nm mi_X9_debt) (mi_cd mi_X9_debt) (mi_ml mi_X9_debt) (mi_rt mi_X9_debt) ∈ sm_GG := List.mem_filter.mpr ⟨List.mem_of_getElem? (i := 464) rfl, rfl⟩
set_option maxRecDepth 100000 in
theorem cw_X10_areTwo : Cond.code (mi_nm mi_X10_areTwo) (mi_cd mi_X10_areTwo) (mi_ml mi_X10_areTwo) (mi_rt mi_X10_areTwo) ∈ sm_GG := List.mem_filter.mpr ⟨List.mem_of_getElem? (i := 890) rfl, rfl⟩
set_option maxRecDepth 100000 in
theorem cw_X10_debt : Cond.code (mi_nm mi_X10_debt) (mi_cd mi_X10_debt) (mi_ml mi_X10_debt) (mi_rt mi_X10_debt) ∈ sm_GG := List.mem_filter.mpr ⟨List.mem_of_getElem? (i := 886) rfl, rfl⟩
set_option maxRecDepth 100000 in
theorem cw_X9_thumbOf : Cond.code (mi_nm mi_X9_thumbOf) (mi_cd mi_X9_thumbOf) (mi_ml mi_X9_thumbOf) (mi_rt mi_X9_thumbOf) ∈ sm_GG := List.mem_filter.mpr ⟨List.mem_of_getElem? (i := 474) rfl, rfl⟩
set_option maxRecDepth 100000 in
theorem cw_X9_isSuch : Cond.code (mi_nm mi_X9_isSuch) (mi_cd mi_X9_isSuch) (mi_ml mi_X9_isSuch) (mi_rt mi_X9_isSuch) ∈ sm_GG := List.mem_filter.mpr ⟨List.mem_of_getElem? (i := 477) rfl, rfl⟩
set_option maxRecDepth 100000 in
theorem cw_X0_share : Cond.code (mi_nm mi_X0_share) (mi_cd mi_X0_share) (mi_ml mi_X0_share) (mi_rt mi_X0_share) ∈ sm_GG := List.mem_filter.mpr ⟨List.mem_of_getElem? (i := 483) rfl, rfl⟩
set_option maxRecDepth 100000 in
theorem cw_X6_share : Cond.code (mi_nm mi_X6_share) (mi_cd mi_X6_share) (mi_ml mi_X6_share) (mi_rt mi_X6_share) ∈ sm_GG := List.mem_filter.mpr ⟨List.mem_of_getElem? (i := 486) rfl, rfl⟩
set_option maxRecDepth 100000 in
theorem cw_X9_as : Cond.code (mi_nm mi_X9_as) (mi_cd mi_X9_as) (mi_ml mi_X9_as) (mi_rt mi_X9_as) ∈ sm_GG := List.mem_filter.mpr ⟨List.mem_of_getElem? (i := 470) rfl, rfl⟩
set_option maxRecDepth 100000 in
theorem cw_X10_has : Cond.code (mi_nm mi_X10_has) (mi_cd mi_X10_has) (mi_ml mi_X10_has) (mi_rt mi_X10_has) ∈ sm_GG := List.mem_filter.mpr ⟨List.mem_of_getElem? (i := 899) rfl, rfl⟩
set_option maxRecDepth 100000 in
theorem cw_X10_as : Cond.code (mi_nm mi_X10_as) (mi_cd mi_X10_as) (mi_ml mi_X10_as) (mi_rt mi_X10_as) ∈ sm_GG := List.mem_filter.mpr ⟨List.mem_of_getElem? (i := 894) rfl, rfl⟩
set_option maxRecDepth 100000 in
theorem cw_X9_isForce : Cond.code (mi_nm mi_X9_isForce) (mi_cd mi_X9_isForce) (mi_ml mi_X9_isForce) (mi_rt mi_X9_isForce) ∈ sm_GG := List.mem_filter.mpr ⟨List.mem_of_getElem? (i := 495) rfl, rfl⟩
set_option maxRecDepth 100000 in
theorem cw_X2_add : Cond.code (mi_nm mi_X2_add) (mi_cd mi_X2_add) (mi_ml mi_X2_add) (mi_rt mi_X2_add) ∈ sm_GG := List.mem_filter.mpr ⟨List.mem_of_getElem? (i := 499) rfl, rfl⟩
set_option maxRecDepth 100000 in
theorem cw_X9_draw : Cond.code (mi_nm mi_X9_draw) (mi_cd mi_X9_draw) (mi_ml mi_X9_draw) (mi_rt mi_X9_draw) ∈ sm_GG := List.mem_filter.mpr ⟨List.mem_of_getElem? (i := 507) rfl, rfl⟩
set_option maxRecDepth 100000 in
theorem cw_X8_shaken : Cond.code (mi_nm mi_X8_shaken) (mi_cd mi_X8_shaken) (mi_ml mi_X8_shaken) (mi_rt mi_X8_shaken) ∈ sm_GG := List.mem_filter.mpr ⟨List.mem_of_getElem? (i := 524) rfl, rfl⟩
set_option maxRecDepth 100000 in
theorem cw_X4_shaken : Cond.code (mi_nm mi_X4_shaken) (mi_cd mi_X4_shaken) (mi_ml mi_X4_shaken) (mi_rt mi_X4_shaken) ∈ sm_GG := List.mem_filter.mpr ⟨List.mem_of_getElem? (i := 519) rfl, rfl⟩
set_option maxRecDepth 100000 in
theorem cw_X3_roll : Cond.code (mi_nm mi_X3_roll) (mi_cd mi_X3_roll) (mi_ml mi_X3_roll) (mi_rt mi_X3_roll) ∈ sm_GG := List.mem_filter.mpr ⟨List.mem_of_getElem? (i := 528) rfl, rfl⟩
set_option maxRecDepth 100000 in
theorem cw_X8_rest : Cond.code (mi_nm mi_X8_rest) (mi_cd mi_X8_rest) (mi_ml mi_X8_rest) (mi_rt mi_X8_rest) ∈ sm_GG := List.mem_filter.mpr ⟨List.mem_of_getElem? (i := 538) rfl, rfl⟩
set_option maxRecDepth 100000 in
theorem cw_X1_rest : Cond.code (mi_nm mi_X1_rest) (mi_cd mi_X1_rest) (mi_ml mi_X1_rest) (mi_rt mi_X1_rest) ∈ sm_GG := List.mem_filter.mpr ⟨List.mem_of_getElem? (i := 535) rfl, rfl⟩
set_option maxRecDepth 100000 in
theorem cw_X3_worthAt : Cond.code (mi_nm mi_X3_worthAt) (mi_cd mi_X3_worthAt) (mi_ml mi_X3_worthAt) (mi_rt mi_X3_worthAt) ∈ sm_GG := List.mem_filter.mpr ⟨List.mem_of_getElem? (i := 546) rfl, rfl⟩
set_option maxRecDepth 100000 in
theorem cw_X3_land : Cond.code (mi_nm mi_X3_land) (mi_cd mi_X3_land) (mi_ml mi_X3_land) (mi_rt mi_X3_land) ∈ sm_GG := List.mem_filter.mpr ⟨List.mem_of_getElem? (i := 542) rfl, rfl⟩
set_option maxRecDepth 100000 in
theorem cw_X8_change : Cond.code (mi_nm mi_X8_change) (mi_cd mi_X8_change) (mi_ml mi_X8_change) (mi_rt mi_X8_change) ∈ sm_GG := List.mem_filter.mpr ⟨List.mem_of_getElem? (i := 554) rfl, rfl⟩
set_option maxRecDepth 100000 in
theorem cw_X3_gain : Cond.code (mi_nm mi_X3_gain) (mi_cd mi_X3_gain) (mi_ml mi_X3_gain) (mi_rt mi_X3_gain) ∈ sm_GG := List.mem_filter.mpr ⟨List.mem_of_getElem? (i := 559) rfl, rfl⟩
set_option maxRecDepth 100000 in
theorem cw_X9_shoot : Cond.code (mi_nm mi_X9_shoot) (mi_cd mi_X9_shoot) (mi_ml mi_X9_shoot) (mi_rt mi_X9_shoot) ∈ sm_GG := List.mem_filter.mpr ⟨List.mem_of_getElem? (i := 492) rfl, rfl⟩
set_option maxRecDepth 100000 in
theorem cw_X10_remember : Cond.code (mi_nm mi_X10_remember) (mi_cd mi_X10_remember) (mi_ml mi_X10_remember) (mi_rt mi_X10_remember) ∈ sm_GG := List.mem_filter.mpr ⟨List.mem_of_getElem? (i := 909) rfl, rfl⟩
set_option maxRecDepth 100000 in
theorem cw_X10_forceOf : Cond.code (mi_nm mi_X10_forceOf) (mi_cd mi_X10_forceOf) (mi_ml mi_X10_forceOf) (mi_rt mi_X10_forceOf) ∈ sm_GG := List.mem_filter.mpr ⟨List.mem_of_getElem? (i := 913) rfl, rfl⟩
set_option maxRecDepth 100000 in
theorem cw_X10_rolls : Cond.code (mi_nm mi_X10_rolls) (mi_cd mi_X10_rolls) (mi_ml mi_X10_rolls) (mi_rt mi_X10_rolls) ∈ sm_GG := List.mem_filter.mpr ⟨List.mem_of_getElem? (i := 921) rfl, rfl⟩
set_option maxRecDepth 100000 in
theorem cw_X10_worthAt : Cond.code (mi_nm mi_X10_worthAt) (mi_cd mi_X10_worthAt) (mi_ml mi_X10_worthAt) (mi_rt mi_X10_worthAt) ∈ sm_GG := List.mem_filter.mpr ⟨List.mem_of_getElem? (i := 925) rfl, rfl⟩
set_option maxRecDepth 100000 in
theorem cw_X10_atMost : Cond.code (mi_nm mi_X10_atMost) (mi_cd mi_X10_atMost) (mi_ml mi_X10_atMost) (mi_rt mi_X10_atMost) ∈ sm_GG := List.mem_filter.mpr ⟨List.mem_of_getElem? (i := 928) rfl, rfl⟩
set_option maxRecDepth 100000 in
theorem cw_X10_shoot : Cond.code (mi_nm mi_X10_shoot) (mi_cd mi_X10_shoot) (mi_ml mi_X10_shoot) (mi_rt mi_X10_shoot) ∈ sm_GG := List.mem_filter.mpr ⟨List.mem_of_getElem? (i := 903) rfl, rfl⟩
set_option maxRecDepth 100000 in
theorem cw_X9_pay : Cond.code (mi_nm mi_X9_pay) (mi_cd mi_X9_pay) (mi_ml mi_X9_pay) (mi_rt mi_X9_pay) ∈ sm_GG := List.mem_filter.mpr ⟨List.mem_of_getElem? (i := 564) rfl, rfl⟩
set_option maxRecDepth 100000 in
theorem cw_X10_pay : Cond.code (mi_nm mi_X10_pay) (mi_cd mi_X10_pay) (mi_ml mi_X10_pay) (mi_rt mi_X10_pay) ∈ sm_GG := List.mem_filter.mpr ⟨List.mem_of_getElem? (i := 932) rfl, rfl⟩
set_option maxRecDepth 100000 in
theorem cw_X2_takeLatest : Cond.code (mi_nm mi_X2_takeLatest) (mi_cd mi_X2_takeLatest) (mi_ml mi_X2_takeLatest) (mi_rt mi_X2_takeLatest) ∈ sm_GG := List.mem_filter.mpr ⟨List.mem_of_getElem? (i := 573) rfl, rfl⟩
set_option maxRecDepth 100000 in
theorem cw_X9_undo : Cond.code (mi_nm mi_X9_undo) (mi_cd mi_X9_undo) (mi_ml mi_X9_undo) (mi_rt mi_X9_undo) ∈ sm_GG := List.mem_filter.mpr ⟨List.mem_of_getElem? (i := 569) rfl, rfl⟩
set_option maxRecDepth 100000 in
theorem cw_X10_undo : Cond.code (mi_nm mi_X10_undo) (mi_cd mi_X10_undo) (mi_ml mi_X10_undo) (mi_rt mi_X10_undo) ∈ sm_GG := List.mem_filter.mpr ⟨List.mem_of_getElem? (i := 937) rfl, rfl⟩
set_option maxRecDepth 100000 in
theorem cw_X9_keep : Cond.code (mi_nm mi_X9_keep) (mi_cd mi_X9_keep) (mi_ml mi_X9_keep) (mi_rt mi_X9_keep) ∈ sm_GG := List.mem_filter.mpr ⟨List.mem_of_getElem? (i := 577) rfl, rfl⟩
set_option maxRecDepth 100000 in
theorem cw_X10_keep : Cond.code (mi_nm mi_X10_keep) (mi_cd mi_X10_keep) (mi_ml mi_X10_keep) (mi_rt mi_X10_keep) ∈ sm_GG := List.mem_filter.mpr ⟨List.mem_of_getElem? (i := 941) rfl, rfl⟩
set_option maxRecDepth 100000 in
theorem cw_X9_back : Cond.code (mi_nm mi_X9_back) (mi_cd mi_X9_back) (mi_ml mi_X9_back) (mi_rt mi_X9_back) ∈ sm_GG := List.mem_filter.mpr ⟨List.mem_of_getElem? (i := 581) rfl, rfl⟩
set_option maxRecDepth 100000 in
theorem cw_X10_back : Cond.code (mi_nm mi_X10_back) (mi_cd mi_X10_back) (mi_ml mi_X10_back) (mi_rt mi_X10_back) ∈ sm_GG := List.mem_filter.mpr ⟨List.mem_of_getElem? (i := 945) rfl, rfl⟩
set_option maxRecDepth 100000 in
theorem cw_X9_isZeroOrOne : Cond.code (mi_nm mi_X9_isZeroOrOne) (mi_cd mi_X9_isZeroOrOne) (mi_ml mi_X9_isZeroOrOne) (mi_rt mi_X9_isZeroOrOne) ∈ sm_GG := List.mem_filter.mpr ⟨List.mem_of_getElem? (i := 588) rfl, rfl⟩
set_option maxRecDepth 100000 in
theorem cw_X9_stop : Cond.code (mi_nm mi_X9_stop) (mi_cd mi_X9_stop) (mi_ml mi_X9_stop) (mi_rt mi_X9_stop) ∈ sm_GG := List.mem_filter.mpr ⟨List.mem_of_getElem? (i := 585) rfl, rfl⟩
set_option maxRecDepth 100000 in
theorem cw_X10_stop : Cond.code (mi_nm mi_X10_stop) (mi_cd mi_X10_stop) (mi_ml mi_X10_stop) (mi_rt mi_X10_stop) ∈ sm_GG := List.mem_filter.mpr ⟨List.mem_of_getElem? (i := 949) rfl, rfl⟩
set_option maxRecDepth 100000 in
theorem cw_X9_commonDivisor : Cond.code (mi_nm mi_X9_commonDivisor) (mi_cd mi_X9_commonDivisor) (mi_ml mi_X9_commonDivisor) (mi_rt mi_X9_commonDivisor) ∈ sm_GG := List.mem_filter.mpr ⟨List.mem_of_getElem? (i := 599) rfl, rfl⟩
set_option maxRecDepth 100000 in
theorem cw_X9_partOf : Cond.code (mi_nm mi_X9_partOf) (mi_cd mi_X9_partOf) (mi_ml mi_X9_partOf) (mi_rt mi_X9_partOf) ∈ sm_GG := List.mem_filter.mpr ⟨List.mem_of_getElem? (i := 596) rfl, rfl⟩
set_option maxRecDepth 100000 in
theorem cw_X9_odds : Cond.code (mi_nm mi_X9_odds) (mi_cd mi_X9_odds) (mi_ml mi_X9_odds) (mi_rt mi_X9_odds) ∈ sm_GG := List.mem_filter.mpr ⟨List.mem_of_getElem? (i := 593) rfl, rfl⟩
set_option maxRecDepth 100000 in
theorem cw_X10_less : Cond.code (mi_nm mi_X10_less) (mi_cd mi_X10_less) (mi_ml mi_X10_less) (mi_rt mi_X10_less) ∈ sm_GG := List.mem_filter.mpr ⟨List.mem_of_getElem? (i := 956) rfl, rfl⟩
set_option maxRecDepth 100000 in
theorem cw_X10_hits : Cond.code (mi_nm mi_X10_hits) (mi_cd mi_X10_hits) (mi_ml mi_X10_hits) (mi_rt mi_X10_hits) ∈ sm_GG := List.mem_filter.mpr ⟨List.mem_of_getElem? (i := 960) rfl, rfl⟩
set_option maxRecDepth 100000 in
theorem cw_X10_part : Cond.code (mi_nm mi_X10_part) (mi_cd mi_X10_part) (mi_ml mi_X10_part) (mi_rt mi_X10_part) ∈ sm_GG := List.mem_filter.mpr ⟨List.mem_of_getElem? (i := 963) rfl, rfl⟩
set_option maxRecDepth 100000 in
theorem cw_X10_odds : Cond.code (mi_nm mi_X10_odds) (mi_cd mi_X10_odds) (mi_ml mi_X10_odds) (mi_rt mi_X10_odds) ∈ sm_GG := List.mem_filter.mpr ⟨List.mem_of_getElem? (i := 953) rfl, rfl⟩
set_option maxRecDepth 100000 in
theorem cw_X9_quarters : Cond.code (mi_nm mi_X9_quarters) (mi_cd mi_X9_quarters) (mi_ml mi_X9_quarters) (mi_rt mi_X9_quarters) ∈ sm_GG := List.mem_filter.mpr ⟨List.mem_of_getElem? (i := 607) rfl, rfl⟩
set_option maxRecDepth 100000 in
theorem cw_X9_mean : Cond.code (mi_nm mi_X9_mean) (mi_cd mi_X9_mean) (mi_ml mi_X9_mean) (mi_rt mi_X9_mean) ∈ sm_GG := List.mem_filter.mpr ⟨List.mem_of_getElem? (i := 603) rfl, rfl⟩
set_option maxRecDepth 100000 in
theorem cw_X10_gains : Cond.code (mi_nm mi_X10_gains) (mi_cd mi_X10_gains) (mi_ml mi_X10_gains) (mi_rt mi_X10_gains) ∈ sm_GG := List.mem_filter.mpr ⟨List.mem_of_getElem? (i := 975) rfl, rfl⟩
set_option maxRecDepth 100000 in
theorem cw_X10_meanOf : Cond.code (mi_nm mi_X10_meanOf) (mi_cd mi_X10_meanOf) (mi_ml mi_X10_meanOf) (mi_rt mi_X10_meanOf) ∈ sm_GG := List.mem_filter.mpr ⟨List.mem_of_getElem? (i := 971) rfl, rfl⟩
set_option maxRecDepth 100000 in
theorem cw_X10_mean : Cond.code (mi_nm mi_X10_mean) (mi_cd mi_X10_mean) (mi_ml mi_X10_mean) (mi_rt mi_X10_mean) ∈ sm_GG := List.mem_filter.mpr ⟨List.mem_of_getElem? (i := 967) rfl, rfl⟩
set_option maxRecDepth 100000 in
theorem cw_X9_best : Cond.code (mi_nm mi_X9_best) (mi_cd mi_X9_best) (mi_ml mi_X9_best) (mi_rt mi_X9_best) ∈ sm_GG := List.mem_filter.mpr ⟨List.mem_of_getElem? (i := 611) rfl, rfl⟩
set_option maxRecDepth 100000 in
theorem cw_X10_best : Cond.code (mi_nm mi_X10_best) (mi_cd mi_X10_best) (mi_ml mi_X10_best) (mi_rt mi_X10_best) ∈ sm_GG := List.mem_filter.mpr ⟨List.mem_of_getElem? (i := 979) rfl, rfl⟩
set_option maxRecDepth 100000 in
theorem cw_X9_two : Cond.code (mi_nm mi_X9_two) (mi_cd mi_X9_two) (mi_ml mi_X9_two) (mi_rt mi_X9_two) ∈ sm_GG := List.mem_filter.mpr ⟨List.mem_of_getElem? (i := 615) rfl, rfl⟩
set_option maxRecDepth 100000 in
theorem cw_X10_begin : Cond.code (mi_nm mi_X10_begin) (mi_cd mi_X10_begin) (mi_ml mi_X10_begin) (mi_rt mi_X10_begin) ∈ sm_GG := List.mem_filter.mpr ⟨List.mem_of_getElem? (i := 987) rfl, rfl⟩
set_option maxRecDepth 100000 in
theorem cw_X10_hitIn : Cond.code (mi_nm mi_X10_hitIn) (mi_cd mi_X10_hitIn) (mi_ml mi_X10_hitIn) (mi_rt mi_X10_hitIn) ∈ sm_GG := List.mem_filter.mpr ⟨List.mem_of_getElem? (i := 991) rfl, rfl⟩
set_option maxRecDepth 100000 in
theorem cw_X10_two : Cond.code (mi_nm mi_X10_two) (mi_cd mi_X10_two) (mi_ml mi_X10_two) (mi_rt mi_X10_two) ∈ sm_GG := List.mem_filter.mpr ⟨List.mem_of_getElem? (i := 983) rfl, rfl⟩
set_option maxRecDepth 100000 in
theorem cw_X5_add : Cond.code (mi_nm mi_X5_add) (mi_cd mi_X5_add) (mi_ml mi_X5_add) (mi_rt mi_X5_add) ∈ sm_GG := List.mem_filter.mpr ⟨List.mem_of_getElem? (i := 623) rfl, rfl⟩
set_option maxRecDepth 100000 in
theorem cw_X9_seen : Cond.code (mi_nm mi_X9_seen) (mi_cd mi_X9_seen) (mi_ml mi_X9_seen) (mi_rt mi_X9_seen) ∈ sm_GG := List.mem_filter.mpr ⟨List.mem_of_getElem? (i := 619) rfl, rfl⟩
set_option maxRecDepth 100000 in
theorem cw_X10_seen : Cond.code (mi_nm mi_X10_seen) (mi_cd mi_X10_seen) (mi_ml mi_X10_seen) (mi_rt mi_X10_seen) ∈ sm_GG := List.mem_filter.mpr ⟨List.mem_of_getElem? (i := 995) rfl, rfl⟩
set_option maxRecDepth 100000 in
theorem cw_X9_forget : Cond.code (mi_nm mi_X9_forget) (mi_cd mi_X9_forget) (mi_ml mi_X9_forget) (mi_rt mi_X9_forget) ∈ sm_GG := List.mem_filter.mpr ⟨List.mem_of_getElem? (i := 627) rfl, rfl⟩
set_option maxRecDepth 100000 in
theorem cw_X10_forget : Cond.code (mi_nm mi_X10_forget) (mi_cd mi_X10_forget) (mi_ml mi_X10_forget) (mi_rt mi_X10_forget) ∈ sm_GG := List.mem_filter.mpr ⟨List.mem_of_getElem? (i := 1000) rfl, rfl⟩
set_option maxRecDepth 100000 in
theorem cw_X5_fits : Cond.code (mi_nm mi_X5_fits) (mi_cd mi_X5_fits) (mi_ml mi_X5_fits) (mi_rt mi_X5_fits) ∈ sm_GG := List.mem_filter.mpr ⟨List.mem_of_getElem? (i := 636) rfl, rfl⟩
set_option maxRecDepth 100000 in
theorem cw_X9_slopes : Cond.code (mi_nm mi_X9_slopes) (mi_cd mi_X9_slopes) (mi_ml mi_X9_slopes) (mi_rt mi_X9_slopes) ∈ sm_GG := List.mem_filter.mpr ⟨List.mem_of_getElem? (i := 631) rfl, rfl⟩
set_option maxRecDepth 100000 in
theorem cw_X10_slopes : Cond.code (mi_nm mi_X10_slopes) (mi_cd mi_X10_slopes) (mi_ml mi_X10_slopes) (mi_rt mi_X10_slopes) ∈ sm_GG := List.mem_filter.mpr ⟨List.mem_of_getElem? (i := 1004) rfl, rfl⟩
set_option maxRecDepth 100000 in
theorem cw_X9_isOfTen : Cond.code (mi_nm mi_X9_isOfTen) (mi_cd mi_X9_isOfTen) (mi_ml mi_X9_isOfTen) (mi_rt mi_X9_isOfTen) ∈ sm_GG := List.mem_filter.mpr ⟨List.mem_of_getElem? (i := 644) rfl, rfl⟩
set_option maxRecDepth 100000 in
theorem cw_X9_power : Cond.code (mi_nm mi_X9_power) (mi_cd mi_X9_power) (mi_ml mi_X9_power) (mi_rt mi_X9_power) ∈ sm_GG := List.mem_filter.mpr ⟨List.mem_of_getElem? (i := 648) rfl, rfl⟩
set_option maxRecDepth 100000 in
theorem cw_X9_ruin : Cond.code (mi_nm mi_X9_ruin) (mi_cd mi_X9_ruin) (mi_ml mi_X9_ruin) (mi_rt mi_X9_ruin) ∈ sm_GG := List.mem_filter.mpr ⟨List.mem_of_getElem? (i := 641) rfl, rfl⟩
set_option maxRecDepth 100000 in
theorem cw_X10_weights : Cond.code (mi_nm mi_X10_weights) (mi_cd mi_X10_weights) (mi_ml mi_X10_weights) (mi_rt mi_X10_weights) ∈ sm_GG := List.mem_filter.mpr ⟨List.mem_of_getElem? (i := 1014) rfl, rfl⟩
set_option maxRecDepth 100000 in
theorem cw_X10_ruin : Cond.code (mi_nm mi_X10_ruin) (mi_cd mi_X10_ruin) (mi_ml mi_X10_ruin) (mi_rt mi_X10_ruin) ∈ sm_GG := List.mem_filter.mpr ⟨List.mem_of_getElem? (i := 1008) rfl, rfl⟩
set_option maxRecDepth 100000 in
theorem cw_X9_isIn : Cond.code (mi_nm mi_X9_isIn) (mi_cd mi_X9_isIn) (mi_ml mi_X9_isIn) (mi_rt mi_X9_isIn) ∈ sm_GG := List.mem_filter.mpr ⟨List.mem_of_getElem? (i := 662) rfl, rfl⟩
set_option maxRecDepth 100000 in
theorem cw_X3_balance : Cond.code (mi_nm mi_X3_balance) (mi_cd mi_X3_balance) (mi_ml mi_X3_balance) (mi_rt mi_X3_balance) ∈ sm_GG := List.mem_filter.mpr ⟨List.mem_of_getElem? (i := 666) rfl, rfl⟩
set_option maxRecDepth 100000 in
theorem cw_X9_evenGroups : Cond.code (mi_nm mi_X9_evenGroups) (mi_cd mi_X9_evenGroups) (mi_ml mi_X9_evenGroups) (mi_rt mi_X9_evenGroups) ∈ sm_GG := List.mem_filter.mpr ⟨List.mem_of_getElem? (i := 659) rfl, rfl⟩
set_option maxRecDepth 100000 in
theorem cw_X9_netted : Cond.code (mi_nm mi_X9_netted) (mi_cd mi_X9_netted) (mi_ml mi_X9_netted) (mi_rt mi_X9_netted) ∈ sm_GG := List.mem_filter.mpr ⟨List.mem_of_getElem? (i := 655) rfl, rfl⟩
set_option maxRecDepth 100000 in
theorem cw_X10_net : Cond.code (mi_nm mi_X10_net) (mi_cd mi_X10_net) (mi_ml mi_X10_net) (mi_rt mi_X10_net) ∈ sm_GG := List.mem_filter.mpr ⟨List.mem_of_getElem? (i := 1022) rfl, rfl⟩
set_option maxRecDepth 100000 in
theorem cw_X10_netted : Cond.code (mi_nm mi_X10_netted) (mi_cd mi_X10_netted) (mi_ml mi_X10_netted) (mi_rt mi_X10_netted) ∈ sm_GG := List.mem_filter.mpr ⟨List.mem_of_getElem? (i := 1018) rfl, rfl⟩
set_option maxRecDepth 100000 in
theorem cw_X3_owedByAny : Cond.code (mi_nm mi_X3_owedByAny) (mi_cd mi_X3_owedByAny) (mi_ml mi_X3_owedByAny) (mi_rt mi_X3_owedByAny) ∈ sm_GG := List.mem_filter.mpr ⟨List.mem_of_getElem? (i := 677) rfl, rfl⟩
set_option maxRecDepth 100000 in
theorem cw_X9_ring : Cond.code (mi_nm mi_X9_ring) (mi_cd mi_X9_ring) (mi_ml mi_X9_ring) (mi_rt mi_X9_ring) ∈ sm_GG := List.mem_filter.mpr ⟨List.mem_of_getElem? (i := 673) rfl, rfl⟩
set_option maxRecDepth 100000 in
theorem cw_X10_ring : Cond.code (mi_nm mi_X10_ring) (mi_cd mi_X10_ring) (mi_ml mi_X10_ring) (mi_rt mi_X10_ring) ∈ sm_GG := List.mem_filter.mpr ⟨List.mem_of_getElem? (i := 1026) rfl, rfl⟩
set_option maxRecDepth 100000 in
theorem cw_X9_poor : Cond.code (mi_nm mi_X9_poor) (mi_cd mi_X9_poor) (mi_ml mi_X9_poor) (mi_rt mi_X9_poor) ∈ sm_GG := List.mem_filter.mpr ⟨List.mem_of_getElem? (i := 682) rfl, rfl⟩
set_option maxRecDepth 100000 in
theorem cw_X10_poor : Cond.code (mi_nm mi_X10_poor) (mi_cd mi_X10_poor) (mi_ml mi_X10_poor) (mi_rt mi_X10_poor) ∈ sm_GG := List.mem_filter.mpr ⟨List.mem_of_getElem? (i := 1030) rfl, rfl⟩
set_option maxRecDepth 100000 in
theorem cw_X9_ways : Cond.code (mi_nm mi_X9_ways) (mi_cd mi_X9_ways) (mi_ml mi_X9_ways) (mi_rt mi_X9_ways) ∈ sm_GG := List.mem_filter.mpr ⟨List.mem_of_getElem? (i := 689) rfl, rfl⟩
set_option maxRecDepth 100000 in
theorem cw_X9_rain : Cond.code (mi_nm mi_X9_rain) (mi_cd mi_X9_rain) (mi_ml mi_X9_rain) (mi_rt mi_X9_rain) ∈ sm_GG := List.mem_filter.mpr ⟨List.mem_of_getElem? (i := 686) rfl, rfl⟩
set_option maxRecDepth 100000 in
theorem cw_X10_rain : Cond.code (mi_nm mi_X10_rain) (mi_cd mi_X10_rain) (mi_ml mi_X10_rain) (mi_rt mi_X10_rain) ∈ sm_GG := List.mem_filter.mpr ⟨List.mem_of_getElem? (i := 1034) rfl, rfl⟩
set_option maxRecDepth 100000 in
theorem cw_X3_marbles : Cond.code (mi_nm mi_X3_marbles) (mi_cd mi_X3_marbles) (mi_ml mi_X3_marbles) (mi_rt mi_X3_marbles) ∈ sm_GG := List.mem_filter.mpr ⟨List.mem_of_getElem? (i := 697) rfl, rfl⟩
set_option maxRecDepth 100000 in
theorem cw_X9_total : Cond.code (mi_nm mi_X9_total) (mi_cd mi_X9_total) (mi_ml mi_X9_total) (mi_rt mi_X9_total) ∈ sm_GG := List.mem_filter.mpr ⟨List.mem_of_getElem? (i := 700) rfl, rfl⟩
set_option maxRecDepth 100000 in
theorem cw_X9_count : Cond.code (mi_nm mi_X9_count) (mi_cd mi_X9_count) (mi_ml mi_X9_count) (mi_rt mi_X9_count) ∈ sm_GG := List.mem_filter.mpr ⟨List.mem_of_getElem? (i := 693) rfl, rfl⟩
set_option maxRecDepth 100000 in
theorem cw_X10_lying : Cond.code (mi_nm mi_X10_lying) (mi_cd mi_X10_lying) (mi_ml mi_X10_lying) (mi_rt mi_X10_lying) ∈ sm_GG := List.mem_filter.mpr ⟨List.mem_of_getElem? (i := 1043) rfl, rfl⟩
set_option maxRecDepth 100000 in
theorem cw_X10_sumOf : Cond.code (mi_nm mi_X10_sumOf) (mi_cd mi_X10_sumOf) (mi_ml mi_X10_sumOf) (mi_rt mi_X10_sumOf) ∈ sm_GG := List.mem_filter.mpr ⟨List.mem_of_getElem? (i := 1047) rfl, rfl⟩
set_option maxRecDepth 100000 in
theorem cw_X10_count : Cond.code (mi_nm mi_X10_count) (mi_cd mi_X10_count) (mi_ml mi_X10_count) (mi_rt mi_X10_count) ∈ sm_GG := List.mem_filter.mpr ⟨List.mem_of_getElem? (i := 1039) rfl, rfl⟩
set_option maxRecDepth 100000 in
theorem sm_codes : ∀ k ∈ sm_MTc, Cond.code (mi_nm k) (mi_cd k) (mi_ml k) (mi_rt k) ∈ sm_GG := List.forall_mem_cons.mpr ⟨cw_J7_fill_53178, List.forall_mem_cons.mpr ⟨cw_X3_init, List.forall_mem_cons.mpr ⟨cw_X2_init, List.forall_mem_cons.mpr ⟨cw_X5_init, List.forall_mem_cons.mpr ⟨cw_X7_init, List.forall_mem_cons.mpr ⟨cw_X8_init, List.forall_mem_cons.mpr ⟨cw_X6_init, List.forall_mem_cons.mpr ⟨cw_X4_init, List.forall_mem_cons.mpr ⟨cw_X1_init, List.forall_mem_cons.mpr ⟨cw_X0_init, List.forall_mem_cons.mpr ⟨cw_X9_init, List.forall_mem_cons.mpr ⟨cw_X10_init, List.forall_mem_cons.mpr ⟨cw_X7_add, List.forall_mem_cons.mpr ⟨cw_X9_write, List.forall_mem_cons.mpr ⟨cw_X10_in, List.forall_mem_cons.mpr ⟨cw_X10_write, List.forall_mem_cons.mpr ⟨cw_X9_erase, List.forall_mem_cons.mpr ⟨cw_X10_erase, List.forall_mem_cons.mpr ⟨cw_X7_sortOf, List.forall_mem_cons.mpr ⟨cw_X7_step, List.forall_mem_cons.mpr ⟨cw_X7_wordOf, List.forall_mem_cons.mpr ⟨cw_X7_isHere, List.forall_mem_cons.mpr ⟨cw_X7_verbHere, List.forall_mem_cons.mpr ⟨cw_X7_isPlayer, List.forall_mem_cons.mpr ⟨cw_X7_numbersOf, List.forall_mem_cons.mpr ⟨cw_X7_numberHere, List.forall_mem_cons.mpr ⟨cw_X7_lowest, List.forall_mem_cons.mpr ⟨cw_X7_highest, List.forall_mem_cons.mpr ⟨cw_X7_readClause, List.forall_mem_cons.mpr ⟨cw_X7_read, List.forall_mem_cons.mpr ⟨cw_X9_fault, List.forall_mem_cons.mpr ⟨cw_X10_isSort, List.forall_mem_cons.mpr ⟨cw_X10_look, List.forall_mem_cons.mpr ⟨cw_X10_isWord, List.forall_mem_cons.mpr ⟨cw_X10_kindOfWord, List.forall_mem_cons.mpr ⟨cw_X10_skip, List.forall_mem_cons.mpr ⟨cw_X10_takeNumber, List.forall_mem_cons.mpr ⟨cw_X10_takePatch, List.forall_mem_cons.mpr ⟨cw_X10_takeCell, List.forall_mem_cons.mpr ⟨cw_X10_takeOwe, List.forall_mem_cons.mpr ⟨cw_X10_even, List.forall_mem_cons.mpr ⟨cw_X10_takePlayer, List.forall_mem_cons.mpr ⟨cw_X10_takeClause, List.forall_mem_cons.mpr ⟨cw_X10_readAll, List.forall_mem_cons.mpr ⟨cw_X10_fault, List.forall_mem_cons.mpr ⟨cw_X7_verbOf, List.forall_mem_cons.mpr ⟨cw_X7_number, List.forall_mem_cons.mpr ⟨cw_X3_clearMarbles, List.forall_mem_cons.mpr ⟨cw_X3_begin, List.forall_mem_cons.mpr ⟨cw_X3_hasCell, List.forall_mem_cons.mpr ⟨cw_X3_tilt, List.forall_mem_cons.mpr ⟨cw_X3_lay, List.forall_mem_cons.mpr ⟨cw_X3_hasPlayer, List.forall_mem_cons.mpr ⟨cw_X3_hasPair, List.forall_mem_cons.mpr ⟨cw_X3_owe, List.forall_mem_cons.mpr ⟨cw_X3_join, List.forall_mem_cons.mpr ⟨cw_X3_tell, List.forall_mem_cons.mpr ⟨cw_X3_become, List.forall_mem_cons.mpr ⟨cw_X9_patch, List.forall_mem_cons.mpr ⟨cw_X10_patch, List.forall_mem_cons.mpr ⟨cw_X9_cell, List.forall_mem_cons.mpr ⟨cw_X10_cells, List.forall_mem_cons.mpr ⟨cw_X10_isCell, List.forall_mem_cons.mpr ⟨cw_X10_cell, List.forall_mem_cons.mpr ⟨cw_X3_owes, List.forall_mem_cons.mpr ⟨cw_X3_owesInAll, List.forall_mem_cons.mpr ⟨cw_X3_isOwedInAll, List.forall_mem_cons.mpr ⟨cw_X9_player, List.forall_mem_cons.mpr ⟨cw_X10_players, List.forall_mem_cons.mpr ⟨cw_X10_isPlayer, List.forall_mem_cons.mpr ⟨cw_X10_kind, List.forall_mem_cons.mpr ⟨cw_X10_owes, List.forall_mem_cons.mpr ⟨cw_X10_owed, List.forall_mem_cons.mpr ⟨cw_X10_player, List.forall_mem_cons.mpr ⟨cw_X9_debt, List.forall_mem_cons.mpr ⟨cw_X10_areTwo, List.forall_mem_cons.mpr ⟨cw_X10_debt, List.forall_mem_cons.mpr ⟨cw_X9_thumbOf, List.forall_mem_cons.mpr ⟨cw_X9_isSuch, List.forall_mem_cons.mpr ⟨cw_X0_share, List.forall_mem_cons.mpr ⟨cw_X6_share, List.forall_mem_cons.mpr ⟨cw_X9_as, List.forall_mem_cons.mpr ⟨cw_X10_has, List.forall_mem_cons.mpr ⟨cw_X10_as, List.forall_mem_cons.mpr ⟨cw_X9_isForce, List.forall_mem_cons.mpr ⟨cw_X2_add, List.forall_mem_cons.mpr ⟨cw_X9_draw, List.forall_mem_cons.mpr ⟨cw_X8_shaken, List.forall_mem_cons.mpr ⟨cw_X4_shaken, List.forall_mem_cons.mpr ⟨cw_X3_roll, List.forall_mem_cons.mpr ⟨cw_X8_rest, List.forall_mem_cons.mpr ⟨cw_X1_rest, List.forall_mem_cons.mpr ⟨cw_X3_worthAt, List.forall_mem_cons.mpr ⟨cw_X3_land, List.forall_mem_cons.mpr ⟨cw_X8_change, List.forall_mem_cons.mpr ⟨cw_X3_gain, List.forall_mem_cons.mpr ⟨cw_X9_shoot, List.forall_mem_cons.mpr ⟨cw_X10_remember, List.forall_mem_cons.mpr ⟨cw_X10_forceOf, List.forall_mem_cons.mpr ⟨cw_X10_rolls, List.forall_mem_cons.mpr ⟨cw_X10_worthAt, List.forall_mem_cons.mpr ⟨cw_X10_atMost, List.forall_mem_cons.mpr ⟨cw_X10_shoot, List.forall_mem_cons.mpr ⟨cw_X9_pay, List.forall_mem_cons.mpr ⟨cw_X10_pay, List.forall_mem_cons.mpr ⟨cw_X2_takeLatest, List.forall_mem_cons.mpr ⟨cw_X9_undo, List.forall_mem_cons.mpr ⟨cw_X10_undo, List.forall_mem_cons.mpr ⟨cw_X9_keep, List.forall_mem_cons.mpr ⟨cw_X10_keep, List.forall_mem_cons.mpr ⟨cw_X9_back, List.forall_mem_cons.mpr ⟨cw_X10_back, List.forall_mem_cons.mpr ⟨cw_X9_isZeroOrOne, List.forall_mem_cons.mpr ⟨cw_X9_stop, List.forall_mem_cons.mpr ⟨cw_X10_stop, List.forall_mem_cons.mpr ⟨cw_X9_commonDivisor, List.forall_mem_cons.mpr ⟨cw_X9_partOf, List.forall_mem_cons.mpr ⟨cw_X9_odds, List.forall_mem_cons.mpr ⟨cw_X10_less, List.forall_mem_cons.mpr ⟨cw_X10_hits, List.forall_mem_cons.mpr ⟨cw_X10_part, List.forall_mem_cons.mpr ⟨cw_X10_odds, List.forall_mem_cons.mpr ⟨cw_X9_quarters, List.forall_mem_cons.mpr ⟨cw_X9_mean, List.forall_mem_cons.mpr ⟨cw_X10_gains, List.forall_mem_cons.mpr ⟨cw_X10_meanOf, List.forall_mem_cons.mpr ⟨cw_X10_mean, List.forall_mem_cons.mpr ⟨cw_X9_best, List.forall_mem_cons.mpr ⟨cw_X10_best, List.forall_mem_cons.mpr ⟨cw_X9_two, List.forall_mem_cons.mpr ⟨cw_X10_begin, List.forall_mem_cons.mpr ⟨cw_X10_hitIn, List.forall_mem_cons.mpr ⟨cw_X10_two, List.forall_mem_cons.mpr ⟨cw_X5_add, List.forall_mem_cons.mpr ⟨cw_X9_seen, List.forall_mem_cons.mpr ⟨cw_X10_seen, List.forall_mem_cons.mpr ⟨cw_X9_forget, List.forall_mem_cons.mpr ⟨cw_X10_forget, List.forall_mem_cons.mpr ⟨cw_X5_fits, List.forall_mem_cons.mpr ⟨cw_X9_slopes, List.forall_mem_cons.mpr ⟨cw_X10_slopes, List.forall_mem_cons.mpr ⟨cw_X9_isOfTen, List.forall_mem_cons.mpr ⟨cw_X9_power, List.forall_mem_cons.mpr ⟨cw_X9_ruin, List.forall_mem_cons.mpr ⟨cw_X10_weights, List.forall_mem_cons.mpr ⟨cw_X10_ruin, List.forall_mem_cons.mpr ⟨cw_X9_isIn, List.forall_mem_cons.mpr ⟨cw_X3_balance, List.forall_mem_cons.mpr ⟨cw_X9_evenGroups, List.forall_mem_cons.mpr ⟨cw_X9_netted, List.forall_mem_cons.mpr ⟨cw_X10_net, List.forall_mem_cons.mpr ⟨cw_X10_netted, List.forall_mem_cons.mpr ⟨cw_X3_owedByAny, List.forall_mem_cons.mpr ⟨cw_X9_ring, List.forall_mem_cons.mpr ⟨cw_X10_ring, List.forall_mem_cons.mpr ⟨cw_X9_poor, List.forall_mem_cons.mpr ⟨cw_X10_poor, List.forall_mem_cons.mpr ⟨cw_X9_ways, List.forall_mem_cons.mpr ⟨cw_X9_rain, List.forall_mem_cons.mpr ⟨cw_X10_rain, List.forall_mem_cons.mpr ⟨cw_X3_marbles, List.forall_mem_cons.mpr ⟨cw_X9_total, List.forall_mem_cons.mpr ⟨cw_X9_count, List.forall_mem_cons.mpr ⟨cw_X10_lying, List.forall_mem_cons.mpr ⟨cw_X10_sumOf, List.forall_mem_cons.mpr ⟨cw_X10_count, fun _ h => absurd h List.not_mem_nil⟩⟩⟩⟩⟩⟩⟩⟩⟩⟩⟩⟩⟩⟩⟩⟩⟩⟩⟩⟩⟩⟩⟩⟩⟩⟩⟩⟩⟩⟩⟩⟩⟩⟩⟩⟩⟩⟩⟩⟩⟩⟩⟩⟩⟩⟩⟩⟩⟩⟩⟩⟩⟩⟩⟩⟩⟩⟩⟩⟩⟩⟩⟩⟩⟩⟩⟩⟩⟩⟩⟩⟩⟩⟩⟩⟩⟩⟩⟩⟩⟩⟩⟩⟩⟩⟩⟩⟩⟩⟩⟩⟩⟩⟩⟩⟩⟩⟩⟩⟩⟩⟩⟩⟩⟩⟩⟩⟩⟩⟩⟩⟩⟩⟩⟩⟩⟩⟩⟩⟩⟩⟩⟩⟩⟩⟩⟩⟩⟩⟩⟩⟩⟩⟩⟩⟩⟩⟩⟩⟩⟩⟩⟩⟩⟩⟩⟩⟩⟩⟩⟩⟩⟩⟩⟩⟩⟩⟩⟩⟩⟩⟩⟩⟩⟩⟩
set_option maxRecDepth 100000 in
theorem sm_MT_split : sm_MT = sm_MTc ++ [mi_L_law] := rfl
theorem sm_code_in {y : Nat} {k : MI} (h : sm_MT[y]? = some k) (hy : y < sm_NM) : Cond.code (mi_nm k) (mi_cd k) (mi_ml k) (mi_rt k) ∈ sm_GG := by
  rw [sm_MT_split, List.getElem?_append_left (show y < sm_MTc.length from hy)] at h
  exact sm_codes k (List.mem_of_getElem? h)

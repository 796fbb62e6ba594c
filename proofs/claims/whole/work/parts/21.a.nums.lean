def n_J7_fill_53178 : Nat := 0
set_option maxRecDepth 100000 in
theorem hm_J7_fill_53178 : sm_MT[n_J7_fill_53178]? = some mi_J7_fill_53178 := rfl
def n_X3_init : Nat := 1
set_option maxRecDepth 100000 in
theorem hm_X3_init : sm_MT[n_X3_init]? = some mi_X3_init := rfl
def n_X2_init : Nat := 2
set_option maxRecDepth 100000 in
theorem hm_X2_init : sm_MT[n_X2_init]? = some mi_X2_init := rfl
def n_X5_init : Nat := 3
set_option maxRecDepth 100000 in
theorem hm_X5_init : sm_MT[n_X5_init]? = some mi_X5_init := rfl
def n_X7_init : Nat := 4
set_option maxRecDepth 100000 in
theorem hm_X7_init : sm_MT[n_X7_init]? = some mi_X7_init := rfl
def n_X8_init : Nat := 5
set_option maxRecDepth 100000 in
theorem hm_X8_init : sm_MT[n_X8_init]? = some mi_X8_init := rfl
def n_X6_init : Nat := 6
set_option maxRecDepth 100000 in
theorem hm_X6_init : sm_MT[n_X6_init]? = some mi_X6_init := rfl
def n_X4_init : Nat := 7
set_option maxRecDepth 100000 in
theorem hm_X4_init : sm_MT[n_X4_init]? = some mi_X4_init := rfl
def n_X1_init : Nat := 8
set_option maxRecDepth 100000 in
theorem hm_X1_init : sm_MT[n_X1_init]? = some mi_X1_init := rfl
def n_X0_init : Nat := 9
set_option maxRecDepth 100000 in
theorem hm_X0_init : sm_MT[n_X0_init]? = some mi_X0_init := rfl
def n_X9_init : Nat := 10
set_option maxRecDepth 100000 in
theorem hm_X9_init : sm_MT[n_X9_init]? = some mi_X9_init := rfl
def n_X10_init : Nat := 11
set_option maxRecDepth 100000 in
theorem hm_X10_init : sm_MT[n_X10_init]? = some mi_X10_init := rfl
def n_X7_add : Nat := 12
set_option maxRecDepth 100000 in
theorem hm_X7_add : sm_MT[n_X7_add]? = some mi_X7_add := rfl
def n_X9_write : Nat := 13
set_option maxRecDepth 100000 in
theorem hm_X9_write : sm_MT[n_X9_write]? = some mi_X9_write := rfl
def n_X10_in : Nat := 14
set_option maxRecDepth 100000 in
theorem hm_X10_in : sm_MT[n_X10_in]? = some mi_X10_in := rfl
def n_X10_write : Nat := 15
set_option maxRecDepth 100000 in
theorem hm_X10_write : sm_MT[n_X10_write]? = some mi_X10_write := rfl
def n_X9_erase : Nat := 16
set_option maxRecDepth 100000 in
theorem hm_X9_erase : sm_MT[n_X9_erase]? = some mi_X9_erase := rfl
def n_X10_erase : Nat := 17
set_option maxRecDepth 100000 in
theorem hm_X10_erase : sm_MT[n_X10_erase]? = some mi_X10_erase := rfl
def n_X7_sortOf : Nat := 18
set_option maxRecDepth 100000 in
theorem hm_X7_sortOf : sm_MT[n_X7_sortOf]? = some mi_X7_sortOf := rfl
def n_X7_step : Nat := 19
set_option maxRecDepth 100000 in
theorem hm_X7_step : sm_MT[n_X7_step]? = some mi_X7_step := rfl
def n_X7_wordOf : Nat := 20
set_option maxRecDepth 100000 in
theorem hm_X7_wordOf : sm_MT[n_X7_wordOf]? = some mi_X7_wordOf := rfl
def n_X7_isHere : Nat := 21
set_option maxRecDepth 100000 in
theorem hm_X7_isHere : sm_MT[n_X7_isHere]? = some mi_X7_isHere := rfl
def n_X7_verbHere : Nat := 22
set_option maxRecDepth 100000 in
theorem hm_X7_verbHere : sm_MT[n_X7_verbHere]? = some mi_X7_verbHere := rfl
def n_X7_isPlayer : Nat := 23
set_option maxRecDepth 100000 in
theorem hm_X7_isPlayer : sm_MT[n_X7_isPlayer]? = some mi_X7_isPlayer := rfl
def n_X7_numbersOf : Nat := 24
set_option maxRecDepth 100000 in
theorem hm_X7_numbersOf : sm_MT[n_X7_numbersOf]? = some mi_X7_numbersOf := rfl
def n_X7_numberHere : Nat := 25
set_option maxRecDepth 100000 in
theorem hm_X7_numberHere : sm_MT[n_X7_numberHere]? = some mi_X7_numberHere := rfl
def n_X7_lowest : Nat := 26
set_option maxRecDepth 100000 in
theorem hm_X7_lowest : sm_MT[n_X7_lowest]? = some mi_X7_lowest := rfl
def n_X7_highest : Nat := 27
set_option maxRecDepth 100000 in
theorem hm_X7_highest : sm_MT[n_X7_highest]? = some mi_X7_highest := rfl
def n_X7_readClause : Nat := 28
set_option maxRecDepth 100000 in
theorem hm_X7_readClause : sm_MT[n_X7_readClause]? = some mi_X7_readClause := rfl
def n_X7_read : Nat := 29
set_option maxRecDepth 100000 in
theorem hm_X7_read : sm_MT[n_X7_read]? = some mi_X7_read := rfl
def n_X9_fault : Nat := 30
set_option maxRecDepth 100000 in
theorem hm_X9_fault : sm_MT[n_X9_fault]? = some mi_X9_fault := rfl
def n_X10_isSort : Nat := 31
set_option maxRecDepth 100000 in
theorem hm_X10_isSort : sm_MT[n_X10_isSort]? = some mi_X10_isSort := rfl
def n_X10_look : Nat := 32
set_option maxRecDepth 100000 in
theorem hm_X10_look : sm_MT[n_X10_look]? = some mi_X10_look := rfl
def n_X10_isWord : Nat := 33
set_option maxRecDepth 100000 in
theorem hm_X10_isWord : sm_MT[n_X10_isWord]? = some mi_X10_isWord := rfl
def n_X10_kindOfWord : Nat := 34
set_option maxRecDepth 100000 in
theorem hm_X10_kindOfWord : sm_MT[n_X10_kindOfWord]? = some mi_X10_kindOfWord := rfl
def n_X10_skip : Nat := 35
set_option maxRecDepth 100000 in
theorem hm_X10_skip : sm_MT[n_X10_skip]? = some mi_X10_skip := rfl
def n_X10_takeNumber : Nat := 36
set_option maxRecDepth 100000 in
theorem hm_X10_takeNumber : sm_MT[n_X10_takeNumber]? = some mi_X10_takeNumber := rfl
def n_X10_takePatch : Nat := 37
set_option maxRecDepth 100000 in
theorem hm_X10_takePatch : sm_MT[n_X10_takePatch]? = some mi_X10_takePatch := rfl
def n_X10_takeCell : Nat := 38
set_option maxRecDepth 100000 in
theorem hm_X10_takeCell : sm_MT[n_X10_takeCell]? = some mi_X10_takeCell := rfl
def n_X10_takeOwe : Nat := 39
set_option maxRecDepth 100000 in
theorem hm_X10_takeOwe : sm_MT[n_X10_takeOwe]? = some mi_X10_takeOwe := rfl
def n_X10_even : Nat := 40
set_option maxRecDepth 100000 in
theorem hm_X10_even : sm_MT[n_X10_even]? = some mi_X10_even := rfl
def n_X10_takePlayer : Nat := 41
set_option maxRecDepth 100000 in
theorem hm_X10_takePlayer : sm_MT[n_X10_takePlayer]? = some mi_X10_takePlayer := rfl
def n_X10_takeClause : Nat := 42
set_option maxRecDepth 100000 in
theorem hm_X10_takeClause : sm_MT[n_X10_takeClause]? = some mi_X10_takeClause := rfl
def n_X10_readAll : Nat := 43
set_option maxRecDepth 100000 in
theorem hm_X10_readAll : sm_MT[n_X10_readAll]? = some mi_X10_readAll := rfl
def n_X10_fault : Nat := 44
set_option maxRecDepth 100000 in
theorem hm_X10_fault : sm_MT[n_X10_fault]? = some mi_X10_fault := rfl
def n_X7_verbOf : Nat := 45
set_option maxRecDepth 100000 in
theorem hm_X7_verbOf : sm_MT[n_X7_verbOf]? = some mi_X7_verbOf := rfl
def n_X7_number : Nat := 46
set_option maxRecDepth 100000 in
theorem hm_X7_number : sm_MT[n_X7_number]? = some mi_X7_number := rfl
def n_X3_clearMarbles : Nat := 47
set_option maxRecDepth 100000 in
theorem hm_X3_clearMarbles : sm_MT[n_X3_clearMarbles]? = some mi_X3_clearMarbles := rfl
def n_X3_begin : Nat := 48
set_option maxRecDepth 100000 in
theorem hm_X3_begin : sm_MT[n_X3_begin]? = some mi_X3_begin := rfl
def n_X3_hasCell : Nat := 49
set_option maxRecDepth 100000 in
theorem hm_X3_hasCell : sm_MT[n_X3_hasCell]? = some mi_X3_hasCell := rfl
def n_X3_tilt : Nat := 50
set_option maxRecDepth 100000 in
theorem hm_X3_tilt : sm_MT[n_X3_tilt]? = some mi_X3_tilt := rfl
def n_X3_lay : Nat := 51
set_option maxRecDepth 100000 in
theorem hm_X3_lay : sm_MT[n_X3_lay]? = some mi_X3_lay := rfl
def n_X3_hasPlayer : Nat := 52
set_option maxRecDepth 100000 in
theorem hm_X3_hasPlayer : sm_MT[n_X3_hasPlayer]? = some mi_X3_hasPlayer := rfl
def n_X3_hasPair : Nat := 53
set_option maxRecDepth 100000 in
theorem hm_X3_hasPair : sm_MT[n_X3_hasPair]? = some mi_X3_hasPair := rfl
def n_X3_owe : Nat := 54
set_option maxRecDepth 100000 in
theorem hm_X3_owe : sm_MT[n_X3_owe]? = some mi_X3_owe := rfl
def n_X3_join : Nat := 55
set_option maxRecDepth 100000 in
theorem hm_X3_join : sm_MT[n_X3_join]? = some mi_X3_join := rfl
def n_X3_tell : Nat := 56
set_option maxRecDepth 100000 in
theorem hm_X3_tell : sm_MT[n_X3_tell]? = some mi_X3_tell := rfl
def n_X3_become : Nat := 57
set_option maxRecDepth 100000 in
theorem hm_X3_become : sm_MT[n_X3_become]? = some mi_X3_become := rfl
def n_X9_patch : Nat := 58
set_option maxRecDepth 100000 in
theorem hm_X9_patch : sm_MT[n_X9_patch]? = some mi_X9_patch := rfl
def n_X10_patch : Nat := 59
set_option maxRecDepth 100000 in
theorem hm_X10_patch : sm_MT[n_X10_patch]? = some mi_X10_patch := rfl
def n_X9_cell : Nat := 60
set_option maxRecDepth 100000 in
theorem hm_X9_cell : sm_MT[n_X9_cell]? = some mi_X9_cell := rfl
def n_X10_cells : Nat := 61
set_option maxRecDepth 100000 in
theorem hm_X10_cells : sm_MT[n_X10_cells]? = some mi_X10_cells := rfl
def n_X10_isCell : Nat := 62
set_option maxRecDepth 100000 in
theorem hm_X10_isCell : sm_MT[n_X10_isCell]? = some mi_X10_isCell := rfl
def n_X10_cell : Nat := 63
set_option maxRecDepth 100000 in
theorem hm_X10_cell : sm_MT[n_X10_cell]? = some mi_X10_cell := rfl
def n_X3_owes : Nat := 64
set_option maxRecDepth 100000 in
theorem hm_X3_owes : sm_MT[n_X3_owes]? = some mi_X3_owes := rfl
def n_X3_owesInAll : Nat := 65
set_option maxRecDepth 100000 in
theorem hm_X3_owesInAll : sm_MT[n_X3_owesInAll]? = some mi_X3_owesInAll := rfl
def n_X3_isOwedInAll : Nat := 66
set_option maxRecDepth 100000 in
theorem hm_X3_isOwedInAll : sm_MT[n_X3_isOwedInAll]? = some mi_X3_isOwedInAll := rfl
def n_X9_player : Nat := 67
set_option maxRecDepth 100000 in
theorem hm_X9_player : sm_MT[n_X9_player]? = some mi_X9_player := rfl
def n_X10_players : Nat := 68
set_option maxRecDepth 100000 in
theorem hm_X10_players : sm_MT[n_X10_players]? = some mi_X10_players := rfl
def n_X10_isPlayer : Nat := 69
set_option maxRecDepth 100000 in
theorem hm_X10_isPlayer : sm_MT[n_X10_isPlayer]? = some mi_X10_isPlayer := rfl
def n_X10_kind : Nat := 70
set_option maxRecDepth 100000 in
theorem hm_X10_kind : sm_MT[n_X10_kind]? = some mi_X10_kind := rfl
def n_X10_owes : Nat := 71
set_option maxRecDepth 100000 in
theorem hm_X10_owes : sm_MT[n_X10_owes]? = some mi_X10_owes := rfl
def n_X10_owed : Nat := 72
set_option maxRecDepth 100000 in
theorem hm_X10_owed : sm_MT[n_X10_owed]? = some mi_X10_owed := rfl
def n_X10_player : Nat := 73
set_option maxRecDepth 100000 in
theorem hm_X10_player : sm_MT[n_X10_player]? = some mi_X10_player := rfl
def n_X9_debt : Nat := 74
set_option maxRecDepth 100000 in
theorem hm_X9_debt : sm_MT[n_X9_debt]? = some mi_X9_debt := rfl
def n_X10_areTwo : Nat := 75
set_option maxRecDepth 100000 in
theorem hm_X10_areTwo : sm_MT[n_X10_areTwo]? = some mi_X10_areTwo := rfl
def n_X10_debt : Nat := 76
set_option maxRecDepth 100000 in
theorem hm_X10_debt : sm_MT[n_X10_debt]? = some mi_X10_debt := rfl
def n_X9_thumbOf : Nat := 77
set_option maxRecDepth 100000 in
theorem hm_X9_thumbOf : sm_MT[n_X9_thumbOf]? = some mi_X9_thumbOf := rfl
def n_X9_isSuch : Nat := 78
set_option maxRecDepth 100000 in
theorem hm_X9_isSuch : sm_MT[n_X9_isSuch]? = some mi_X9_isSuch := rfl
def n_X0_share : Nat := 79
set_option maxRecDepth 100000 in
theorem hm_X0_share : sm_MT[n_X0_share]? = some mi_X0_share := rfl
def n_X6_share : Nat := 80
set_option maxRecDepth 100000 in
theorem hm_X6_share : sm_MT[n_X6_share]? = some mi_X6_share := rfl
def n_X9_as : Nat := 81
set_option maxRecDepth 100000 in
theorem hm_X9_as : sm_MT[n_X9_as]? = some mi_X9_as := rfl
def n_X10_has : Nat := 82
set_option maxRecDepth 100000 in
theorem hm_X10_has : sm_MT[n_X10_has]? = some mi_X10_has := rfl
def n_X10_as : Nat := 83
set_option maxRecDepth 100000 in
theorem hm_X10_as : sm_MT[n_X10_as]? = some mi_X10_as := rfl
def n_X9_isForce : Nat := 84
set_option maxRecDepth 100000 in
theorem hm_X9_isForce : sm_MT[n_X9_isForce]? = some mi_X9_isForce := rfl
def n_X2_add : Nat := 85
set_option maxRecDepth 100000 in
theorem hm_X2_add : sm_MT[n_X2_add]? = some mi_X2_add := rfl
def n_X9_draw : Nat := 86
set_option maxRecDepth 100000 in
theorem hm_X9_draw : sm_MT[n_X9_draw]? = some mi_X9_draw := rfl
def n_X8_shaken : Nat := 87
set_option maxRecDepth 100000 in
theorem hm_X8_shaken : sm_MT[n_X8_shaken]? = some mi_X8_shaken := rfl
def n_X4_shaken : Nat := 88
set_option maxRecDepth 100000 in
theorem hm_X4_shaken : sm_MT[n_X4_shaken]? = some mi_X4_shaken := rfl
def n_X3_roll : Nat := 89
set_option maxRecDepth 100000 in
theorem hm_X3_roll : sm_MT[n_X3_roll]? = some mi_X3_roll := rfl
def n_X8_rest : Nat := 90
set_option maxRecDepth 100000 in
theorem hm_X8_rest : sm_MT[n_X8_rest]? = some mi_X8_rest := rfl
def n_X1_rest : Nat := 91
set_option maxRecDepth 100000 in
theorem hm_X1_rest : sm_MT[n_X1_rest]? = some mi_X1_rest := rfl
def n_X3_worthAt : Nat := 92
set_option maxRecDepth 100000 in
theorem hm_X3_worthAt : sm_MT[n_X3_worthAt]? = some mi_X3_worthAt := rfl
def n_X3_land : Nat := 93
set_option maxRecDepth 100000 in
theorem hm_X3_land : sm_MT[n_X3_land]? = some mi_X3_land := rfl
def n_X8_change : Nat := 94
set_option maxRecDepth 100000 in
theorem hm_X8_change : sm_MT[n_X8_change]? = some mi_X8_change := rfl
def n_X3_gain : Nat := 95
set_option maxRecDepth 100000 in
theorem hm_X3_gain : sm_MT[n_X3_gain]? = some mi_X3_gain := rfl
def n_X9_shoot : Nat := 96
set_option maxRecDepth 100000 in
theorem hm_X9_shoot : sm_MT[n_X9_shoot]? = some mi_X9_shoot := rfl
def n_X10_remember : Nat := 97
set_option maxRecDepth 100000 in
theorem hm_X10_remember : sm_MT[n_X10_remember]? = some mi_X10_remember := rfl
def n_X10_forceOf : Nat := 98
set_option maxRecDepth 100000 in
theorem hm_X10_forceOf : sm_MT[n_X10_forceOf]? = some mi_X10_forceOf := rfl
def n_X10_rolls : Nat := 99
set_option maxRecDepth 100000 in
theorem hm_X10_rolls : sm_MT[n_X10_rolls]? = some mi_X10_rolls := rfl
def n_X10_worthAt : Nat := 100
set_option maxRecDepth 100000 in
theorem hm_X10_worthAt : sm_MT[n_X10_worthAt]? = some mi_X10_worthAt := rfl
def n_X10_atMost : Nat := 101
set_option maxRecDepth 100000 in
theorem hm_X10_atMost : sm_MT[n_X10_atMost]? = some mi_X10_atMost := rfl
def n_X10_shoot : Nat := 102
set_option maxRecDepth 100000 in
theorem hm_X10_shoot : sm_MT[n_X10_shoot]? = some mi_X10_shoot := rfl
def n_X9_pay : Nat := 103
set_option maxRecDepth 100000 in
theorem hm_X9_pay : sm_MT[n_X9_pay]? = some mi_X9_pay := rfl
def n_X10_pay : Nat := 104
set_option maxRecDepth 100000 in
theorem hm_X10_pay : sm_MT[n_X10_pay]? = some mi_X10_pay := rfl
def n_X2_takeLatest : Nat := 105
set_option maxRecDepth 100000 in
theorem hm_X2_takeLatest : sm_MT[n_X2_takeLatest]? = some mi_X2_takeLatest := rfl
def n_X9_undo : Nat := 106
set_option maxRecDepth 100000 in
theorem hm_X9_undo : sm_MT[n_X9_undo]? = some mi_X9_undo := rfl
def n_X10_undo : Nat := 107
set_option maxRecDepth 100000 in
theorem hm_X10_undo : sm_MT[n_X10_undo]? = some mi_X10_undo := rfl
def n_X9_keep : Nat := 108
set_option maxRecDepth 100000 in
theorem hm_X9_keep : sm_MT[n_X9_keep]? = some mi_X9_keep := rfl
def n_X10_keep : Nat := 109
set_option maxRecDepth 100000 in
theorem hm_X10_keep : sm_MT[n_X10_keep]? = some mi_X10_keep := rfl
def n_X9_back : Nat := 110
set_option maxRecDepth 100000 in
theorem hm_X9_back : sm_MT[n_X9_back]? = some mi_X9_back := rfl
def n_X10_back : Nat := 111
set_option maxRecDepth 100000 in
theorem hm_X10_back : sm_MT[n_X10_back]? = some mi_X10_back := rfl
def n_X9_isZeroOrOne : Nat := 112
set_option maxRecDepth 100000 in
theorem hm_X9_isZeroOrOne : sm_MT[n_X9_isZeroOrOne]? = some mi_X9_isZeroOrOne := rfl
def n_X9_stop : Nat := 113
set_option maxRecDepth 100000 in
theorem hm_X9_stop : sm_MT[n_X9_stop]? = some mi_X9_stop := rfl
def n_X10_stop : Nat := 114
set_option maxRecDepth 100000 in
theorem hm_X10_stop : sm_MT[n_X10_stop]? = some mi_X10_stop := rfl
def n_X9_commonDivisor : Nat := 115
set_option maxRecDepth 100000 in
theorem hm_X9_commonDivisor : sm_MT[n_X9_commonDivisor]? = some mi_X9_commonDivisor := rfl
def n_X9_partOf : Nat := 116
set_option maxRecDepth 100000 in
theorem hm_X9_partOf : sm_MT[n_X9_partOf]? = some mi_X9_partOf := rfl
def n_X9_odds : Nat := 117
set_option maxRecDepth 100000 in
theorem hm_X9_odds : sm_MT[n_X9_odds]? = some mi_X9_odds := rfl
def n_X10_less : Nat := 118
set_option maxRecDepth 100000 in
theorem hm_X10_less : sm_MT[n_X10_less]? = some mi_X10_less := rfl
def n_X10_hits : Nat := 119
set_option maxRecDepth 100000 in
theorem hm_X10_hits : sm_MT[n_X10_hits]? = some mi_X10_hits := rfl
def n_X10_part : Nat := 120
set_option maxRecDepth 100000 in
theorem hm_X10_part : sm_MT[n_X10_part]? = some mi_X10_part := rfl
def n_X10_odds : Nat := 121
set_option maxRecDepth 100000 in
theorem hm_X10_odds : sm_MT[n_X10_odds]? = some mi_X10_odds := rfl
def n_X9_quarters : Nat := 122
set_option maxRecDepth 100000 in
theorem hm_X9_quarters : sm_MT[n_X9_quarters]? = some mi_X9_quarters := rfl
def n_X9_mean : Nat := 123
set_option maxRecDepth 100000 in
theorem hm_X9_mean : sm_MT[n_X9_mean]? = some mi_X9_mean := rfl
def n_X10_gains : Nat := 124
set_option maxRecDepth 100000 in
theorem hm_X10_gains : sm_MT[n_X10_gains]? = some mi_X10_gains := rfl
def n_X10_meanOf : Nat := 125
set_option maxRecDepth 100000 in
theorem hm_X10_meanOf : sm_MT[n_X10_meanOf]? = some mi_X10_meanOf := rfl
def n_X10_mean : Nat := 126
set_option maxRecDepth 100000 in
theorem hm_X10_mean : sm_MT[n_X10_mean]? = some mi_X10_mean := rfl
def n_X9_best : Nat := 127
set_option maxRecDepth 100000 in
theorem hm_X9_best : sm_MT[n_X9_best]? = some mi_X9_best := rfl
def n_X10_best : Nat := 128
set_option maxRecDepth 100000 in
theorem hm_X10_best : sm_MT[n_X10_best]? = some mi_X10_best := rfl
def n_X9_two : Nat := 129
set_option maxRecDepth 100000 in
theorem hm_X9_two : sm_MT[n_X9_two]? = some mi_X9_two := rfl
def n_X10_begin : Nat := 130
set_option maxRecDepth 100000 in
theorem hm_X10_begin : sm_MT[n_X10_begin]? = some mi_X10_begin := rfl
def n_X10_hitIn : Nat := 131
set_option maxRecDepth 100000 in
theorem hm_X10_hitIn : sm_MT[n_X10_hitIn]? = some mi_X10_hitIn := rfl
def n_X10_two : Nat := 132
set_option maxRecDepth 100000 in
theorem hm_X10_two : sm_MT[n_X10_two]? = some mi_X10_two := rfl
def n_X5_add : Nat := 133
set_option maxRecDepth 100000 in
theorem hm_X5_add : sm_MT[n_X5_add]? = some mi_X5_add := rfl
def n_X9_seen : Nat := 134
set_option maxRecDepth 100000 in
theorem hm_X9_seen : sm_MT[n_X9_seen]? = some mi_X9_seen := rfl
def n_X10_seen : Nat := 135
set_option maxRecDepth 100000 in
theorem hm_X10_seen : sm_MT[n_X10_seen]? = some mi_X10_seen := rfl
def n_X9_forget : Nat := 136
set_option maxRecDepth 100000 in
theorem hm_X9_forget : sm_MT[n_X9_forget]? = some mi_X9_forget := rfl
def n_X10_forget : Nat := 137
set_option maxRecDepth 100000 in
theorem hm_X10_forget : sm_MT[n_X10_forget]? = some mi_X10_forget := rfl
def n_X5_fits : Nat := 138
set_option maxRecDepth 100000 in
theorem hm_X5_fits : sm_MT[n_X5_fits]? = some mi_X5_fits := rfl
def n_X9_slopes : Nat := 139
set_option maxRecDepth 100000 in
theorem hm_X9_slopes : sm_MT[n_X9_slopes]? = some mi_X9_slopes := rfl
def n_X10_slopes : Nat := 140
set_option maxRecDepth 100000 in
theorem hm_X10_slopes : sm_MT[n_X10_slopes]? = some mi_X10_slopes := rfl
def n_X9_isOfTen : Nat := 141
set_option maxRecDepth 100000 in
theorem hm_X9_isOfTen : sm_MT[n_X9_isOfTen]? = some mi_X9_isOfTen := rfl
def n_X9_power : Nat := 142
set_option maxRecDepth 100000 in
theorem hm_X9_power : sm_MT[n_X9_power]? = some mi_X9_power := rfl
def n_X9_ruin : Nat := 143
set_option maxRecDepth 100000 in
theorem hm_X9_ruin : sm_MT[n_X9_ruin]? = some mi_X9_ruin := rfl
def n_X10_weights : Nat := 144
set_option maxRecDepth 100000 in
theorem hm_X10_weights : sm_MT[n_X10_weights]? = some mi_X10_weights := rfl
def n_X10_ruin : Nat := 145
set_option maxRecDepth 100000 in
theorem hm_X10_ruin : sm_MT[n_X10_ruin]? = some mi_X10_ruin := rfl
def n_X9_isIn : Nat := 146
set_option maxRecDepth 100000 in
theorem hm_X9_isIn : sm_MT[n_X9_isIn]? = some mi_X9_isIn := rfl
def n_X3_balance : Nat := 147
set_option maxRecDepth 100000 in
theorem hm_X3_balance : sm_MT[n_X3_balance]? = some mi_X3_balance := rfl
def n_X9_evenGroups : Nat := 148
set_option maxRecDepth 100000 in
theorem hm_X9_evenGroups : sm_MT[n_X9_evenGroups]? = some mi_X9_evenGroups := rfl
def n_X9_netted : Nat := 149
set_option maxRecDepth 100000 in
theorem hm_X9_netted : sm_MT[n_X9_netted]? = some mi_X9_netted := rfl
def n_X10_net : Nat := 150
set_option maxRecDepth 100000 in
theorem hm_X10_net : sm_MT[n_X10_net]? = some mi_X10_net := rfl
def n_X10_netted : Nat := 151
set_option maxRecDepth 100000 in
theorem hm_X10_netted : sm_MT[n_X10_netted]? = some mi_X10_netted := rfl
def n_X3_owedByAny : Nat := 152
set_option maxRecDepth 100000 in
theorem hm_X3_owedByAny : sm_MT[n_X3_owedByAny]? = some mi_X3_owedByAny := rfl
def n_X9_ring : Nat := 153
set_option maxRecDepth 100000 in
theorem hm_X9_ring : sm_MT[n_X9_ring]? = some mi_X9_ring := rfl
def n_X10_ring : Nat := 154
set_option maxRecDepth 100000 in
theorem hm_X10_ring : sm_MT[n_X10_ring]? = some mi_X10_ring := rfl
def n_X9_poor : Nat := 155
set_option maxRecDepth 100000 in
theorem hm_X9_poor : sm_MT[n_X9_poor]? = some mi_X9_poor := rfl
def n_X10_poor : Nat := 156
set_option maxRecDepth 100000 in
theorem hm_X10_poor : sm_MT[n_X10_poor]? = some mi_X10_poor := rfl
def n_X9_ways : Nat := 157
set_option maxRecDepth 100000 in
theorem hm_X9_ways : sm_MT[n_X9_ways]? = some mi_X9_ways := rfl
def n_X9_rain : Nat := 158
set_option maxRecDepth 100000 in
theorem hm_X9_rain : sm_MT[n_X9_rain]? = some mi_X9_rain := rfl
def n_X10_rain : Nat := 159
set_option maxRecDepth 100000 in
theorem hm_X10_rain : sm_MT[n_X10_rain]? = some mi_X10_rain := rfl
def n_X3_marbles : Nat := 160
set_option maxRecDepth 100000 in
theorem hm_X3_marbles : sm_MT[n_X3_marbles]? = some mi_X3_marbles := rfl
def n_X9_total : Nat := 161
set_option maxRecDepth 100000 in
theorem hm_X9_total : sm_MT[n_X9_total]? = some mi_X9_total := rfl
def n_X9_count : Nat := 162
set_option maxRecDepth 100000 in
theorem hm_X9_count : sm_MT[n_X9_count]? = some mi_X9_count := rfl
def n_X10_lying : Nat := 163
set_option maxRecDepth 100000 in
theorem hm_X10_lying : sm_MT[n_X10_lying]? = some mi_X10_lying := rfl
def n_X10_sumOf : Nat := 164
set_option maxRecDepth 100000 in
theorem hm_X10_sumOf : sm_MT[n_X10_sumOf]? = some mi_X10_sumOf := rfl
def n_X10_count : Nat := 165
set_option maxRecDepth 100000 in
theorem hm_X10_count : sm_MT[n_X10_count]? = some mi_X10_count := rfl
def n_L_law : Nat := 166
set_option maxRecDepth 100000 in
theorem hm_L_law : sm_MT[n_L_law]? = some mi_L_law := rfl
set_option maxRecDepth 100000 in
theorem sm_slen_eq {st : List Value} {h : HH} {k : Nat} (hk : k < 9) (hs : (st.map fun v => v.category).sum ≤ 8) : sm_slen (.ref (sm_B + k) :: st) h = some (.int (Int32.ofNat (sm_strs.getD k []).length) :: st, h) := by
  unfold sm_slen
  dsimp only
  rw [Nat.add_sub_cancel_left, if_pos ⟨Nat.le_add_right _ _, hk, hs⟩]
set_option maxRecDepth 100000 in
theorem sm_sch_eq {st : List Value} {h : HH} {k : Nat} {j : Int32} (hk : k < 9) (hj : sm_inr (some (sm_strs.getD k [])) j = true) (hs : (st.map fun v => v.category).sum ≤ 8) : sm_sch (.int j :: .ref (sm_B + k) :: st) h = some (.int (sm_el (some (sm_strs.getD k [])) j) :: st, h) := by
  unfold sm_sch
  dsimp only
  rw [Nat.add_sub_cancel_left, if_pos ⟨Nat.le_add_right _ _, hk, of_decide_eq_true hj, hs⟩]
  rfl

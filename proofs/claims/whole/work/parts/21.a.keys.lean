theorem sm_key_at {α : Type} {l : List (Nat × Nat × α)} {cp idx : Nat} {a : α} (k : Nat) (hp : (l.take k).all (fun q => !(q.1 == cp && q.2.1 == idx)) = true) (hk : l[k]? = some (cp, idx, a)) : sm_key l cp idx = some a := by
  have h1 : l = l.take k ++ (cp, idx, a) :: l.drop (k + 1) := by
    obtain ⟨hlt, he⟩ := List.getElem?_eq_some_iff.mp hk
    rw [← he, List.getElem_cons_drop, List.take_append_drop]
  unfold sm_key
  rw [h1, List.find?_append]
  have h2 : (l.take k).find? (fun q => q.1 == cp && q.2.1 == idx) = none := by
    rw [List.find?_eq_none]
    intro x hx
    have := List.all_eq_true.mp hp x hx
    simp at this
    simp only [Bool.and_eq_true, beq_iff_eq, not_and]
    intro e1 e2
    exact this.elim (fun q => q e1) (fun q => q e2)
  rw [h2]
  simp
set_option maxRecDepth 100000 in
theorem vk_2_20 : sm_key sm_VL 2 20 = some (1, ⟨"ForKeeps$Patch", "become", "(LForKeeps$Patch;)V"⟩, [(3, 57, 0, [501, 433, 434, 45, 435])]) := sm_key_at 0 (by decide +kernel) rfl
set_option maxRecDepth 100000 in
theorem vk_3_49 : sm_key sm_VL 3 49 = some (1, ⟨"ForKeeps$Patch", "hasPlayer", "(I)Z"⟩, [(3, 52, 0, [424, 425, 426, 45, 427])]) := sm_key_at 1 (by decide +kernel) rfl
set_option maxRecDepth 100000 in
theorem vk_3_53 : sm_key sm_VL 3 53 = some (1, ⟨"ForKeeps$Patch", "begin", "(I)V"⟩, [(3, 48, 0, [396, 397, 398, 45, 399])]) := sm_key_at 2 (by decide +kernel) rfl
set_option maxRecDepth 100000 in
theorem vk_3_57 : sm_key sm_VL 3 57 = some (2, ⟨"ForKeeps$Patch", "tilt", "(II)V"⟩, [(3, 50, 0, [404, 405, 406, 45, 407])]) := sm_key_at 3 (by decide +kernel) rfl
set_option maxRecDepth 100000 in
theorem vk_3_61 : sm_key sm_VL 3 61 = some (2, ⟨"ForKeeps$Patch", "lay", "(II)V"⟩, [(3, 51, 0, [412, 413, 414, 45, 415])]) := sm_key_at 4 (by decide +kernel) rfl
set_option maxRecDepth 100000 in
theorem vk_3_64 : sm_key sm_VL 3 64 = some (3, ⟨"ForKeeps$Patch", "owe", "(III)V"⟩, [(3, 54, 0, [416, 417, 418, 45, 419])]) := sm_key_at 5 (by decide +kernel) rfl
set_option maxRecDepth 100000 in
theorem vk_3_70 : sm_key sm_VL 3 70 = some (2, ⟨"ForKeeps$Patch", "join", "(II)V"⟩, [(3, 55, 0, [428, 429, 430, 45, 431])]) := sm_key_at 6 (by decide +kernel) rfl
set_option maxRecDepth 100000 in
theorem vk_3_73 : sm_key sm_VL 3 73 = some (0, ⟨"ForKeeps$Patch", "clearMarbles", "()V"⟩, [(3, 47, 0, [400, 401, 402, 45, 403])]) := sm_key_at 7 (by decide +kernel) rfl
set_option maxRecDepth 100000 in
theorem vk_3_76 : sm_key sm_VL 3 76 = some (1, ⟨"ForKeeps$Patch", "hasCell", "(I)Z"⟩, [(3, 49, 0, [408, 409, 410, 45, 411])]) := sm_key_at 8 (by decide +kernel) rfl
set_option maxRecDepth 100000 in
theorem vk_3_79 : sm_key sm_VL 3 79 = some (2, ⟨"ForKeeps$Patch", "hasPair", "(II)Z"⟩, [(3, 53, 0, [420, 421, 422, 45, 423])]) := sm_key_at 9 (by decide +kernel) rfl
set_option maxRecDepth 100000 in
theorem vk_3_83 : sm_key sm_VL 3 83 = some (2, ⟨"ForKeeps$Patch", "owes", "(II)I"⟩, [(3, 64, 0, [453, 454, 455, 45, 456])]) := sm_key_at 10 (by decide +kernel) rfl
set_option maxRecDepth 100000 in
theorem vk_3_87 : sm_key sm_VL 3 87 = some (1, ⟨"ForKeeps$Patch", "isOwedInAll", "(I)I"⟩, [(3, 66, 0, [667, 458, 459, 45, 460])]) := sm_key_at 11 (by decide +kernel) rfl
set_option maxRecDepth 100000 in
theorem vk_3_91 : sm_key sm_VL 3 91 = some (1, ⟨"ForKeeps$Patch", "owesInAll", "(I)I"⟩, [(3, 65, 0, [668, 450, 451, 45, 452])]) := sm_key_at 12 (by decide +kernel) rfl
set_option maxRecDepth 100000 in
theorem vk_3_102 : sm_key sm_VL 3 102 = some (1, ⟨"ForKeeps$Patch", "worthAt", "(I)I"⟩, [(3, 92, 0, [543, 544, 545, 45, 546])]) := sm_key_at 13 (by decide +kernel) rfl
set_option maxRecDepth 100000 in
theorem vk_5_20 : sm_key sm_VL 5 20 = some (1, ⟨"ForKeeps$Patch", "roll", "(I)I"⟩, [(3, 89, 0, [637, 526, 527, 45, 528])]) := sm_key_at 14 (by decide +kernel) rfl
set_option maxRecDepth 100000 in
theorem vk_7_38 : sm_key sm_VL 7 38 = some (1, ⟨"ForKeeps$Text", "readClause", "(I)Z"⟩, [(7, 28, 0, [283, 285, 0, 49, 286])]) := sm_key_at 15 (by decide +kernel) rfl
set_option maxRecDepth 100000 in
theorem vk_7_45 : sm_key sm_VL 7 45 = some (0, ⟨"ForKeeps$Text", "step", "()V"⟩, [(7, 19, 0, [287, 289, 1, 49, 290])]) := sm_key_at 16 (by decide +kernel) rfl
set_option maxRecDepth 100000 in
theorem vk_7_48 : sm_key sm_VL 7 48 = some (0, ⟨"ForKeeps$Text", "verbHere", "()I"⟩, [(7, 22, 0, [294, 296, 2, 49, 297])]) := sm_key_at 17 (by decide +kernel) rfl
set_option maxRecDepth 100000 in
theorem vk_7_59 : sm_key sm_VL 7 59 = some (0, ⟨"ForKeeps$Text", "numberHere", "()I"⟩, [(7, 25, 0, [368, 370, 4, 49, 371])]) := sm_key_at 18 (by decide +kernel) rfl
set_option maxRecDepth 100000 in
theorem vk_7_66 : sm_key sm_VL 7 66 = some (2, ⟨"ForKeeps$Text", "highest", "(II)I"⟩, [(7, 27, 0, [375, 377, 5, 49, 378])]) := sm_key_at 19 (by decide +kernel) rfl
set_option maxRecDepth 100000 in
theorem vk_7_77 : sm_key sm_VL 7 77 = some (1, ⟨"ForKeeps$Text", "isHere", "(Ljava/lang/String;)Z"⟩, [(7, 21, 0, [310, 312, 3, 49, 313])]) := sm_key_at 20 (by decide +kernel) rfl
set_option maxRecDepth 100000 in
theorem vk_8_9 : sm_key sm_VL 8 9 = some (1, ⟨"ForKeeps$Thumb", "share", "(I)I"⟩, [(0, 79, 3, [555, 480, 481, 482, 54, 483]), (1, 80, 3, [555, 480, 484, 485, 51, 486]), (4, 80, 3, [555, 480, 487, 485, 51, 486]), (6, 80, 3, [555, 480, 488, 485, 51, 486])]) := sm_key_at 21 (by decide +kernel) rfl
set_option maxRecDepth 100000 in
theorem vk_9_78 : sm_key sm_VL 9 78 = some (1, ⟨"ForKeeps$Text", "add", "(C)Z"⟩, [(7, 12, 0, [267, 268, 269, 49, 270])]) := sm_key_at 22 (by decide +kernel) rfl
set_option maxRecDepth 100000 in
theorem vk_9_92 : sm_key sm_VL 9 92 = some (2, ⟨"ForKeeps$Text", "read", "(II)I"⟩, [(7, 29, 0, [279, 280, 281, 49, 282])]) := sm_key_at 23 (by decide +kernel) rfl
set_option maxRecDepth 100000 in
theorem vk_9_99 : sm_key sm_VL 9 99 = some (1, ⟨"ForKeeps$Text", "verbOf", "(I)I"⟩, [(7, 45, 0, [384, 385, 386, 49, 387])]) := sm_key_at 24 (by decide +kernel) rfl
set_option maxRecDepth 100000 in
theorem vk_9_103 : sm_key sm_VL 9 103 = some (2, ⟨"ForKeeps$Text", "number", "(II)I"⟩, [(7, 46, 0, [388, 389, 390, 49, 391])]) := sm_key_at 25 (by decide +kernel) rfl
set_option maxRecDepth 100000 in
theorem vk_9_106 : sm_key sm_VL 9 106 = some (4, ⟨"ForKeeps$Patch", "tell", "(IIII)V"⟩, [(3, 56, 0, [392, 393, 394, 45, 395])]) := sm_key_at 26 (by decide +kernel) rfl
set_option maxRecDepth 100000 in
theorem vk_9_110 : sm_key sm_VL 9 110 = some (1, ⟨"ForKeeps$Patch", "become", "(LForKeeps$Patch;)V"⟩, [(3, 57, 0, [432, 433, 434, 45, 435])]) := sm_key_at 27 (by decide +kernel) rfl
set_option maxRecDepth 100000 in
theorem vk_9_125 : sm_key sm_VL 9 125 = some (1, ⟨"ForKeeps$Patch", "hasCell", "(I)Z"⟩, [(3, 49, 0, [443, 409, 410, 45, 411])]) := sm_key_at 28 (by decide +kernel) rfl
set_option maxRecDepth 100000 in
theorem vk_9_135 : sm_key sm_VL 9 135 = some (1, ⟨"ForKeeps$Patch", "hasPlayer", "(I)Z"⟩, [(3, 52, 0, [448, 425, 426, 45, 427])]) := sm_key_at 29 (by decide +kernel) rfl
set_option maxRecDepth 100000 in
theorem vk_9_144 : sm_key sm_VL 9 144 = some (1, ⟨"ForKeeps$Patch", "owesInAll", "(I)I"⟩, [(3, 65, 0, [449, 450, 451, 45, 452])]) := sm_key_at 30 (by decide +kernel) rfl
set_option maxRecDepth 100000 in
theorem vk_9_147 : sm_key sm_VL 9 147 = some (1, ⟨"ForKeeps$Patch", "isOwedInAll", "(I)I"⟩, [(3, 66, 0, [457, 458, 459, 45, 460])]) := sm_key_at 31 (by decide +kernel) rfl
set_option maxRecDepth 100000 in
theorem vk_9_150 : sm_key sm_VL 9 150 = some (2, ⟨"ForKeeps$Patch", "hasPair", "(II)Z"⟩, [(3, 53, 0, [465, 421, 422, 45, 423])]) := sm_key_at 32 (by decide +kernel) rfl
set_option maxRecDepth 100000 in
theorem vk_9_154 : sm_key sm_VL 9 154 = some (2, ⟨"ForKeeps$Patch", "owes", "(II)I"⟩, [(3, 64, 0, [466, 454, 455, 45, 456])]) := sm_key_at 33 (by decide +kernel) rfl
set_option maxRecDepth 100000 in
theorem vk_9_157 : sm_key sm_VL 9 157 = some (1, ⟨"ForKeeps", "thumbOf", "(I)LForKeeps$Thumb;"⟩, [(9, 77, 0, [471, 473, 6, 44, 474])]) := sm_key_at 34 (by decide +kernel) rfl
set_option maxRecDepth 100000 in
theorem vk_9_165 : sm_key sm_VL 9 165 = some (1, ⟨"ForKeeps$Thumb", "share", "(I)I"⟩, [(0, 79, 3, [478, 480, 481, 482, 54, 483]), (1, 80, 3, [478, 480, 484, 485, 51, 486]), (4, 80, 3, [478, 480, 487, 485, 51, 486]), (6, 80, 3, [478, 480, 488, 485, 51, 486])]) := sm_key_at 35 (by decide +kernel) rfl
set_option maxRecDepth 100000 in
theorem vk_9_176 : sm_key sm_VL 9 176 = some (1, ⟨"ForKeeps$Past", "add", "(LForKeeps$Patch;)V"⟩, [(2, 85, 0, [496, 497, 498, 47, 499])]) := sm_key_at 36 (by decide +kernel) rfl
set_option maxRecDepth 100000 in
theorem vk_9_181 : sm_key sm_VL 9 181 = some (2, ⟨"ForKeeps$Thumb", "shaken", "(II)I"⟩, [(0, 87, 1, [512, 514, 515, 513, 50, 524]), (1, 87, 1, [512, 514, 516, 513, 50, 524]), (4, 88, 2, [512, 514, 513, 517, 518, 52, 519, 524]), (6, 87, 1, [512, 514, 523, 513, 50, 524])]) := sm_key_at 37 (by decide +kernel) rfl
set_option maxRecDepth 100000 in
theorem vk_9_184 : sm_key sm_VL 9 184 = some (1, ⟨"ForKeeps$Patch", "roll", "(I)I"⟩, [(3, 89, 0, [525, 526, 527, 45, 528])]) := sm_key_at 38 (by decide +kernel) rfl
set_option maxRecDepth 100000 in
theorem vk_9_187 : sm_key sm_VL 9 187 = some (2, ⟨"ForKeeps$Thumb", "rest", "(II)I"⟩, [(0, 90, 1, [529, 531, 532, 530, 50, 538]), (1, 91, 2, [529, 531, 530, 533, 534, 53, 535, 538]), (4, 90, 1, [529, 531, 536, 530, 50, 538]), (6, 90, 1, [529, 531, 537, 530, 50, 538])]) := sm_key_at 39 (by decide +kernel) rfl
set_option maxRecDepth 100000 in
theorem vk_9_190 : sm_key sm_VL 9 190 = some (1, ⟨"ForKeeps$Patch", "land", "(I)I"⟩, [(3, 93, 0, [539, 540, 541, 45, 542])]) := sm_key_at 40 (by decide +kernel) rfl
set_option maxRecDepth 100000 in
theorem vk_9_193 : sm_key sm_VL 9 193 = some (2, ⟨"ForKeeps$Thumb", "change", "(II)I"⟩, [(0, 94, 1, [547, 549, 550, 548, 50, 554]), (1, 94, 1, [547, 549, 551, 548, 50, 554]), (4, 94, 1, [547, 549, 552, 548, 50, 554]), (6, 94, 1, [547, 549, 553, 548, 50, 554])]) := sm_key_at 41 (by decide +kernel) rfl
set_option maxRecDepth 100000 in
theorem vk_9_196 : sm_key sm_VL 9 196 = some (2, ⟨"ForKeeps$Patch", "gain", "(II)V"⟩, [(3, 95, 0, [556, 557, 558, 45, 559])]) := sm_key_at 42 (by decide +kernel) rfl
set_option maxRecDepth 100000 in
theorem vk_9_200 : sm_key sm_VL 9 200 = some (3, ⟨"ForKeeps$Patch", "owe", "(III)V"⟩, [(3, 54, 0, [565, 417, 418, 45, 419])]) := sm_key_at 43 (by decide +kernel) rfl
set_option maxRecDepth 100000 in
theorem vk_9_204 : sm_key sm_VL 9 204 = some (1, ⟨"ForKeeps$Past", "takeLatest", "(LForKeeps$Patch;)V"⟩, [(2, 105, 0, [570, 571, 572, 47, 573])]) := sm_key_at 44 (by decide +kernel) rfl
set_option maxRecDepth 100000 in
theorem vk_9_210 : sm_key sm_VL 9 210 = some (1, ⟨"ForKeeps$Patch", "worthAt", "(I)I"⟩, [(3, 92, 0, [589, 544, 545, 45, 546])]) := sm_key_at 45 (by decide +kernel) rfl
set_option maxRecDepth 100000 in
theorem vk_9_219 : sm_key sm_VL 9 219 = some (2, ⟨"ForKeeps", "quarters", "(LForKeeps$Thumb;I)I"⟩, [(9, 122, 0, [604, 606, 7, 44, 607])]) := sm_key_at 46 (by decide +kernel) rfl
set_option maxRecDepth 100000 in
theorem vk_9_223 : sm_key sm_VL 9 223 = some (2, ⟨"ForKeeps$Sight", "add", "(II)Z"⟩, [(5, 133, 0, [620, 621, 622, 48, 623])]) := sm_key_at 47 (by decide +kernel) rfl
set_option maxRecDepth 100000 in
theorem vk_9_225 : sm_key sm_VL 9 225 = some (0, ⟨"ForKeeps$Patch", "clearMarbles", "()V"⟩, [(3, 47, 0, [632, 401, 402, 45, 403])]) := sm_key_at 48 (by decide +kernel) rfl
set_option maxRecDepth 100000 in
theorem vk_9_228 : sm_key sm_VL 9 228 = some (1, ⟨"ForKeeps$Sight", "fits", "(LForKeeps$Patch;)Z"⟩, [(5, 138, 0, [633, 634, 635, 48, 636])]) := sm_key_at 49 (by decide +kernel) rfl
set_option maxRecDepth 100000 in
theorem vk_9_247 : sm_key sm_VL 9 247 = some (1, ⟨"ForKeeps", "evenGroups", "(I)I"⟩, [(9, 148, 0, [656, 658, 8, 44, 659])]) := sm_key_at 50 (by decide +kernel) rfl
set_option maxRecDepth 100000 in
theorem vk_9_250 : sm_key sm_VL 9 250 = some (1, ⟨"ForKeeps$Patch", "owedByAny", "(I)I"⟩, [(3, 152, 0, [674, 675, 676, 45, 677])]) := sm_key_at 51 (by decide +kernel) rfl
set_option maxRecDepth 100000 in
theorem vk_9_256 : sm_key sm_VL 9 256 = some (1, ⟨"ForKeeps$Patch", "balance", "(I)I"⟩, [(3, 147, 0, [663, 664, 665, 45, 666])]) := sm_key_at 52 (by decide +kernel) rfl
set_option maxRecDepth 100000 in
theorem vk_9_262 : sm_key sm_VL 9 262 = some (0, ⟨"ForKeeps$Patch", "marbles", "()I"⟩, [(3, 160, 0, [694, 695, 696, 45, 697])]) := sm_key_at 53 (by decide +kernel) rfl
set_option maxRecDepth 100000 in
theorem vk_10_53 : sm_key sm_VL 10 53 = some (0, ⟨"ForKeepsModel", "cells", "()I"⟩, [(10, 61, 0, [855, 857, 23, 55, 858])]) := sm_key_at 54 (by decide +kernel) rfl
set_option maxRecDepth 100000 in
theorem vk_10_61 : sm_key sm_VL 10 61 = some (0, ⟨"ForKeepsModel", "players", "()I"⟩, [(10, 68, 0, [867, 869, 25, 55, 870])]) := sm_key_at 55 (by decide +kernel) rfl
set_option maxRecDepth 100000 in
theorem vk_10_76 : sm_key sm_VL 10 76 = some (3, ⟨"ForKeepsModel", "isSort", "(III)Z"⟩, [(10, 31, 0, [803, 805, 12, 55, 806])]) := sm_key_at 56 (by decide +kernel) rfl
set_option maxRecDepth 100000 in
theorem vk_10_83 : sm_key sm_VL 10 83 = some (0, ⟨"ForKeepsModel", "look", "()V"⟩, [(10, 32, 0, [799, 801, 11, 55, 802])]) := sm_key_at 57 (by decide +kernel) rfl
set_option maxRecDepth 100000 in
theorem vk_10_89 : sm_key sm_VL 10 89 = some (0, ⟨"ForKeepsModel", "skip", "()V"⟩, [(10, 35, 0, [815, 817, 15, 55, 818])]) := sm_key_at 58 (by decide +kernel) rfl
set_option maxRecDepth 100000 in
theorem vk_10_92 : sm_key sm_VL 10 92 = some (2, ⟨"ForKeepsModel", "takeNumber", "(II)Z"⟩, [(10, 36, 0, [823, 825, 17, 55, 826])]) := sm_key_at 59 (by decide +kernel) rfl
set_option maxRecDepth 100000 in
theorem vk_10_96 : sm_key sm_VL 10 96 = some (6, ⟨"ForKeepsModel", "isWord", "(IIIIII)Z"⟩, [(10, 33, 0, [811, 813, 14, 55, 814])]) := sm_key_at 60 (by decide +kernel) rfl
set_option maxRecDepth 100000 in
theorem vk_10_100 : sm_key sm_VL 10 100 = some (0, ⟨"ForKeepsModel", "kindOfWord", "()I"⟩, [(10, 34, 0, [807, 809, 13, 55, 810])]) := sm_key_at 61 (by decide +kernel) rfl
set_option maxRecDepth 100000 in
theorem vk_10_103 : sm_key sm_VL 10 103 = some (0, ⟨"ForKeepsModel", "takePatch", "()Z"⟩, [(10, 37, 0, [819, 821, 16, 55, 822])]) := sm_key_at 62 (by decide +kernel) rfl
set_option maxRecDepth 100000 in
theorem vk_10_107 : sm_key sm_VL 10 107 = some (1, ⟨"ForKeepsModel", "takeCell", "(Z)Z"⟩, [(10, 38, 0, [827, 829, 18, 55, 830])]) := sm_key_at 63 (by decide +kernel) rfl
set_option maxRecDepth 100000 in
theorem vk_10_111 : sm_key sm_VL 10 111 = some (0, ⟨"ForKeepsModel", "takeOwe", "()Z"⟩, [(10, 39, 0, [831, 833, 19, 55, 834])]) := sm_key_at 64 (by decide +kernel) rfl
set_option maxRecDepth 100000 in
theorem vk_10_114 : sm_key sm_VL 10 114 = some (0, ⟨"ForKeepsModel", "even", "()Z"⟩, [(10, 40, 0, [835, 837, 20, 55, 838])]) := sm_key_at 65 (by decide +kernel) rfl
set_option maxRecDepth 100000 in
theorem vk_10_117 : sm_key sm_VL 10 117 = some (1, ⟨"ForKeepsModel", "takePlayer", "(I)Z"⟩, [(10, 41, 0, [839, 841, 21, 55, 842])]) := sm_key_at 66 (by decide +kernel) rfl
set_option maxRecDepth 100000 in
theorem vk_10_124 : sm_key sm_VL 10 124 = some (0, ⟨"ForKeepsModel", "takeClause", "()Z"⟩, [(10, 42, 0, [795, 797, 10, 55, 798])]) := sm_key_at 67 (by decide +kernel) rfl
set_option maxRecDepth 100000 in
theorem vk_10_127 : sm_key sm_VL 10 127 = some (0, ⟨"ForKeepsModel", "readAll", "()I"⟩, [(10, 43, 0, [791, 793, 9, 55, 794])]) := sm_key_at 68 (by decide +kernel) rfl
set_option maxRecDepth 100000 in
theorem vk_10_136 : sm_key sm_VL 10 136 = some (1, ⟨"ForKeepsModel", "isCell", "(I)Z"⟩, [(10, 62, 0, [851, 853, 22, 55, 854])]) := sm_key_at 69 (by decide +kernel) rfl
set_option maxRecDepth 100000 in
theorem vk_10_139 : sm_key sm_VL 10 139 = some (1, ⟨"ForKeepsModel", "isPlayer", "(I)Z"⟩, [(10, 69, 0, [863, 865, 24, 55, 866])]) := sm_key_at 70 (by decide +kernel) rfl
set_option maxRecDepth 100000 in
theorem vk_10_142 : sm_key sm_VL 10 142 = some (1, ⟨"ForKeepsModel", "kind", "(I)I"⟩, [(10, 70, 0, [871, 873, 26, 55, 874])]) := sm_key_at 71 (by decide +kernel) rfl
set_option maxRecDepth 100000 in
theorem vk_10_146 : sm_key sm_VL 10 146 = some (1, ⟨"ForKeepsModel", "owes", "(I)I"⟩, [(10, 71, 0, [875, 877, 27, 55, 878])]) := sm_key_at 72 (by decide +kernel) rfl
set_option maxRecDepth 100000 in
theorem vk_10_149 : sm_key sm_VL 10 149 = some (1, ⟨"ForKeepsModel", "owed", "(I)I"⟩, [(10, 72, 0, [879, 881, 28, 55, 882])]) := sm_key_at 73 (by decide +kernel) rfl
set_option maxRecDepth 100000 in
theorem vk_10_152 : sm_key sm_VL 10 152 = some (2, ⟨"ForKeepsModel", "areTwo", "(II)Z"⟩, [(10, 75, 0, [887, 889, 29, 55, 890])]) := sm_key_at 74 (by decide +kernel) rfl
set_option maxRecDepth 100000 in
theorem vk_10_157 : sm_key sm_VL 10 157 = some (2, ⟨"ForKeepsModel", "has", "(II)I"⟩, [(10, 82, 0, [896, 898, 30, 55, 899])]) := sm_key_at 75 (by decide +kernel) rfl
set_option maxRecDepth 100000 in
theorem vk_10_173 : sm_key sm_VL 10 173 = some (0, ⟨"ForKeepsModel", "remember", "()V"⟩, [(10, 97, 0, [906, 908, 31, 55, 909])]) := sm_key_at 76 (by decide +kernel) rfl
set_option maxRecDepth 100000 in
theorem vk_10_176 : sm_key sm_VL 10 176 = some (3, ⟨"ForKeepsModel", "forceOf", "(III)I"⟩, [(10, 98, 0, [910, 912, 32, 55, 913])]) := sm_key_at 77 (by decide +kernel) rfl
set_option maxRecDepth 100000 in
theorem vk_10_180 : sm_key sm_VL 10 180 = some (2, ⟨"ForKeepsModel", "rolls", "([II)I"⟩, [(10, 99, 0, [918, 920, 33, 55, 921])]) := sm_key_at 78 (by decide +kernel) rfl
set_option maxRecDepth 100000 in
theorem vk_10_184 : sm_key sm_VL 10 184 = some (2, ⟨"ForKeepsModel", "worthAt", "([II)I"⟩, [(10, 100, 0, [922, 924, 34, 55, 925])]) := sm_key_at 79 (by decide +kernel) rfl
set_option maxRecDepth 100000 in
theorem vk_10_195 : sm_key sm_VL 10 195 = some (1, ⟨"ForKeepsModel", "hits", "(I)I"⟩, [(10, 119, 0, [957, 959, 35, 55, 960])]) := sm_key_at 80 (by decide +kernel) rfl
set_option maxRecDepth 100000 in
theorem vk_10_201 : sm_key sm_VL 10 201 = some (2, ⟨"ForKeepsModel", "gains", "(II)I"⟩, [(10, 124, 0, [972, 974, 37, 55, 975])]) := sm_key_at 81 (by decide +kernel) rfl
set_option maxRecDepth 100000 in
theorem vk_10_204 : sm_key sm_VL 10 204 = some (2, ⟨"ForKeepsModel", "meanOf", "(II)I"⟩, [(10, 125, 0, [968, 970, 36, 55, 971])]) := sm_key_at 82 (by decide +kernel) rfl
set_option maxRecDepth 100000 in
theorem vk_10_207 : sm_key sm_VL 10 207 = some (1, ⟨"ForKeepsModel", "begin", "(Z)V"⟩, [(10, 130, 0, [984, 986, 38, 55, 987])]) := sm_key_at 83 (by decide +kernel) rfl
set_option maxRecDepth 100000 in
theorem vk_10_211 : sm_key sm_VL 10 211 = some (1, ⟨"ForKeepsModel", "hitIn", "(I)I"⟩, [(10, 131, 0, [988, 990, 39, 55, 991])]) := sm_key_at 84 (by decide +kernel) rfl
set_option maxRecDepth 100000 in
theorem vk_10_226 : sm_key sm_VL 10 226 = some (1, ⟨"ForKeepsModel", "net", "(I)I"⟩, [(10, 150, 0, [1019, 1021, 40, 55, 1022])]) := sm_key_at 85 (by decide +kernel) rfl
set_option maxRecDepth 100000 in
theorem vk_10_231 : sm_key sm_VL 10 231 = some (0, ⟨"ForKeepsModel", "lying", "()I"⟩, [(10, 163, 0, [1040, 1042, 41, 55, 1043])]) := sm_key_at 86 (by decide +kernel) rfl
set_option maxRecDepth 100000 in
theorem vk_10_234 : sm_key sm_VL 10 234 = some (2, ⟨"ForKeepsModel", "sumOf", "(II)I"⟩, [(10, 164, 0, [1044, 1046, 42, 55, 1047])]) := sm_key_at 87 (by decide +kernel) rfl
set_option maxRecDepth 100000 in
theorem vk_13_13 : sm_key sm_VL 13 13 = some (1, ⟨"ForKeeps", "write", "(I)I"⟩, [(9, 13, 0, [263, 264, 265, 44, 266])]) := sm_key_at 88 (by decide +kernel) rfl
set_option maxRecDepth 100000 in
theorem vk_13_17 : sm_key sm_VL 13 17 = some (1, ⟨"ForKeepsModel", "write", "(I)I"⟩, [(10, 15, 0, [775, 776, 777, 55, 778])]) := sm_key_at 89 (by decide +kernel) rfl
set_option maxRecDepth 100000 in
theorem vk_13_18 : sm_key sm_VL 13 18 = some (0, ⟨"ForKeeps", "erase", "()I"⟩, [(9, 16, 0, [271, 272, 273, 44, 274])]) := sm_key_at 90 (by decide +kernel) rfl
set_option maxRecDepth 100000 in
theorem vk_13_22 : sm_key sm_VL 13 22 = some (0, ⟨"ForKeepsModel", "erase", "()I"⟩, [(10, 17, 0, [783, 784, 785, 55, 786])]) := sm_key_at 91 (by decide +kernel) rfl
set_option maxRecDepth 100000 in
theorem vk_13_23 : sm_key sm_VL 13 23 = some (0, ⟨"ForKeeps", "fault", "()I"⟩, [(9, 30, 0, [275, 276, 277, 44, 278])]) := sm_key_at 92 (by decide +kernel) rfl
set_option maxRecDepth 100000 in
theorem vk_13_26 : sm_key sm_VL 13 26 = some (0, ⟨"ForKeepsModel", "fault", "()I"⟩, [(10, 44, 0, [787, 788, 789, 55, 790])]) := sm_key_at 93 (by decide +kernel) rfl
set_option maxRecDepth 100000 in
theorem vk_13_27 : sm_key sm_VL 13 27 = some (0, ⟨"ForKeeps", "patch", "()I"⟩, [(9, 58, 0, [380, 381, 382, 44, 383])]) := sm_key_at 94 (by decide +kernel) rfl
set_option maxRecDepth 100000 in
theorem vk_13_30 : sm_key sm_VL 13 30 = some (0, ⟨"ForKeepsModel", "patch", "()I"⟩, [(10, 59, 0, [843, 844, 845, 55, 846])]) := sm_key_at 95 (by decide +kernel) rfl
set_option maxRecDepth 100000 in
theorem vk_13_31 : sm_key sm_VL 13 31 = some (2, ⟨"ForKeeps", "cell", "(II)I"⟩, [(9, 60, 0, [439, 440, 441, 44, 442])]) := sm_key_at 96 (by decide +kernel) rfl
set_option maxRecDepth 100000 in
theorem vk_13_35 : sm_key sm_VL 13 35 = some (2, ⟨"ForKeepsModel", "cell", "(II)I"⟩, [(10, 63, 0, [847, 848, 849, 55, 850])]) := sm_key_at 97 (by decide +kernel) rfl
set_option maxRecDepth 100000 in
theorem vk_13_36 : sm_key sm_VL 13 36 = some (2, ⟨"ForKeeps", "player", "(II)I"⟩, [(9, 67, 0, [444, 445, 446, 44, 447])]) := sm_key_at 98 (by decide +kernel) rfl
set_option maxRecDepth 100000 in
theorem vk_13_39 : sm_key sm_VL 13 39 = some (2, ⟨"ForKeepsModel", "player", "(II)I"⟩, [(10, 73, 0, [859, 860, 861, 55, 862])]) := sm_key_at 99 (by decide +kernel) rfl
set_option maxRecDepth 100000 in
theorem vk_13_40 : sm_key sm_VL 13 40 = some (2, ⟨"ForKeeps", "debt", "(II)I"⟩, [(9, 74, 0, [461, 462, 463, 44, 464])]) := sm_key_at 100 (by decide +kernel) rfl
set_option maxRecDepth 100000 in
theorem vk_13_43 : sm_key sm_VL 13 43 = some (2, ⟨"ForKeepsModel", "debt", "(II)I"⟩, [(10, 76, 0, [883, 884, 885, 55, 886])]) := sm_key_at 101 (by decide +kernel) rfl
set_option maxRecDepth 100000 in
theorem vk_13_44 : sm_key sm_VL 13 44 = some (2, ⟨"ForKeeps", "as", "(II)I"⟩, [(9, 81, 0, [467, 468, 469, 44, 470])]) := sm_key_at 102 (by decide +kernel) rfl
set_option maxRecDepth 100000 in
theorem vk_13_47 : sm_key sm_VL 13 47 = some (2, ⟨"ForKeepsModel", "as", "(II)I"⟩, [(10, 83, 0, [891, 892, 893, 55, 894])]) := sm_key_at 103 (by decide +kernel) rfl
set_option maxRecDepth 100000 in
theorem vk_13_48 : sm_key sm_VL 13 48 = some (3, ⟨"ForKeeps", "shoot", "(III)I"⟩, [(9, 96, 0, [489, 490, 491, 44, 492])]) := sm_key_at 104 (by decide +kernel) rfl
set_option maxRecDepth 100000 in
theorem vk_13_52 : sm_key sm_VL 13 52 = some (3, ⟨"ForKeepsModel", "shoot", "(III)I"⟩, [(10, 102, 0, [900, 901, 902, 55, 903])]) := sm_key_at 105 (by decide +kernel) rfl
set_option maxRecDepth 100000 in
theorem vk_13_53 : sm_key sm_VL 13 53 = some (3, ⟨"ForKeeps", "pay", "(III)I"⟩, [(9, 103, 0, [561, 562, 563, 44, 564])]) := sm_key_at 106 (by decide +kernel) rfl
set_option maxRecDepth 100000 in
theorem vk_13_56 : sm_key sm_VL 13 56 = some (3, ⟨"ForKeepsModel", "pay", "(III)I"⟩, [(10, 104, 0, [929, 930, 931, 55, 932])]) := sm_key_at 107 (by decide +kernel) rfl
set_option maxRecDepth 100000 in
theorem vk_13_57 : sm_key sm_VL 13 57 = some (0, ⟨"ForKeeps", "undo", "()I"⟩, [(9, 106, 0, [566, 567, 568, 44, 569])]) := sm_key_at 108 (by decide +kernel) rfl
set_option maxRecDepth 100000 in
theorem vk_13_60 : sm_key sm_VL 13 60 = some (0, ⟨"ForKeepsModel", "undo", "()I"⟩, [(10, 107, 0, [934, 935, 936, 55, 937])]) := sm_key_at 109 (by decide +kernel) rfl
set_option maxRecDepth 100000 in
theorem vk_13_61 : sm_key sm_VL 13 61 = some (1, ⟨"ForKeeps", "keep", "(I)I"⟩, [(9, 108, 0, [574, 575, 576, 44, 577])]) := sm_key_at 110 (by decide +kernel) rfl
set_option maxRecDepth 100000 in
theorem vk_13_64 : sm_key sm_VL 13 64 = some (1, ⟨"ForKeepsModel", "keep", "(I)I"⟩, [(10, 109, 0, [938, 939, 940, 55, 941])]) := sm_key_at 111 (by decide +kernel) rfl
set_option maxRecDepth 100000 in
theorem vk_13_65 : sm_key sm_VL 13 65 = some (1, ⟨"ForKeeps", "back", "(I)I"⟩, [(9, 110, 0, [578, 579, 580, 44, 581])]) := sm_key_at 112 (by decide +kernel) rfl
set_option maxRecDepth 100000 in
theorem vk_13_68 : sm_key sm_VL 13 68 = some (1, ⟨"ForKeepsModel", "back", "(I)I"⟩, [(10, 111, 0, [942, 943, 944, 55, 945])]) := sm_key_at 113 (by decide +kernel) rfl
set_option maxRecDepth 100000 in
theorem vk_13_69 : sm_key sm_VL 13 69 = some (2, ⟨"ForKeeps", "stop", "(II)I"⟩, [(9, 113, 0, [582, 583, 584, 44, 585])]) := sm_key_at 114 (by decide +kernel) rfl
set_option maxRecDepth 100000 in
theorem vk_13_72 : sm_key sm_VL 13 72 = some (2, ⟨"ForKeepsModel", "stop", "(II)I"⟩, [(10, 114, 0, [946, 947, 948, 55, 949])]) := sm_key_at 115 (by decide +kernel) rfl
set_option maxRecDepth 100000 in
theorem vk_13_73 : sm_key sm_VL 13 73 = some (3, ⟨"ForKeeps", "odds", "(III)I"⟩, [(9, 117, 0, [590, 591, 592, 44, 593])]) := sm_key_at 116 (by decide +kernel) rfl
set_option maxRecDepth 100000 in
theorem vk_13_76 : sm_key sm_VL 13 76 = some (3, ⟨"ForKeepsModel", "odds", "(III)I"⟩, [(10, 121, 0, [950, 951, 952, 55, 953])]) := sm_key_at 117 (by decide +kernel) rfl
set_option maxRecDepth 100000 in
theorem vk_13_77 : sm_key sm_VL 13 77 = some (2, ⟨"ForKeeps", "mean", "(II)I"⟩, [(9, 123, 0, [600, 601, 602, 44, 603])]) := sm_key_at 118 (by decide +kernel) rfl
set_option maxRecDepth 100000 in
theorem vk_13_80 : sm_key sm_VL 13 80 = some (2, ⟨"ForKeepsModel", "mean", "(II)I"⟩, [(10, 126, 0, [964, 965, 966, 55, 967])]) := sm_key_at 119 (by decide +kernel) rfl
set_option maxRecDepth 100000 in
theorem vk_13_81 : sm_key sm_VL 13 81 = some (2, ⟨"ForKeeps", "best", "(II)I"⟩, [(9, 127, 0, [608, 609, 610, 44, 611])]) := sm_key_at 120 (by decide +kernel) rfl
set_option maxRecDepth 100000 in
theorem vk_13_84 : sm_key sm_VL 13 84 = some (2, ⟨"ForKeepsModel", "best", "(II)I"⟩, [(10, 128, 0, [976, 977, 978, 55, 979])]) := sm_key_at 121 (by decide +kernel) rfl
set_option maxRecDepth 100000 in
theorem vk_13_85 : sm_key sm_VL 13 85 = some (1, ⟨"ForKeeps", "two", "(I)I"⟩, [(9, 129, 0, [612, 613, 614, 44, 615])]) := sm_key_at 122 (by decide +kernel) rfl
set_option maxRecDepth 100000 in
theorem vk_13_88 : sm_key sm_VL 13 88 = some (1, ⟨"ForKeepsModel", "two", "(I)I"⟩, [(10, 132, 0, [980, 981, 982, 55, 983])]) := sm_key_at 123 (by decide +kernel) rfl
set_option maxRecDepth 100000 in
theorem vk_13_89 : sm_key sm_VL 13 89 = some (2, ⟨"ForKeeps", "seen", "(II)I"⟩, [(9, 134, 0, [616, 617, 618, 44, 619])]) := sm_key_at 124 (by decide +kernel) rfl
set_option maxRecDepth 100000 in
theorem vk_13_92 : sm_key sm_VL 13 92 = some (2, ⟨"ForKeepsModel", "seen", "(II)I"⟩, [(10, 135, 0, [992, 993, 994, 55, 995])]) := sm_key_at 125 (by decide +kernel) rfl
set_option maxRecDepth 100000 in
theorem vk_13_93 : sm_key sm_VL 13 93 = some (0, ⟨"ForKeeps", "forget", "()I"⟩, [(9, 136, 0, [624, 625, 626, 44, 627])]) := sm_key_at 126 (by decide +kernel) rfl
set_option maxRecDepth 100000 in
theorem vk_13_96 : sm_key sm_VL 13 96 = some (0, ⟨"ForKeepsModel", "forget", "()I"⟩, [(10, 137, 0, [997, 998, 999, 55, 1000])]) := sm_key_at 127 (by decide +kernel) rfl
set_option maxRecDepth 100000 in
theorem vk_13_97 : sm_key sm_VL 13 97 = some (1, ⟨"ForKeeps", "slopes", "(I)I"⟩, [(9, 139, 0, [628, 629, 630, 44, 631])]) := sm_key_at 128 (by decide +kernel) rfl
set_option maxRecDepth 100000 in
theorem vk_13_100 : sm_key sm_VL 13 100 = some (1, ⟨"ForKeepsModel", "slopes", "(I)I"⟩, [(10, 140, 0, [1001, 1002, 1003, 55, 1004])]) := sm_key_at 129 (by decide +kernel) rfl
set_option maxRecDepth 100000 in
theorem vk_13_101 : sm_key sm_VL 13 101 = some (4, ⟨"ForKeeps", "ruin", "(IIII)J"⟩, [(9, 143, 0, [638, 639, 640, 44, 641])]) := sm_key_at 130 (by decide +kernel) rfl
set_option maxRecDepth 100000 in
theorem vk_13_105 : sm_key sm_VL 13 105 = some (4, ⟨"ForKeepsModel", "ruin", "(IIII)J"⟩, [(10, 145, 0, [1005, 1006, 1007, 55, 1008])]) := sm_key_at 131 (by decide +kernel) rfl
set_option maxRecDepth 100000 in
theorem vk_13_106 : sm_key sm_VL 13 106 = some (0, ⟨"ForKeeps", "netted", "()I"⟩, [(9, 149, 0, [652, 653, 654, 44, 655])]) := sm_key_at 132 (by decide +kernel) rfl
set_option maxRecDepth 100000 in
theorem vk_13_109 : sm_key sm_VL 13 109 = some (0, ⟨"ForKeepsModel", "netted", "()I"⟩, [(10, 151, 0, [1015, 1016, 1017, 55, 1018])]) := sm_key_at 133 (by decide +kernel) rfl
set_option maxRecDepth 100000 in
theorem vk_13_110 : sm_key sm_VL 13 110 = some (1, ⟨"ForKeeps", "ring", "(I)I"⟩, [(9, 153, 0, [670, 671, 672, 44, 673])]) := sm_key_at 134 (by decide +kernel) rfl
set_option maxRecDepth 100000 in
theorem vk_13_113 : sm_key sm_VL 13 113 = some (1, ⟨"ForKeepsModel", "ring", "(I)I"⟩, [(10, 154, 0, [1023, 1024, 1025, 55, 1026])]) := sm_key_at 135 (by decide +kernel) rfl
set_option maxRecDepth 100000 in
theorem vk_13_114 : sm_key sm_VL 13 114 = some (0, ⟨"ForKeeps", "poor", "()I"⟩, [(9, 155, 0, [679, 680, 681, 44, 682])]) := sm_key_at 136 (by decide +kernel) rfl
set_option maxRecDepth 100000 in
theorem vk_13_117 : sm_key sm_VL 13 117 = some (0, ⟨"ForKeepsModel", "poor", "()I"⟩, [(10, 156, 0, [1027, 1028, 1029, 55, 1030])]) := sm_key_at 137 (by decide +kernel) rfl
set_option maxRecDepth 100000 in
theorem vk_13_118 : sm_key sm_VL 13 118 = some (4, ⟨"ForKeeps", "rain", "(IIII)I"⟩, [(9, 158, 0, [683, 684, 685, 44, 686])]) := sm_key_at 138 (by decide +kernel) rfl
set_option maxRecDepth 100000 in
theorem vk_13_122 : sm_key sm_VL 13 122 = some (4, ⟨"ForKeepsModel", "rain", "(IIII)I"⟩, [(10, 159, 0, [1031, 1032, 1033, 55, 1034])]) := sm_key_at 139 (by decide +kernel) rfl
set_option maxRecDepth 100000 in
theorem vk_13_123 : sm_key sm_VL 13 123 = some (1, ⟨"ForKeeps", "count", "(I)I"⟩, [(9, 162, 0, [690, 691, 692, 44, 693])]) := sm_key_at 140 (by decide +kernel) rfl
set_option maxRecDepth 100000 in
theorem vk_13_126 : sm_key sm_VL 13 126 = some (1, ⟨"ForKeepsModel", "count", "(I)I"⟩, [(10, 165, 0, [1036, 1037, 1038, 55, 1039])]) := sm_key_at 141 (by decide +kernel) rfl
theorem sk_3_31 : sm_key sm_SL 3 31 = some (2, 0, 0, [76, 77, 46, 78]) := sm_key_at 0 (by decide +kernel) rfl
theorem sk_3_94 : sm_key sm_SL 3 94 = some (2, 146, 1, [678, 661, 44, 662]) := sm_key_at 1 (by decide +kernel) rfl
theorem sk_7_52 : sm_key sm_SL 7 52 = some (1, 23, 0, [362, 363, 49, 364]) := sm_key_at 2 (by decide +kernel) rfl
theorem sk_7_55 : sm_key sm_SL 7 55 = some (1, 24, 0, [365, 366, 49, 367]) := sm_key_at 3 (by decide +kernel) rfl
theorem sk_7_62 : sm_key sm_SL 7 62 = some (2, 26, 0, [372, 373, 49, 374]) := sm_key_at 4 (by decide +kernel) rfl
theorem sk_7_69 : sm_key sm_SL 7 69 = some (1, 18, 0, [291, 292, 49, 293]) := sm_key_at 5 (by decide +kernel) rfl
theorem sk_7_73 : sm_key sm_SL 7 73 = some (1, 20, 0, [298, 299, 49, 300]) := sm_key_at 6 (by decide +kernel) rfl
theorem sk_9_161 : sm_key sm_SL 9 161 = some (2, 78, 0, [475, 476, 44, 477]) := sm_key_at 7 (by decide +kernel) rfl
theorem sk_9_170 : sm_key sm_SL 9 170 = some (1, 84, 0, [493, 494, 44, 495]) := sm_key_at 8 (by decide +kernel) rfl
theorem sk_9_178 : sm_key sm_SL 9 178 = some (2, 86, 0, [505, 506, 44, 507]) := sm_key_at 9 (by decide +kernel) rfl
theorem sk_9_207 : sm_key sm_SL 9 207 = some (1, 112, 0, [586, 587, 44, 588]) := sm_key_at 10 (by decide +kernel) rfl
theorem sk_9_215 : sm_key sm_SL 9 215 = some (3, 116, 0, [594, 595, 44, 596]) := sm_key_at 11 (by decide +kernel) rfl
theorem sk_9_232 : sm_key sm_SL 9 232 = some (1, 141, 0, [642, 643, 44, 644]) := sm_key_at 12 (by decide +kernel) rfl
theorem sk_9_237 : sm_key sm_SL 9 237 = some (2, 142, 0, [646, 647, 44, 648]) := sm_key_at 13 (by decide +kernel) rfl
theorem sk_9_253 : sm_key sm_SL 9 253 = some (2, 146, 0, [660, 661, 44, 662]) := sm_key_at 14 (by decide +kernel) rfl
theorem sk_9_259 : sm_key sm_SL 9 259 = some (2, 157, 0, [687, 688, 44, 689]) := sm_key_at 15 (by decide +kernel) rfl
theorem sk_9_266 : sm_key sm_SL 9 266 = some (1, 161, 0, [698, 699, 44, 700]) := sm_key_at 16 (by decide +kernel) rfl
theorem sk_9_282 : sm_key sm_SL 9 282 = some (2, 115, 0, [597, 598, 44, 599]) := sm_key_at 17 (by decide +kernel) rfl
theorem sk_10_57 : sm_key sm_SL 10 57 = some (3, 14, 0, [780, 781, 55, 782]) := sm_key_at 18 (by decide +kernel) rfl
theorem sk_10_187 : sm_key sm_SL 10 187 = some (2, 101, 0, [926, 927, 55, 928]) := sm_key_at 19 (by decide +kernel) rfl
theorem sk_10_192 : sm_key sm_SL 10 192 = some (1, 118, 0, [954, 955, 55, 956]) := sm_key_at 20 (by decide +kernel) rfl
theorem sk_10_198 : sm_key sm_SL 10 198 = some (3, 120, 0, [961, 962, 55, 963]) := sm_key_at 21 (by decide +kernel) rfl
theorem sk_10_222 : sm_key sm_SL 10 222 = some (3, 144, 0, [1012, 1013, 55, 1014]) := sm_key_at 22 (by decide +kernel) rfl
theorem pk_0_1 : sm_key sm_PL 0 1 = some (0, 5, 1, [215, 192, 50, 193]) := sm_key_at 0 (by decide +kernel) rfl
theorem pk_1_1 : sm_key sm_PL 1 1 = some (0, 6, 1, [208, 189, 51, 190]) := sm_key_at 1 (by decide +kernel) rfl
theorem pk_2_19 : sm_key sm_PL 2 19 = some (0, 1, 0, [500, 73, 45, 74]) := sm_key_at 2 (by decide +kernel) rfl
theorem pk_4_3 : sm_key sm_PL 4 3 = some (0, 6, 1, [201, 189, 51, 190]) := sm_key_at 3 (by decide +kernel) rfl
theorem pk_6_1 : sm_key sm_PL 6 1 = some (0, 5, 1, [191, 192, 50, 193]) := sm_key_at 4 (by decide +kernel) rfl
theorem pk_9_9 : sm_key sm_PL 9 9 = some (0, 1, 0, [72, 73, 45, 74]) := sm_key_at 5 (by decide +kernel) rfl
theorem pk_9_30 : sm_key sm_PL 9 30 = some (0, 2, 1, [115, 116, 47, 117]) := sm_key_at 6 (by decide +kernel) rfl
theorem pk_9_37 : sm_key sm_PL 9 37 = some (0, 3, 1, [134, 135, 48, 136]) := sm_key_at 7 (by decide +kernel) rfl
theorem pk_9_44 : sm_key sm_PL 9 44 = some (0, 4, 1, [151, 152, 49, 153]) := sm_key_at 8 (by decide +kernel) rfl
theorem pk_9_51 : sm_key sm_PL 9 51 = some (0, 6, 1, [188, 189, 51, 190]) := sm_key_at 9 (by decide +kernel) rfl
theorem pk_9_58 : sm_key sm_PL 9 58 = some (0, 7, 1, [198, 199, 52, 200]) := sm_key_at 10 (by decide +kernel) rfl
theorem pk_9_64 : sm_key sm_PL 9 64 = some (0, 8, 1, [205, 206, 53, 207]) := sm_key_at 11 (by decide +kernel) rfl
theorem pk_9_70 : sm_key sm_PL 9 70 = some (0, 9, 1, [212, 213, 54, 214]) := sm_key_at 12 (by decide +kernel) rfl
theorem pk_13_9 : sm_key sm_PL 13 9 = some (0, 10, 0, [64, 65, 44, 66]) := sm_key_at 13 (by decide +kernel) rfl
theorem pk_13_12 : sm_key sm_PL 13 12 = some (0, 11, 0, [703, 704, 55, 705]) := sm_key_at 14 (by decide +kernel) rfl

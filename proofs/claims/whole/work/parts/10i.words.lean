set_option maxRecDepth 20000 in
theorem ggL_law_X12_names_0 : GoodIn wsL_law wsX12_names_r1 := goodIn_r _ [369, 754, 755, 756, 5, 757, 758, 759, 377, 153, 154, 152, 394, 142, 378, 379, 380, 381, 183, 382, 383, 384, 385, 386] (by decide +kernel) (by decide +kernel)
set_option maxRecDepth 20000 in
theorem ggL_law_X12_names_1 : GoodIn wsL_law wsX12_names_r2 := goodIn_r _ [387, 388, 389, 390, 391, 392, 393, 150, 395, 396, 397, 398, 399, 149, 400, 401, 402, 403, 404, 405, 406, 407, 408, 446] (by decide +kernel) (by decide +kernel)
set_option maxRecDepth 20000 in
theorem ggL_law_X12_names_2 : GoodIn wsL_law wsX12_names_r3 := goodIn_r _ [447, 448, 449, 422, 423, 424, 425, 413, 414, 415, 416, 417, 426, 427, 428, 429, 438, 439, 440, 441, 442, 443, 444, 445] (by decide +kernel) (by decide +kernel)
set_option maxRecDepth 20000 in
theorem ggL_law_X12_names_3 : GoodIn wsL_law wsX12_names_r4 := goodIn_r _ [653, 654, 655, 656, 657, 658, 659, 660, 661, 370, 144, 450, 451, 452, 760, 761, 762, 763, 155, 662, 663, 664, 665, 666] (by decide +kernel) (by decide +kernel)
set_option maxRecDepth 20000 in
theorem ggL_law_X12_names_4 : GoodIn wsL_law wsX12_names_r5 := goodIn_r _ [667, 668, 669, 670, 671, 672, 673, 674, 675, 676, 677, 678, 679, 680, 681, 682, 683, 684, 685, 686, 687, 688, 689, 488] (by decide +kernel) (by decide +kernel)
set_option maxRecDepth 20000 in
theorem ggL_law_X12_names_5 : GoodIn wsL_law wsX12_names_r6 := goodIn_r _ [489, 490, 690, 691, 692, 693, 694, 695, 696, 697, 698, 699, 700, 701, 702, 703, 704, 484, 485, 486, 487, 705, 706, 707] (by decide +kernel) (by decide +kernel)
set_option maxRecDepth 20000 in
theorem ggL_law_X12_names_6 : GoodIn wsL_law wsX12_names_r7 := goodIn_r _ [708, 709, 710, 711, 712, 713, 714, 715, 716, 717, 151, 718, 719, 720, 721] (by decide +kernel) (by decide +kernel)
set_option maxRecDepth 20000 in
theorem ggL_law_X12_names_c : GoodIn wsL_law [.code yX12_names cX12_names 1 (some .int)] := goodIn_r _ [753] (by decide +kernel) (by decide +kernel)
theorem ggL_law_X12_names : GoodIn wsL_law wsX12_names := goodIn_app (a := [.code yX12_names cX12_names 1 (some .int)]) ggL_law_X12_names_c (goodIn_app (goodIn_app ggL_law_X12_names_0 (goodIn_app ggL_law_X12_names_1 (goodIn_app ggL_law_X12_names_2 (goodIn_app ggL_law_X12_names_3 (goodIn_app ggL_law_X12_names_4 (goodIn_app ggL_law_X12_names_5 ggL_law_X12_names_6)))))) gc_wsX120)
set_option maxRecDepth 20000 in
theorem gL_law_X12_names : GoodIn wsL_law (wsV RL 49 RX12 yX12_names wsX12_names) := goodIn_app (goodIn_of _ (by decide +kernel)) ggL_law_X12_names
set_option maxRecDepth 20000 in
theorem ggL_law_X11_log_0 : GoodIn wsL_law [.fieldLink RX11 26 "TwoTierStore" "state" "LTwoTierStore$State;", .fieldLink RX11 143 "TwoTierStore$State" "log" "LTwoTierStore$Log;", .fieldLink RX11 229 "TwoTierStore$Log" "asked" "[I", .fieldLink RX11 232 "TwoTierStore$Log" "paid" "[I", .fieldLink RX11 234 "TwoTierStore$Log" "fast" "[I", .methodLink RX11 228 yX4_has, .instanceMethod yX4_has, .selects RX4 yX4_has yX4_has, .initialized RX4, .code yX4_has cX4_has 2 (some .boolean), .fieldLink RX4 24 "TwoTierStore$Log" "count" "I"] := goodIn_r _ [23, 472, 768, 769, 770, 771, 772, 773, 77, 774, 526] (by decide +kernel) (by decide +kernel)
set_option maxRecDepth 20000 in
theorem ggL_law_X11_log_c : GoodIn wsL_law [.code yX11_log cX11_log 3 (some .int)] := goodIn_r _ [767] (by decide +kernel) (by decide +kernel)
theorem ggL_law_X11_log : GoodIn wsL_law wsX11_log := goodIn_app (a := [.code yX11_log cX11_log 3 (some .int)]) ggL_law_X11_log_c (goodIn_app (goodIn_app (goodIn_app ggL_law_X11_log_0 gc_wsX110) gc_wsX90) gc_wsX40)
set_option maxRecDepth 20000 in
theorem gL_law_X11_log : GoodIn wsL_law (wsV RL 50 RX11 yX11_log wsX11_log) := goodIn_app (goodIn_of _ (by decide +kernel)) ggL_law_X11_log
set_option maxRecDepth 20000 in
theorem ggL_law_X12_log_0 : GoodIn wsL_law [.fieldLink RX12 7 "TwoTierStoreModel" "s" "[I", .methodLink RX12 266 yX12_isLogged, .instanceMethod yX12_isLogged, .selects RX12 yX12_isLogged yX12_isLogged, .initialized RX12, .code yX12_isLogged cX12_isLogged 2 (some .boolean), .methodLink RX12 83 yX12_isIn, .static yX12_isIn, .code yX12_isIn cX12_isIn 3 (some .boolean)] := goodIn_r _ [142, 779, 780, 781, 5, 782, 403, 404, 405] (by decide +kernel) (by decide +kernel)
set_option maxRecDepth 20000 in
theorem ggL_law_X12_log_c : GoodIn wsL_law [.code yX12_log cX12_log 3 (some .int)] := goodIn_r _ [778] (by decide +kernel) (by decide +kernel)
theorem ggL_law_X12_log : GoodIn wsL_law wsX12_log := goodIn_app (a := [.code yX12_log cX12_log 3 (some .int)]) ggL_law_X12_log_c (goodIn_app ggL_law_X12_log_0 gc_wsX120)
set_option maxRecDepth 20000 in
theorem gL_law_X12_log : GoodIn wsL_law (wsV RL 53 RX12 yX12_log wsX12_log) := goodIn_app (goodIn_of _ (by decide +kernel)) ggL_law_X12_log
set_option maxRecDepth 20000 in
theorem ggL_law_X11_room_0 : GoodIn wsL_law wsX11_room_r1 := goodIn_r _ [23, 466, 467, 468, 787, 788, 789, 2, 790, 27, 44, 470, 472, 473, 527, 528, 529, 26, 530, 360, 531, 109, 108, 21] (by decide +kernel) (by decide +kernel)
set_option maxRecDepth 20000 in
theorem ggL_law_X11_room_1 : GoodIn wsL_law wsX11_room_r2 := goodIn_r _ [22, 532, 533, 534, 535, 536, 68, 69, 70, 10, 11, 71, 17, 18, 72, 73, 38, 39, 74, 75, 76, 77, 78, 79] (by decide +kernel) (by decide +kernel)
set_option maxRecDepth 20000 in
theorem ggL_law_X11_room_2 : GoodIn wsL_law wsX11_room_r3 := goodIn_r _ [80, 81, 82, 60, 61, 62, 51, 63, 64, 65, 66, 83, 84, 85, 86, 87, 88, 89, 90, 91, 92, 93, 94, 95] (by decide +kernel) (by decide +kernel)
set_option maxRecDepth 20000 in
theorem ggL_law_X11_room_3 : GoodIn wsL_law wsX11_room_r4 := goodIn_r _ [96, 97, 98, 99, 100, 101, 102, 103, 104, 537, 538, 539, 540, 333, 334, 335, 336, 337, 338, 339, 323, 340, 341, 342] (by decide +kernel) (by decide +kernel)
set_option maxRecDepth 20000 in
theorem ggL_law_X11_room_4 : GoodIn wsL_law wsX11_room_r5 := goodIn_r _ [343, 541, 542, 543, 544, 348, 349, 545, 546, 547, 548, 549, 526, 550, 551, 552, 553, 554, 354, 555, 556, 355, 557, 558] (by decide +kernel) (by decide +kernel)
set_option maxRecDepth 20000 in
theorem ggL_law_X11_room_5 : GoodIn wsL_law wsX11_room_r6 := goodIn_r _ [559, 560, 361, 362, 363, 43, 364, 127, 128, 791, 792, 793, 794, 795, 796, 797, 798, 345, 346, 347] (by decide +kernel) (by decide +kernel)
set_option maxRecDepth 20000 in
theorem ggL_law_X11_room_c : GoodIn wsL_law [.code yX11_room cX11_room 2 (some .int)] := goodIn_r _ [786] (by decide +kernel) (by decide +kernel)
theorem ggL_law_X11_room : GoodIn wsL_law wsX11_room := goodIn_app (a := [.code yX11_room cX11_room 2 (some .int)]) ggL_law_X11_room_c (goodIn_app (goodIn_app (goodIn_app (goodIn_app (goodIn_app (goodIn_app (goodIn_app (goodIn_app (goodIn_app ggL_law_X11_room_0 (goodIn_app ggL_law_X11_room_1 (goodIn_app ggL_law_X11_room_2 (goodIn_app ggL_law_X11_room_3 (goodIn_app ggL_law_X11_room_4 ggL_law_X11_room_5))))) gc_wsX110) gc_wsX90) gc_wsX80) gc_wsX40) gc_wsX30) gc_wsX100) gc_wsX00) gc_wsX50)
set_option maxRecDepth 20000 in
theorem gL_law_X11_room : GoodIn wsL_law (wsV RL 54 RX11 yX11_room wsX11_room) := goodIn_app (goodIn_of _ (by decide +kernel)) ggL_law_X11_room
set_option maxRecDepth 20000 in
theorem ggL_law_X12_room_0 : GoodIn wsL_law [.fieldLink RX12 7 "TwoTierStoreModel" "s" "[I", .methodLink RX12 83 yX12_isIn, .static yX12_isIn, .initialized RX12, .code yX12_isIn cX12_isIn 3 (some .boolean), .methodLink RX12 248 yX12_keeps, .instanceMethod yX12_keeps, .selects RX12 yX12_keeps yX12_keeps, .code yX12_keeps cX12_keeps 2 none, .fieldLink RX12 181 "TwoTierStoreModel" "undoMany" "I", .fieldLink RX12 16 "TwoTierStoreModel" "undone" "[I", .methodLink RX12 177 yX12_copies, .static yX12_copies, .code yX12_copies cX12_copies 5 none, .methodLink RX12 272 yX12_empties, .instanceMethod yX12_empties, .selects RX12 yX12_empties yX12_empties, .code yX12_empties cX12_empties 3 (some .int), .methodLink RX12 269 yX12_ones, .static yX12_ones, .code yX12_ones cX12_ones 3 (some .int)] := goodIn_r _ [142, 403, 404, 5, 405, 658, 659, 660, 661, 370, 144, 450, 451, 452, 803, 804, 805, 806, 807, 808, 809] (by decide +kernel) (by decide +kernel)
set_option maxRecDepth 20000 in
theorem ggL_law_X12_room_c : GoodIn wsL_law [.code yX12_room cX12_room 2 (some .int)] := goodIn_r _ [802] (by decide +kernel) (by decide +kernel)
theorem ggL_law_X12_room : GoodIn wsL_law wsX12_room := goodIn_app (a := [.code yX12_room cX12_room 2 (some .int)]) ggL_law_X12_room_c (goodIn_app ggL_law_X12_room_0 gc_wsX120)
set_option maxRecDepth 20000 in
theorem gL_law_X12_room : GoodIn wsL_law (wsV RL 57 RX12 yX12_room wsX12_room) := goodIn_app (goodIn_of _ (by decide +kernel)) ggL_law_X12_room
set_option maxRecDepth 20000 in
theorem ggL_law_X11_rule_0 : GoodIn wsL_law wsX11_rule_r1 := goodIn_r _ [23, 466, 468, 467, 787, 788, 789, 2, 790, 27, 44, 470, 472, 473, 527, 528, 529, 26, 530, 360, 531, 109, 108, 21] (by decide +kernel) (by decide +kernel)
set_option maxRecDepth 20000 in
theorem ggL_law_X11_rule_1 : GoodIn wsL_law wsX11_rule_r2 := goodIn_r _ [22, 532, 533, 534, 535, 536, 68, 69, 70, 10, 11, 71, 17, 18, 72, 73, 38, 39, 74, 75, 76, 77, 78, 79] (by decide +kernel) (by decide +kernel)
set_option maxRecDepth 20000 in
theorem ggL_law_X11_rule_2 : GoodIn wsL_law wsX11_rule_r3 := goodIn_r _ [80, 81, 82, 60, 61, 62, 51, 63, 64, 65, 66, 83, 84, 85, 86, 87, 88, 89, 90, 91, 92, 93, 94, 95] (by decide +kernel) (by decide +kernel)
set_option maxRecDepth 20000 in
theorem ggL_law_X11_rule_3 : GoodIn wsL_law wsX11_rule_r4 := goodIn_r _ [96, 97, 98, 99, 100, 101, 102, 103, 104, 537, 538, 539, 540, 333, 334, 335, 336, 337, 338, 339, 323, 340, 341, 342] (by decide +kernel) (by decide +kernel)
set_option maxRecDepth 20000 in
theorem ggL_law_X11_rule_4 : GoodIn wsL_law wsX11_rule_r5 := goodIn_r _ [343, 541, 542, 543, 544, 348, 349, 545, 546, 547, 548, 549, 526, 550, 551, 552, 553, 554, 354, 555, 556, 355, 557, 558] (by decide +kernel) (by decide +kernel)
set_option maxRecDepth 20000 in
theorem ggL_law_X11_rule_5 : GoodIn wsL_law wsX11_rule_r6 := goodIn_r _ [559, 560, 361, 362, 363, 43, 364, 127, 128, 791, 792, 793, 794, 795, 796, 797, 798, 345, 346, 347] (by decide +kernel) (by decide +kernel)
set_option maxRecDepth 20000 in
theorem ggL_law_X11_rule_c : GoodIn wsL_law [.code yX11_rule cX11_rule 2 (some .int)] := goodIn_r _ [813] (by decide +kernel) (by decide +kernel)
theorem ggL_law_X11_rule : GoodIn wsL_law wsX11_rule := goodIn_app (a := [.code yX11_rule cX11_rule 2 (some .int)]) ggL_law_X11_rule_c (goodIn_app (goodIn_app (goodIn_app (goodIn_app (goodIn_app (goodIn_app (goodIn_app (goodIn_app (goodIn_app ggL_law_X11_rule_0 (goodIn_app ggL_law_X11_rule_1 (goodIn_app ggL_law_X11_rule_2 (goodIn_app ggL_law_X11_rule_3 (goodIn_app ggL_law_X11_rule_4 ggL_law_X11_rule_5))))) gc_wsX110) gc_wsX90) gc_wsX80) gc_wsX40) gc_wsX30) gc_wsX100) gc_wsX00) gc_wsX50)
set_option maxRecDepth 20000 in
theorem gL_law_X11_rule : GoodIn wsL_law (wsV RL 58 RX11 yX11_rule wsX11_rule) := goodIn_app (goodIn_of _ (by decide +kernel)) ggL_law_X11_rule
set_option maxRecDepth 20000 in
theorem ggL_law_X12_rule_0 : GoodIn wsL_law [.fieldLink RX12 7 "TwoTierStoreModel" "s" "[I", .methodLink RX12 83 yX12_isIn, .static yX12_isIn, .initialized RX12, .code yX12_isIn cX12_isIn 3 (some .boolean), .methodLink RX12 248 yX12_keeps, .instanceMethod yX12_keeps, .selects RX12 yX12_keeps yX12_keeps, .code yX12_keeps cX12_keeps 2 none, .fieldLink RX12 181 "TwoTierStoreModel" "undoMany" "I", .fieldLink RX12 16 "TwoTierStoreModel" "undone" "[I", .methodLink RX12 177 yX12_copies, .static yX12_copies, .code yX12_copies cX12_copies 5 none, .methodLink RX12 272 yX12_empties, .instanceMethod yX12_empties, .selects RX12 yX12_empties yX12_empties, .code yX12_empties cX12_empties 3 (some .int), .methodLink RX12 269 yX12_ones, .static yX12_ones, .code yX12_ones cX12_ones 3 (some .int)] := goodIn_r _ [142, 403, 404, 5, 405, 658, 659, 660, 661, 370, 144, 450, 451, 452, 803, 804, 805, 806, 807, 808, 809] (by decide +kernel) (by decide +kernel)
set_option maxRecDepth 20000 in
theorem ggL_law_X12_rule_c : GoodIn wsL_law [.code yX12_rule cX12_rule 2 (some .int)] := goodIn_r _ [817] (by decide +kernel) (by decide +kernel)
theorem ggL_law_X12_rule : GoodIn wsL_law wsX12_rule := goodIn_app (a := [.code yX12_rule cX12_rule 2 (some .int)]) ggL_law_X12_rule_c (goodIn_app ggL_law_X12_rule_0 gc_wsX120)
set_option maxRecDepth 20000 in
theorem gL_law_X12_rule : GoodIn wsL_law (wsV RL 61 RX12 yX12_rule wsX12_rule) := goodIn_app (goodIn_of _ (by decide +kernel)) ggL_law_X12_rule
set_option maxRecDepth 20000 in
theorem ggL_law_X11_carry_0 : GoodIn wsL_law wsX11_carry_r1 := goodIn_r _ [23, 469, 32, 27, 36, 501, 502, 503, 18, 504, 323, 561, 562, 563, 31, 564, 565, 822, 823, 824, 2, 825, 466, 495] (by decide +kernel) (by decide +kernel)
set_option maxRecDepth 20000 in
theorem ggL_law_X11_carry_1 : GoodIn wsL_law wsX11_carry_r2 := goodIn_r _ [826, 584, 585, 39, 586, 348, 476, 477, 478, 479, 86, 349, 827, 637, 638, 639, 640, 113, 527, 528, 529, 26, 530, 360] (by decide +kernel) (by decide +kernel)
set_option maxRecDepth 20000 in
theorem ggL_law_X11_carry_2 : GoodIn wsL_law wsX11_carry_r3 := goodIn_r _ [531, 109, 108, 21, 22, 532, 533, 534, 535, 536, 68, 69, 70, 10, 11, 71, 17, 72, 73, 38, 74, 75, 76, 77] (by decide +kernel) (by decide +kernel)
set_option maxRecDepth 20000 in
theorem ggL_law_X11_carry_3 : GoodIn wsL_law wsX11_carry_r4 := goodIn_r _ [78, 79, 80, 81, 82, 60, 61, 62, 51, 63, 64, 65, 66, 83, 84, 85, 87, 88, 89, 90, 91, 92, 93, 94] (by decide +kernel) (by decide +kernel)
set_option maxRecDepth 20000 in
theorem ggL_law_X11_carry_4 : GoodIn wsL_law wsX11_carry_r5 := goodIn_r _ [95, 96, 97, 98, 99, 100, 101, 102, 103, 104, 537, 538, 539, 540, 333, 334, 335, 336, 337, 338, 339, 340, 341, 342] (by decide +kernel) (by decide +kernel)
set_option maxRecDepth 20000 in
theorem ggL_law_X11_carry_5 : GoodIn wsL_law wsX11_carry_r6 := goodIn_r _ [343, 541, 542, 543, 544, 545, 546, 547, 548, 549, 526, 550, 551, 552, 553, 554, 354, 555, 556, 355, 557, 558, 559, 560] (by decide +kernel) (by decide +kernel)
set_option maxRecDepth 20000 in
theorem ggL_law_X11_carry_6 : GoodIn wsL_law wsX11_carry_r7 := goodIn_r _ [828, 829, 830, 831, 570, 832, 833, 834, 611, 612, 613, 575, 591, 592, 593, 35, 594, 595, 117, 118, 119, 835, 619, 620] (by decide +kernel) (by decide +kernel)
set_option maxRecDepth 20000 in
theorem ggL_law_X11_carry_7 : GoodIn wsL_law wsX11_carry_r8 := goodIn_r _ [621, 577, 587, 588, 589, 590, 629, 630, 631, 632, 633, 634, 635, 636, 641, 642, 643, 644, 645, 646, 647, 648] (by decide +kernel) (by decide +kernel)
set_option maxRecDepth 20000 in
theorem ggL_law_X11_carry_c : GoodIn wsL_law [.code yX11_carry cX11_carry 4 (some .int)] := goodIn_r _ [821] (by decide +kernel) (by decide +kernel)
theorem ggL_law_X11_carry : GoodIn wsL_law wsX11_carry := goodIn_app (a := [.code yX11_carry cX11_carry 4 (some .int)]) ggL_law_X11_carry_c (goodIn_app (goodIn_app (goodIn_app (goodIn_app (goodIn_app (goodIn_app (goodIn_app (goodIn_app (goodIn_app (goodIn_app ggL_law_X11_carry_0 (goodIn_app ggL_law_X11_carry_1 (goodIn_app ggL_law_X11_carry_2 (goodIn_app ggL_law_X11_carry_3 (goodIn_app ggL_law_X11_carry_4 (goodIn_app ggL_law_X11_carry_5 (goodIn_app ggL_law_X11_carry_6 ggL_law_X11_carry_7))))))) gc_wsX110) gc_wsX90) gc_wsX100) gc_wsX20) gc_wsX80) gc_wsX30) gc_wsX40) gc_wsX00) gc_wsX10)
set_option maxRecDepth 20000 in
theorem gL_law_X11_carry : GoodIn wsL_law (wsV RL 62 RX11 yX11_carry wsX11_carry) := goodIn_app (goodIn_of _ (by decide +kernel)) ggL_law_X11_carry
set_option maxRecDepth 20000 in
theorem ggL_law_X12_carry_0 : GoodIn wsL_law wsX12_carry_r1 := goodIn_r _ [142, 514, 515, 516, 5, 517, 403, 404, 405, 653, 654, 655, 656, 657, 488, 489, 490, 484, 485, 486, 487, 713, 714, 715] (by decide +kernel) (by decide +kernel)
set_option maxRecDepth 20000 in
theorem ggL_law_X12_carry_1 : GoodIn wsL_law wsX12_carry_r2 := goodIn_r _ [716, 717, 151, 658, 659, 660, 661, 370, 144, 450, 451, 452, 718, 719, 720, 721, 690, 691, 692, 693, 694, 695, 696, 709] (by decide +kernel) (by decide +kernel)
set_option maxRecDepth 20000 in
theorem ggL_law_X12_carry_2 : GoodIn wsL_law wsX12_carry_r3 := goodIn_r _ [710, 711, 712] (by decide +kernel) (by decide +kernel)
set_option maxRecDepth 20000 in
theorem ggL_law_X12_carry_c : GoodIn wsL_law [.code yX12_carry cX12_carry 4 (some .int)] := goodIn_r _ [839] (by decide +kernel) (by decide +kernel)
theorem ggL_law_X12_carry : GoodIn wsL_law wsX12_carry := goodIn_app (a := [.code yX12_carry cX12_carry 4 (some .int)]) ggL_law_X12_carry_c (goodIn_app (goodIn_app ggL_law_X12_carry_0 (goodIn_app ggL_law_X12_carry_1 ggL_law_X12_carry_2)) gc_wsX120)
set_option maxRecDepth 20000 in
theorem gL_law_X12_carry : GoodIn wsL_law (wsV RL 65 RX12 yX12_carry wsX12_carry) := goodIn_app (goodIn_of _ (by decide +kernel)) ggL_law_X12_carry
set_option maxRecDepth 20000 in
theorem ggL_law_X11_gate_0 : GoodIn wsL_law [.fieldLink RX11 44 "TwoTierStore" "gates" "LTwoTierStore$Gates;", .fieldLink RX11 261 "TwoTierStore$Gates" "count" "I", .fieldLink RX11 262 "TwoTierStore$Gates" "told" "[I"] := goodIn_r _ [32, 844, 845] (by decide +kernel) (by decide +kernel)
set_option maxRecDepth 20000 in
theorem ggL_law_X11_gate_c : GoodIn wsL_law [.code yX11_gate cX11_gate 2 (some .int)] := goodIn_r _ [843] (by decide +kernel) (by decide +kernel)
theorem ggL_law_X11_gate : GoodIn wsL_law wsX11_gate := goodIn_app (a := [.code yX11_gate cX11_gate 2 (some .int)]) ggL_law_X11_gate_c (goodIn_app (goodIn_app ggL_law_X11_gate_0 gc_wsX110) gc_wsX20)
set_option maxRecDepth 20000 in
theorem gL_law_X11_gate : GoodIn wsL_law (wsV RL 66 RX11 yX11_gate wsX11_gate) := goodIn_app (goodIn_of _ (by decide +kernel)) ggL_law_X11_gate
set_option maxRecDepth 20000 in
theorem ggL_law_X12_gate_0 : GoodIn wsL_law [.fieldLink RX12 187 "TwoTierStoreModel" "gateMany" "I", .fieldLink RX12 33 "TwoTierStoreModel" "gates" "[I", .methodLink RX12 83 yX12_isIn, .static yX12_isIn, .initialized RX12, .code yX12_isIn cX12_isIn 3 (some .boolean)] := goodIn_r _ [717, 151, 403, 404, 5, 405] (by decide +kernel) (by decide +kernel)
set_option maxRecDepth 20000 in
theorem ggL_law_X12_gate_c : GoodIn wsL_law [.code yX12_gate cX12_gate 2 (some .int)] := goodIn_r _ [849] (by decide +kernel) (by decide +kernel)
theorem ggL_law_X12_gate : GoodIn wsL_law wsX12_gate := goodIn_app (a := [.code yX12_gate cX12_gate 2 (some .int)]) ggL_law_X12_gate_c (goodIn_app ggL_law_X12_gate_0 gc_wsX120)
set_option maxRecDepth 20000 in
theorem gL_law_X12_gate : GoodIn wsL_law (wsV RL 69 RX12 yX12_gate wsX12_gate) := goodIn_app (goodIn_of _ (by decide +kernel)) ggL_law_X12_gate
set_option maxRecDepth 20000 in
theorem ggL_law_X11_book_0 : GoodIn wsL_law [.fieldLink RX11 26 "TwoTierStore" "state" "LTwoTierStore$State;", .fieldLink RX11 280 "TwoTierStore$State" "books" "[LTwoTierStore$Book;", .methodLink RX11 284 yX0_begin, .instanceMethod yX0_begin, .selects RX0 yX0_begin yX0_begin, .initialized RX0, .code yX0_begin cX0_begin 3 none, .fieldLink RX0 21 "TwoTierStore$Book" "isOpen" "Z", .fieldLink RX0 29 "TwoTierStore$Book" "kind" "I", .fieldLink RX0 32 "TwoTierStore$Book" "lines" "I", .fieldLink RX0 25 "TwoTierStore$Book" "written" "I", .fieldLink RX0 35 "TwoTierStore$Book" "leftOut" "I", .fieldLink RX0 38 "TwoTierStore$Book" "lost" "I", .fieldLink RX0 41 "TwoTierStore$Book" "sum" "I"] := goodIn_r _ [23, 854, 855, 856, 857, 82, 858, 354, 555, 556, 355, 557, 558, 559] (by decide +kernel) (by decide +kernel)
set_option maxRecDepth 20000 in
theorem ggL_law_X11_book_c : GoodIn wsL_law [.code yX11_book cX11_book 4 (some .int)] := goodIn_r _ [853] (by decide +kernel) (by decide +kernel)
theorem ggL_law_X11_book : GoodIn wsL_law wsX11_book := goodIn_app (a := [.code yX11_book cX11_book 4 (some .int)]) ggL_law_X11_book_c (goodIn_app (goodIn_app (goodIn_app ggL_law_X11_book_0 gc_wsX110) gc_wsX90) gc_wsX00)
set_option maxRecDepth 20000 in
theorem gL_law_X11_book : GoodIn wsL_law (wsV RL 70 RX11 yX11_book wsX11_book) := goodIn_app (goodIn_of _ (by decide +kernel)) ggL_law_X11_book
set_option maxRecDepth 20000 in
theorem ggL_law_X12_book_0 : GoodIn wsL_law [.fieldLink RX12 7 "TwoTierStoreModel" "s" "[I", .methodLink RX12 83 yX12_isIn, .static yX12_isIn, .initialized RX12, .code yX12_isIn cX12_isIn 3 (some .boolean)] := goodIn_r _ [142, 403, 404, 5, 405] (by decide +kernel) (by decide +kernel)
set_option maxRecDepth 20000 in
theorem ggL_law_X12_book_c : GoodIn wsL_law [.code yX12_book cX12_book 6 (some .int)] := goodIn_r _ [862] (by decide +kernel) (by decide +kernel)
theorem ggL_law_X12_book : GoodIn wsL_law wsX12_book := goodIn_app (a := [.code yX12_book cX12_book 6 (some .int)]) ggL_law_X12_book_c (goodIn_app ggL_law_X12_book_0 gc_wsX120)
set_option maxRecDepth 20000 in
theorem gL_law_X12_book : GoodIn wsL_law (wsV RL 74 RX12 yX12_book wsX12_book) := goodIn_app (goodIn_of _ (by decide +kernel)) ggL_law_X12_book
set_option maxRecDepth 20000 in
theorem ggL_law_X11_booked_0 : GoodIn wsL_law [.fieldLink RX11 26 "TwoTierStore" "state" "LTwoTierStore$State;", .fieldLink RX11 280 "TwoTierStore$State" "books" "[LTwoTierStore$Book;", .fieldLink RX11 287 "TwoTierStore$Book" "isOpen" "Z", .fieldLink RX11 291 "TwoTierStore$Book" "written" "I", .fieldLink RX11 294 "TwoTierStore$Book" "leftOut" "I", .fieldLink RX11 297 "TwoTierStore$Book" "lost" "I", .fieldLink RX11 300 "TwoTierStore$Book" "sum" "I", .fieldLink RX11 303 "TwoTierStore$Book" "kind" "I", .fieldLink RX11 306 "TwoTierStore$Book" "lines" "I"] := goodIn_r _ [23, 854, 867, 868, 869, 870, 871, 872, 873] (by decide +kernel) (by decide +kernel)
set_option maxRecDepth 20000 in
theorem ggL_law_X11_booked_c : GoodIn wsL_law [.code yX11_booked cX11_booked 4 (some .int)] := goodIn_r _ [866] (by decide +kernel) (by decide +kernel)
theorem ggL_law_X11_booked : GoodIn wsL_law wsX11_booked := goodIn_app (a := [.code yX11_booked cX11_booked 4 (some .int)]) ggL_law_X11_booked_c (goodIn_app (goodIn_app (goodIn_app ggL_law_X11_booked_0 gc_wsX110) gc_wsX90) gc_wsX00)
set_option maxRecDepth 20000 in
theorem gL_law_X11_booked : GoodIn wsL_law (wsV RL 75 RX11 yX11_booked wsX11_booked) := goodIn_app (goodIn_of _ (by decide +kernel)) ggL_law_X11_booked
set_option maxRecDepth 20000 in
theorem ggL_law_X12_booked_0 : GoodIn wsL_law [.fieldLink RX12 7 "TwoTierStoreModel" "s" "[I", .methodLink RX12 193 yX12_isOpened, .instanceMethod yX12_isOpened, .selects RX12 yX12_isOpened yX12_isOpened, .initialized RX12, .code yX12_isOpened cX12_isOpened 2 (some .boolean), .methodLink RX12 83 yX12_isIn, .static yX12_isIn, .code yX12_isIn cX12_isIn 3 (some .boolean)] := goodIn_r _ [142, 878, 879, 880, 5, 881, 403, 404, 405] (by decide +kernel) (by decide +kernel)
set_option maxRecDepth 20000 in
theorem ggL_law_X12_booked_c : GoodIn wsL_law [.code yX12_booked cX12_booked 4 (some .int)] := goodIn_r _ [877] (by decide +kernel) (by decide +kernel)
theorem ggL_law_X12_booked : GoodIn wsL_law wsX12_booked := goodIn_app (a := [.code yX12_booked cX12_booked 4 (some .int)]) ggL_law_X12_booked_c (goodIn_app ggL_law_X12_booked_0 gc_wsX120)
set_option maxRecDepth 20000 in
theorem gL_law_X12_booked : GoodIn wsL_law (wsV RL 78 RX12 yX12_booked wsX12_booked) := goodIn_app (goodIn_of _ (by decide +kernel)) ggL_law_X12_booked
set_option maxRecDepth 20000 in
theorem ggL_law_X11_line_0 : GoodIn wsL_law [.fieldLink RX11 26 "TwoTierStore" "state" "LTwoTierStore$State;", .fieldLink RX11 280 "TwoTierStore$State" "books" "[LTwoTierStore$Book;", .fieldLink RX11 291 "TwoTierStore$Book" "written" "I", .fieldLink RX11 309 "TwoTierStore$Book" "kinds" "[I", .fieldLink RX11 312 "TwoTierStore$Book" "items" "[I", .fieldLink RX11 315 "TwoTierStore$Book" "amounts" "[I"] := goodIn_r _ [23, 854, 868, 886, 887, 888] (by decide +kernel) (by decide +kernel)
set_option maxRecDepth 20000 in
theorem ggL_law_X11_line_c : GoodIn wsL_law [.code yX11_line cX11_line 4 (some .int)] := goodIn_r _ [885] (by decide +kernel) (by decide +kernel)
theorem ggL_law_X11_line : GoodIn wsL_law wsX11_line := goodIn_app (a := [.code yX11_line cX11_line 4 (some .int)]) ggL_law_X11_line_c (goodIn_app (goodIn_app (goodIn_app ggL_law_X11_line_0 gc_wsX110) gc_wsX90) gc_wsX00)
set_option maxRecDepth 20000 in
theorem gL_law_X11_line : GoodIn wsL_law (wsV RL 79 RX11 yX11_line wsX11_line) := goodIn_app (goodIn_of _ (by decide +kernel)) ggL_law_X11_line
set_option maxRecDepth 20000 in
theorem ggL_law_X12_line_0 : GoodIn wsL_law [.fieldLink RX12 7 "TwoTierStoreModel" "s" "[I", .methodLink RX12 193 yX12_isOpened, .instanceMethod yX12_isOpened, .selects RX12 yX12_isOpened yX12_isOpened, .initialized RX12, .code yX12_isOpened cX12_isOpened 2 (some .boolean), .methodLink RX12 83 yX12_isIn, .static yX12_isIn, .code yX12_isIn cX12_isIn 3 (some .boolean)] := goodIn_r _ [142, 878, 879, 880, 5, 881, 403, 404, 405] (by decide +kernel) (by decide +kernel)
set_option maxRecDepth 20000 in
theorem ggL_law_X12_line_c : GoodIn wsL_law [.code yX12_line cX12_line 4 (some .int)] := goodIn_r _ [892] (by decide +kernel) (by decide +kernel)
theorem ggL_law_X12_line : GoodIn wsL_law wsX12_line := goodIn_app (a := [.code yX12_line cX12_line 4 (some .int)]) ggL_law_X12_line_c (goodIn_app ggL_law_X12_line_0 gc_wsX120)
set_option maxRecDepth 20000 in
theorem gL_law_X12_line : GoodIn wsL_law (wsV RL 82 RX12 yX12_line wsX12_line) := goodIn_app (goodIn_of _ (by decide +kernel)) ggL_law_X12_line
set_option maxRecDepth 20000 in
theorem ggL_law_X11_best_0 : GoodIn wsL_law wsX11_best_r1 := goodIn_r _ [23, 472, 473, 897, 898, 899, 2, 900, 44, 466, 467, 901, 902, 903, 43, 904, 127, 905, 906, 907, 908, 909, 910, 911] (by decide +kernel) (by decide +kernel)
set_option maxRecDepth 20000 in
theorem ggL_law_X11_best_1 : GoodIn wsL_law wsX11_best_r2 := goodIn_r _ [912, 913, 914, 915, 916, 917, 918, 919, 124, 920, 125, 921, 126, 131, 922, 923, 924, 18, 925, 323, 926, 927, 928, 929] (by decide +kernel) (by decide +kernel)
set_option maxRecDepth 20000 in
theorem ggL_law_X11_best_2 : GoodIn wsL_law wsX11_best_r3 := goodIn_r _ [130, 930, 931, 932, 933, 934, 935, 936, 937, 938, 939, 940, 941, 942, 943, 944, 945, 946, 947, 948, 949, 950, 951, 952] (by decide +kernel) (by decide +kernel)
set_option maxRecDepth 20000 in
theorem ggL_law_X11_best_3 : GoodIn wsL_law wsX11_best_r4 := goodIn_r _ [953] (by decide +kernel) (by decide +kernel)
set_option maxRecDepth 20000 in
theorem ggL_law_X11_best_c : GoodIn wsL_law [.code yX11_best cX11_best 1 (some .int)] := goodIn_r _ [896] (by decide +kernel) (by decide +kernel)
theorem ggL_law_X11_best : GoodIn wsL_law wsX11_best := goodIn_app (a := [.code yX11_best cX11_best 1 (some .int)]) ggL_law_X11_best_c (goodIn_app (goodIn_app (goodIn_app (goodIn_app (goodIn_app (goodIn_app (goodIn_app ggL_law_X11_best_0 (goodIn_app ggL_law_X11_best_1 (goodIn_app ggL_law_X11_best_2 ggL_law_X11_best_3))) gc_wsX110) gc_wsX90) gc_wsX40) gc_wsX80) gc_wsX50) gc_wsX100)
set_option maxRecDepth 20000 in
theorem gL_law_X11_best : GoodIn wsL_law (wsV RL 83 RX11 yX11_best wsX11_best) := goodIn_app (goodIn_of _ (by decide +kernel)) ggL_law_X11_best
set_option maxRecDepth 20000 in
theorem ggL_law_X12_best_0 : GoodIn wsL_law wsX12_best_r1 := goodIn_r _ [142, 958, 959, 960, 5, 961, 962, 963, 964, 158, 156, 965, 966, 967, 968, 969, 488, 489, 490, 970, 971, 972, 973, 974] (by decide +kernel) (by decide +kernel)
set_option maxRecDepth 20000 in
theorem ggL_law_X12_best_1 : GoodIn wsL_law wsX12_best_r2 := goodIn_r _ [975, 976, 977, 978, 979, 980, 981, 982, 983, 984, 985, 986, 987, 988, 989] (by decide +kernel) (by decide +kernel)
set_option maxRecDepth 20000 in
theorem ggL_law_X12_best_c : GoodIn wsL_law [.code yX12_best cX12_best 1 (some .int)] := goodIn_r _ [957] (by decide +kernel) (by decide +kernel)
theorem ggL_law_X12_best : GoodIn wsL_law wsX12_best := goodIn_app (a := [.code yX12_best cX12_best 1 (some .int)]) ggL_law_X12_best_c (goodIn_app (goodIn_app ggL_law_X12_best_0 ggL_law_X12_best_1) gc_wsX120)
set_option maxRecDepth 20000 in
theorem gL_law_X12_best : GoodIn wsL_law (wsV RL 86 RX12 yX12_best wsX12_best) := goodIn_app (goodIn_of _ (by decide +kernel)) ggL_law_X12_best
set_option maxRecDepth 20000 in
theorem ggL_law_X11_plan_0 : GoodIn wsL_law wsX11_plan_r1 := goodIn_r _ [23, 472, 44, 994, 771, 772, 773, 77, 774, 526, 995, 996, 997, 2, 998, 466, 467, 901, 902, 903, 43, 904, 127, 905] (by decide +kernel) (by decide +kernel)
set_option maxRecDepth 20000 in
theorem ggL_law_X11_plan_1 : GoodIn wsL_law wsX11_plan_r2 := goodIn_r _ [906, 907, 908, 909, 910, 911, 912, 913, 914, 915, 916, 917, 918, 919, 124, 920, 125, 921, 126, 131, 922, 923, 924, 18] (by decide +kernel) (by decide +kernel)
set_option maxRecDepth 20000 in
theorem ggL_law_X11_plan_2 : GoodIn wsL_law wsX11_plan_r3 := goodIn_r _ [925, 323, 926, 927, 928, 929, 130, 930, 931, 932, 933, 934, 935, 936, 937, 938, 939, 940, 941, 942, 943, 944, 945, 999] (by decide +kernel) (by decide +kernel)
set_option maxRecDepth 20000 in
theorem ggL_law_X11_plan_3 : GoodIn wsL_law wsX11_plan_r4 := goodIn_r _ [1000, 1001, 1002, 128, 129, 950, 951, 952, 953, 1003, 1004, 1005, 1006, 1007, 1008, 1009, 1010, 1011, 1012, 1013, 1014] (by decide +kernel) (by decide +kernel)
set_option maxRecDepth 20000 in
theorem ggL_law_X11_plan_c : GoodIn wsL_law [.code yX11_plan cX11_plan 3 (some .int)] := goodIn_r _ [993] (by decide +kernel) (by decide +kernel)
theorem ggL_law_X11_plan : GoodIn wsL_law wsX11_plan := goodIn_app (a := [.code yX11_plan cX11_plan 3 (some .int)]) ggL_law_X11_plan_c (goodIn_app (goodIn_app (goodIn_app (goodIn_app (goodIn_app (goodIn_app (goodIn_app ggL_law_X11_plan_0 (goodIn_app ggL_law_X11_plan_1 (goodIn_app ggL_law_X11_plan_2 ggL_law_X11_plan_3))) gc_wsX110) gc_wsX90) gc_wsX50) gc_wsX40) gc_wsX80) gc_wsX100)
set_option maxRecDepth 20000 in
theorem gL_law_X11_plan : GoodIn wsL_law (wsV RL 87 RX11 yX11_plan wsX11_plan) := goodIn_app (goodIn_of _ (by decide +kernel)) ggL_law_X11_plan

set_option maxRecDepth 20000 in
theorem ggL_law_X11_init_0 : GoodIn wsL_law wsX11_init_r1 := goodIn_r _ [9, 10, 11, 12, 13, 14, 15, 16, 17, 18, 19, 20, 21, 22, 23, 24, 25, 26, 27, 28, 29, 30, 31, 32] (by decide +kernel) (by decide +kernel)
set_option maxRecDepth 20000 in
theorem ggL_law_X11_init_1 : GoodIn wsL_law wsX11_init_r2 := goodIn_r _ [33, 34, 35, 36, 37, 38, 39, 40, 41, 42, 43, 44, 45, 46, 47, 48, 49, 50, 51, 52, 53, 54, 55, 56] (by decide +kernel) (by decide +kernel)
set_option maxRecDepth 20000 in
theorem ggL_law_X11_init_2 : GoodIn wsL_law wsX11_init_r3 := goodIn_r _ [57, 58, 59, 60, 61, 62, 63, 64, 65, 66, 67, 68, 69, 70, 71, 72, 73, 74, 75, 76, 77, 78, 79, 80] (by decide +kernel) (by decide +kernel)
set_option maxRecDepth 20000 in
theorem ggL_law_X11_init_3 : GoodIn wsL_law wsX11_init_r4 := goodIn_r _ [81, 82, 83, 84, 85, 86, 87, 88, 89, 90, 91, 92, 93, 94, 95, 96, 97, 98, 99, 100, 101, 102, 103, 104] (by decide +kernel) (by decide +kernel)
set_option maxRecDepth 20000 in
theorem ggL_law_X11_init_4 : GoodIn wsL_law wsX11_init_r5 := goodIn_r _ [105, 106, 107, 108, 109, 110, 111, 112, 113, 114, 115, 116, 117, 118, 119, 120, 121, 122, 123, 124, 125, 126, 127, 128] (by decide +kernel) (by decide +kernel)
set_option maxRecDepth 20000 in
theorem ggL_law_X11_init_5 : GoodIn wsL_law wsX11_init_r6 := goodIn_r _ [129, 130, 131, 132, 133, 134, 135, 136, 137] (by decide +kernel) (by decide +kernel)
set_option maxRecDepth 20000 in
theorem ggL_law_X11_init_c : GoodIn wsL_law [.code yX11_init cX11_init 1 none] := goodIn_r _ [8] (by decide +kernel) (by decide +kernel)
theorem ggL_law_X11_init : GoodIn wsL_law wsX11_init := goodIn_app (a := [.code yX11_init cX11_init 1 none]) ggL_law_X11_init_c (goodIn_app (goodIn_app (goodIn_app (goodIn_app (goodIn_app (goodIn_app (goodIn_app (goodIn_app (goodIn_app (goodIn_app (goodIn_app (goodIn_app (goodIn_app ggL_law_X11_init_0 (goodIn_app ggL_law_X11_init_1 (goodIn_app ggL_law_X11_init_2 (goodIn_app ggL_law_X11_init_3 (goodIn_app ggL_law_X11_init_4 ggL_law_X11_init_5))))) gc_wsX60) gc_wsX110) gc_wsX100) gc_wsX90) gc_wsX30) gc_wsX20) gc_wsX10) gc_wsX80) gc_wsX50) gc_wsX70) gc_wsX40) gc_wsX00)
set_option maxRecDepth 20000 in
theorem gL_law_X11_init : GoodIn wsL_law (wsX11_init) := ggL_law_X11_init
set_option maxRecDepth 20000 in
theorem ggL_law_X12_init_0 : GoodIn wsL_law wsX12_init_r1 := goodIn_r _ [141, 10, 11, 51, 142, 143, 144, 145, 146, 147, 148, 149, 150, 151, 152, 153, 154, 155, 156, 157, 158, 159, 160, 161] (by decide +kernel) (by decide +kernel)
set_option maxRecDepth 20000 in
theorem ggL_law_X12_init_1 : GoodIn wsL_law wsX12_init_r2 := goodIn_r _ [162, 163, 164] (by decide +kernel) (by decide +kernel)
set_option maxRecDepth 20000 in
theorem ggL_law_X12_init_c : GoodIn wsL_law [.code yX12_init cX12_init 1 none] := goodIn_r _ [140] (by decide +kernel) (by decide +kernel)
theorem ggL_law_X12_init : GoodIn wsL_law wsX12_init := goodIn_app (a := [.code yX12_init cX12_init 1 none]) ggL_law_X12_init_c (goodIn_app (goodIn_app ggL_law_X12_init_0 ggL_law_X12_init_1) gc_wsX120)
set_option maxRecDepth 20000 in
theorem gL_law_X12_init : GoodIn wsL_law (wsX12_init) := ggL_law_X12_init
set_option maxRecDepth 20000 in
theorem ggL_law_X11_feed_0 : GoodIn wsL_law [.fieldLink RX11 10 "TwoTierStore" "reader" "LTwoTierStore$Reader;", .fieldLink RX11 96 "TwoTierStore$Reader" "length" "I", .methodLink RX11 88 yX6_hasPlaceFor, .instanceMethod yX6_hasPlaceFor, .selects RX6 yX6_hasPlaceFor yX6_hasPlaceFor, .initialized RX6, .code yX6_hasPlaceFor cX6_hasPlaceFor 2 (some .boolean), .fieldLink RX6 24 "TwoTierStore$Reader" "length" "I", .methodLink RX11 92 yX6_addNumber, .instanceMethod yX6_addNumber, .selects RX6 yX6_addNumber yX6_addNumber, .code yX6_addNumber cX6_addNumber 3 none, .fieldLink RX6 11 "TwoTierStore$Reader" "tape" "[I"] := goodIn_r _ [15, 169, 170, 171, 172, 14, 173, 174, 175, 176, 177, 178, 56] (by decide +kernel) (by decide +kernel)
set_option maxRecDepth 20000 in
theorem ggL_law_X11_feed_c : GoodIn wsL_law [.code yX11_feed cX11_feed 6 (some .int)] := goodIn_r _ [168] (by decide +kernel) (by decide +kernel)
theorem ggL_law_X11_feed : GoodIn wsL_law wsX11_feed := goodIn_app (a := [.code yX11_feed cX11_feed 6 (some .int)]) ggL_law_X11_feed_c (goodIn_app (goodIn_app ggL_law_X11_feed_0 gc_wsX110) gc_wsX60)
set_option maxRecDepth 20000 in
theorem gL_law_X11_feed : GoodIn wsL_law (wsV RL 13 RX11 yX11_feed wsX11_feed) := goodIn_app (goodIn_of _ (by decide +kernel)) ggL_law_X11_feed
set_option maxRecDepth 20000 in
theorem ggL_law_X12_feed_0 : GoodIn wsL_law [.fieldLink RX12 75 "TwoTierStoreModel" "length" "I", .methodLink RX12 79 yX12_four, .instanceMethod yX12_four, .selects RX12 yX12_four yX12_four, .initialized RX12, .code yX12_four cX12_four 3 none, .fieldLink RX12 26 "TwoTierStoreModel" "tape" "[B"] := goodIn_r _ [183, 184, 185, 186, 5, 187, 149] (by decide +kernel) (by decide +kernel)
set_option maxRecDepth 20000 in
theorem ggL_law_X12_feed_c : GoodIn wsL_law [.code yX12_feed cX12_feed 6 (some .int)] := goodIn_r _ [182] (by decide +kernel) (by decide +kernel)
theorem ggL_law_X12_feed : GoodIn wsL_law wsX12_feed := goodIn_app (a := [.code yX12_feed cX12_feed 6 (some .int)]) ggL_law_X12_feed_c (goodIn_app ggL_law_X12_feed_0 gc_wsX120)
set_option maxRecDepth 20000 in
theorem gL_law_X12_feed : GoodIn wsL_law (wsV RL 17 RX12 yX12_feed wsX12_feed) := goodIn_app (goodIn_of _ (by decide +kernel)) ggL_law_X12_feed
set_option maxRecDepth 20000 in
theorem ggL_law_X11_end_0 : GoodIn wsL_law [.fieldLink RX11 10 "TwoTierStore" "reader" "LTwoTierStore$Reader;", .fieldLink RX11 96 "TwoTierStore$Reader" "length" "I"] := goodIn_r _ [15, 169] (by decide +kernel) (by decide +kernel)
set_option maxRecDepth 20000 in
theorem ggL_law_X11_end_c : GoodIn wsL_law [.code yX11_end cX11_end 2 (some .boolean)] := goodIn_r _ [191] (by decide +kernel) (by decide +kernel)
theorem ggL_law_X11_end : GoodIn wsL_law wsX11_end := goodIn_app (a := [.code yX11_end cX11_end 2 (some .boolean)]) ggL_law_X11_end_c (goodIn_app (goodIn_app ggL_law_X11_end_0 gc_wsX110) gc_wsX60)
set_option maxRecDepth 20000 in
theorem gL_law_X11_end : GoodIn wsL_law (wsV RL 18 RX11 yX11_end wsX11_end) := goodIn_app (goodIn_of _ (by decide +kernel)) ggL_law_X11_end
set_option maxRecDepth 20000 in
theorem ggL_law_X12_end_0 : GoodIn wsL_law [.fieldLink RX12 75 "TwoTierStoreModel" "length" "I"] := goodIn_r _ [183] (by decide +kernel) (by decide +kernel)
set_option maxRecDepth 20000 in
theorem ggL_law_X12_end_c : GoodIn wsL_law [.code yX12_end cX12_end 2 (some .boolean)] := goodIn_r _ [195] (by decide +kernel) (by decide +kernel)
theorem ggL_law_X12_end : GoodIn wsL_law wsX12_end := goodIn_app (a := [.code yX12_end cX12_end 2 (some .boolean)]) ggL_law_X12_end_c (goodIn_app ggL_law_X12_end_0 gc_wsX120)
set_option maxRecDepth 20000 in
theorem gL_law_X12_end : GoodIn wsL_law (wsV RL 22 RX12 yX12_end wsX12_end) := goodIn_app (goodIn_of _ (by decide +kernel)) ggL_law_X12_end
set_option maxRecDepth 20000 in
theorem ggL_law_X11_store_0 : GoodIn wsL_law wsX11_store_r1 := goodIn_r _ [15, 19, 169, 200, 23, 201, 202, 27, 44, 203, 204, 205, 206, 14, 207, 208, 209, 210, 211, 212, 213, 214, 215, 216] (by decide +kernel) (by decide +kernel)
set_option maxRecDepth 20000 in
theorem ggL_law_X11_store_1 : GoodIn wsL_law wsX11_store_r2 := goodIn_r _ [217, 218, 219, 174, 220, 221, 222, 223, 224, 225, 226, 227, 228, 229, 56, 230, 231, 232, 233, 234, 235, 236, 237, 238] (by decide +kernel) (by decide +kernel)
set_option maxRecDepth 20000 in
theorem ggL_law_X11_store_2 : GoodIn wsL_law wsX11_store_r3 := goodIn_r _ [239, 240, 241, 242, 243, 244, 245, 246, 247, 248, 249, 250, 251, 252, 253, 254, 255, 256, 257, 258, 259, 260, 261, 262] (by decide +kernel) (by decide +kernel)
set_option maxRecDepth 20000 in
theorem ggL_law_X11_store_3 : GoodIn wsL_law wsX11_store_r4 := goodIn_r _ [263, 264, 265, 266, 267, 268, 269, 270, 271, 272, 273, 274, 275, 276, 277, 278, 279, 280, 281, 282, 283, 284, 285, 286] (by decide +kernel) (by decide +kernel)
set_option maxRecDepth 20000 in
theorem ggL_law_X11_store_4 : GoodIn wsL_law wsX11_store_r5 := goodIn_r _ [287, 288, 289, 290, 291, 292, 293, 294, 295, 296, 297, 298, 299, 300, 301, 302, 303, 304, 305, 306, 307, 308, 309, 310] (by decide +kernel) (by decide +kernel)
set_option maxRecDepth 20000 in
theorem ggL_law_X11_store_5 : GoodIn wsL_law wsX11_store_r6 := goodIn_r _ [311, 312, 313, 314, 315, 316, 317, 318, 319, 320, 321, 18, 322, 323, 66, 324, 325, 326, 327, 328, 329, 330, 22, 331] (by decide +kernel) (by decide +kernel)
set_option maxRecDepth 20000 in
theorem ggL_law_X11_store_6 : GoodIn wsL_law wsX11_store_r7 := goodIn_r _ [72, 74, 78, 332, 333, 334, 335, 80, 336, 337, 338, 339, 63, 340, 341, 342, 343, 64, 65, 344, 345, 346, 39, 347] (by decide +kernel) (by decide +kernel)
set_option maxRecDepth 20000 in
theorem ggL_law_X11_store_7 : GoodIn wsL_law wsX11_store_r8 := goodIn_r _ [86, 87, 348, 349, 88, 89, 91, 350, 351, 352, 82, 353, 354, 355, 356, 357, 358, 26, 359, 360, 361, 362, 363, 43] (by decide +kernel) (by decide +kernel)
set_option maxRecDepth 20000 in
theorem ggL_law_X11_store_8 : GoodIn wsL_law wsX11_store_r9 := goodIn_r _ [364, 127, 128] (by decide +kernel) (by decide +kernel)
set_option maxRecDepth 20000 in
theorem ggL_law_X11_store_c : GoodIn wsL_law [.code yX11_store cX11_store 2 (some .int)] := goodIn_r _ [199] (by decide +kernel) (by decide +kernel)
theorem ggL_law_X11_store : GoodIn wsL_law wsX11_store := goodIn_app (a := [.code yX11_store cX11_store 2 (some .int)]) ggL_law_X11_store_c (goodIn_app (goodIn_app (goodIn_app (goodIn_app (goodIn_app (goodIn_app (goodIn_app (goodIn_app (goodIn_app (goodIn_app ggL_law_X11_store_0 (goodIn_app ggL_law_X11_store_1 (goodIn_app ggL_law_X11_store_2 (goodIn_app ggL_law_X11_store_3 (goodIn_app ggL_law_X11_store_4 (goodIn_app ggL_law_X11_store_5 (goodIn_app ggL_law_X11_store_6 (goodIn_app ggL_law_X11_store_7 ggL_law_X11_store_8)))))))) gc_wsX110) gc_wsX60) gc_wsX100) gc_wsX90) gc_wsX40) gc_wsX80) gc_wsX00) gc_wsX30) gc_wsX50)
set_option maxRecDepth 20000 in
theorem gL_law_X11_store : GoodIn wsL_law (wsV RL 23 RX11 yX11_store wsX11_store) := goodIn_app (goodIn_of _ (by decide +kernel)) ggL_law_X11_store
set_option maxRecDepth 20000 in
theorem ggL_law_X12_store_0 : GoodIn wsL_law wsX12_store_r1 := goodIn_r _ [369, 145, 142, 370, 371, 372, 373, 5, 374, 375, 376, 377, 378, 379, 380, 381, 183, 382, 383, 384, 385, 386, 387, 388] (by decide +kernel) (by decide +kernel)
set_option maxRecDepth 20000 in
theorem ggL_law_X12_store_1 : GoodIn wsL_law wsX12_store_r2 := goodIn_r _ [389, 390, 391, 392, 393, 394, 150, 395, 396, 397, 398, 399, 149, 400, 401, 402, 403, 404, 405, 406, 407, 408, 409, 410] (by decide +kernel) (by decide +kernel)
set_option maxRecDepth 20000 in
theorem ggL_law_X12_store_2 : GoodIn wsL_law wsX12_store_r3 := goodIn_r _ [411, 412, 413, 414, 415, 416, 417, 418, 419, 420, 421, 422, 423, 424, 425, 426, 427, 428, 429, 430, 431, 432, 433, 434] (by decide +kernel) (by decide +kernel)
set_option maxRecDepth 20000 in
theorem ggL_law_X12_store_3 : GoodIn wsL_law wsX12_store_r4 := goodIn_r _ [435, 436, 437, 438, 439, 440, 441, 442, 443, 444, 445, 446, 447, 448, 449, 450, 451, 452] (by decide +kernel) (by decide +kernel)
set_option maxRecDepth 20000 in
theorem ggL_law_X12_store_c : GoodIn wsL_law [.code yX12_store cX12_store 1 (some .int)] := goodIn_r _ [368] (by decide +kernel) (by decide +kernel)
theorem ggL_law_X12_store : GoodIn wsL_law wsX12_store := goodIn_app (a := [.code yX12_store cX12_store 1 (some .int)]) ggL_law_X12_store_c (goodIn_app (goodIn_app ggL_law_X12_store_0 (goodIn_app ggL_law_X12_store_1 (goodIn_app ggL_law_X12_store_2 ggL_law_X12_store_3))) gc_wsX120)
set_option maxRecDepth 20000 in
theorem gL_law_X12_store : GoodIn wsL_law (wsV RL 27 RX12 yX12_store wsX12_store) := goodIn_app (goodIn_of _ (by decide +kernel)) ggL_law_X12_store
set_option maxRecDepth 20000 in
theorem ggL_law_X11_fault_0 : GoodIn wsL_law [.fieldLink RX11 10 "TwoTierStore" "reader" "LTwoTierStore$Reader;", .fieldLink RX11 124 "TwoTierStore$Reader" "faultKind" "I"] := goodIn_r _ [15, 457] (by decide +kernel) (by decide +kernel)
set_option maxRecDepth 20000 in
theorem ggL_law_X11_fault_c : GoodIn wsL_law [.code yX11_fault cX11_fault 1 (some .int)] := goodIn_r _ [456] (by decide +kernel) (by decide +kernel)
theorem ggL_law_X11_fault : GoodIn wsL_law wsX11_fault := goodIn_app (a := [.code yX11_fault cX11_fault 1 (some .int)]) ggL_law_X11_fault_c (goodIn_app (goodIn_app ggL_law_X11_fault_0 gc_wsX110) gc_wsX60)
set_option maxRecDepth 20000 in
theorem gL_law_X11_fault : GoodIn wsL_law (wsV RL 28 RX11 yX11_fault wsX11_fault) := goodIn_app (goodIn_of _ (by decide +kernel)) ggL_law_X11_fault
set_option maxRecDepth 20000 in
theorem ggL_law_X12_fault_0 : GoodIn wsL_law [.fieldLink RX12 93 "TwoTierStoreModel" "fault" "I"] := goodIn_r _ [383] (by decide +kernel) (by decide +kernel)
set_option maxRecDepth 20000 in
theorem ggL_law_X12_fault_c : GoodIn wsL_law [.code yX12_fault cX12_fault 1 (some .int)] := goodIn_r _ [461] (by decide +kernel) (by decide +kernel)
theorem ggL_law_X12_fault : GoodIn wsL_law wsX12_fault := goodIn_app (a := [.code yX12_fault cX12_fault 1 (some .int)]) ggL_law_X12_fault_c (goodIn_app ggL_law_X12_fault_0 gc_wsX120)
set_option maxRecDepth 20000 in
theorem gL_law_X12_fault : GoodIn wsL_law (wsV RL 31 RX12 yX12_fault wsX12_fault) := goodIn_app (goodIn_of _ (by decide +kernel)) ggL_law_X12_fault
set_option maxRecDepth 20000 in
theorem ggL_law_X11_now_0 : GoodIn wsL_law [.fieldLink RX11 26 "TwoTierStore" "state" "LTwoTierStore$State;", .fieldLink RX11 160 "TwoTierStore$State" "shelf" "LTwoTierStore$Shelf;", .fieldLink RX11 163 "TwoTierStore$Shelf" "room" "I", .fieldLink RX11 164 "TwoTierStore$Shelf" "rule" "I", .fieldLink RX11 127 "TwoTierStore$State" "wares" "LTwoTierStore$Wares;", .fieldLink RX11 121 "TwoTierStore$Wares" "count" "I", .fieldLink RX11 165 "TwoTierStore$Shelf" "fast" "I", .fieldLink RX11 172 "TwoTierStore$State" "paid" "I", .fieldLink RX11 143 "TwoTierStore$State" "log" "LTwoTierStore$Log;", .fieldLink RX11 175 "TwoTierStore$Log" "count" "I", .fieldLink RX11 10 "TwoTierStore" "reader" "LTwoTierStore$Reader;", .fieldLink RX11 96 "TwoTierStore$Reader" "length" "I", .fieldLink RX11 176 "TwoTierStore$State" "downs" "I", .fieldLink RX11 179 "TwoTierStore$State" "ups" "I", .methodLink RX11 168 yX8_free, .instanceMethod yX8_free, .selects RX8 yX8_free yX8_free, .initialized RX8, .code yX8_free cX8_free 1 (some .int), .fieldLink RX8 9 "TwoTierStore$Shelf" "room" "I", .fieldLink RX8 32 "TwoTierStore$Shelf" "used" "I"] := goodIn_r _ [23, 466, 467, 468, 469, 203, 470, 471, 472, 473, 15, 169, 474, 475, 476, 477, 478, 39, 479, 86, 349] (by decide +kernel) (by decide +kernel)
set_option maxRecDepth 20000 in
theorem ggL_law_X11_now_c : GoodIn wsL_law [.code yX11_now cX11_now 2 (some .int)] := goodIn_r _ [465] (by decide +kernel) (by decide +kernel)
theorem ggL_law_X11_now : GoodIn wsL_law wsX11_now := goodIn_app (a := [.code yX11_now cX11_now 2 (some .int)]) ggL_law_X11_now_c (goodIn_app (goodIn_app (goodIn_app (goodIn_app (goodIn_app (goodIn_app ggL_law_X11_now_0 gc_wsX110) gc_wsX90) gc_wsX80) gc_wsX100) gc_wsX40) gc_wsX60)
set_option maxRecDepth 20000 in
theorem gL_law_X11_now : GoodIn wsL_law (wsV RL 32 RX11 yX11_now wsX11_now) := goodIn_app (goodIn_of _ (by decide +kernel)) ggL_law_X11_now
set_option maxRecDepth 20000 in
theorem ggL_law_X12_now_0 : GoodIn wsL_law [.fieldLink RX12 7 "TwoTierStoreModel" "s" "[I", .fieldLink RX12 75 "TwoTierStoreModel" "length" "I", .methodLink RX12 206 yX12_lies, .instanceMethod yX12_lies, .selects RX12 yX12_lies yX12_lies, .initialized RX12, .code yX12_lies cX12_lies 3 (some .int), .methodLink RX12 196 yX12_bitOf, .static yX12_bitOf, .code yX12_bitOf cX12_bitOf 2 (some .boolean)] := goodIn_r _ [142, 183, 484, 485, 486, 5, 487, 488, 489, 490] (by decide +kernel) (by decide +kernel)
set_option maxRecDepth 20000 in
theorem ggL_law_X12_now_c : GoodIn wsL_law [.code yX12_now cX12_now 2 (some .int)] := goodIn_r _ [483] (by decide +kernel) (by decide +kernel)
theorem ggL_law_X12_now : GoodIn wsL_law wsX12_now := goodIn_app (a := [.code yX12_now cX12_now 2 (some .int)]) ggL_law_X12_now_c (goodIn_app ggL_law_X12_now_0 gc_wsX120)
set_option maxRecDepth 20000 in
theorem gL_law_X12_now : GoodIn wsL_law (wsV RL 36 RX12 yX12_now wsX12_now) := goodIn_app (goodIn_of _ (by decide +kernel)) ggL_law_X12_now
set_option maxRecDepth 20000 in
theorem ggL_law_X11_item_0 : GoodIn wsL_law [.fieldLink RX11 26 "TwoTierStore" "state" "LTwoTierStore$State;", .fieldLink RX11 127 "TwoTierStore$State" "wares" "LTwoTierStore$Wares;", .fieldLink RX11 185 "TwoTierStore$Wares" "size" "[I", .fieldLink RX11 188 "TwoTierStore$Wares" "price" "[I", .fieldLink RX11 191 "TwoTierStore$Wares" "rent" "[I", .fieldLink RX11 160 "TwoTierStore$State" "shelf" "LTwoTierStore$Shelf;", .fieldLink RX11 194 "TwoTierStore$Shelf" "density" "[I", .fieldLink RX11 197 "TwoTierStore$Shelf" "counter" "[I", .fieldLink RX11 200 "TwoTierStore$Shelf" "heat" "[F", .methodLink RX11 182 yX10_has, .instanceMethod yX10_has, .selects RX10 yX10_has yX10_has, .initialized RX10, .code yX10_has cX10_has 2 (some .boolean), .fieldLink RX10 24 "TwoTierStore$Wares" "count" "I", .methodLink RX11 204 yX11_floatBits, .static yX11_floatBits, .initialized RX11, .code yX11_floatBits cX11_floatBits 4 (some .int), .constantFloat RX11 377 (1258291200), .constant RX11 378 (8388608)] := goodIn_r _ [23, 469, 495, 496, 497, 466, 498, 499, 500, 501, 502, 503, 18, 504, 323, 505, 506, 2, 507, 508, 509] (by decide +kernel) (by decide +kernel)
set_option maxRecDepth 20000 in
theorem ggL_law_X11_item_c : GoodIn wsL_law [.code yX11_item cX11_item 3 (some .int)] := goodIn_r _ [494] (by decide +kernel) (by decide +kernel)
theorem ggL_law_X11_item : GoodIn wsL_law wsX11_item := goodIn_app (a := [.code yX11_item cX11_item 3 (some .int)]) ggL_law_X11_item_c (goodIn_app (goodIn_app (goodIn_app (goodIn_app ggL_law_X11_item_0 gc_wsX110) gc_wsX90) gc_wsX100) gc_wsX80)
set_option maxRecDepth 20000 in
theorem gL_law_X11_item : GoodIn wsL_law (wsV RL 37 RX11 yX11_item wsX11_item) := goodIn_app (goodIn_of _ (by decide +kernel)) ggL_law_X11_item
set_option maxRecDepth 20000 in
theorem ggL_law_X12_item__0 : GoodIn wsL_law [.fieldLink RX12 7 "TwoTierStoreModel" "s" "[I", .methodLink RX12 242 yX12_isItem, .instanceMethod yX12_isItem, .selects RX12 yX12_isItem yX12_isItem, .initialized RX12, .code yX12_isItem cX12_isItem 2 (some .boolean), .methodLink RX12 83 yX12_isIn, .static yX12_isIn, .code yX12_isIn cX12_isIn 3 (some .boolean)] := goodIn_r _ [142, 514, 515, 516, 5, 517, 403, 404, 405] (by decide +kernel) (by decide +kernel)
set_option maxRecDepth 20000 in
theorem ggL_law_X12_item__c : GoodIn wsL_law [.code yX12_item_ cX12_item_ 3 (some .int)] := goodIn_r _ [513] (by decide +kernel) (by decide +kernel)
theorem ggL_law_X12_item_ : GoodIn wsL_law wsX12_item_ := goodIn_app (a := [.code yX12_item_ cX12_item_ 3 (some .int)]) ggL_law_X12_item__c (goodIn_app ggL_law_X12_item__0 gc_wsX120)
set_option maxRecDepth 20000 in
theorem gL_law_X12_item_ : GoodIn wsL_law (wsV RL 41 RX12 yX12_item_ wsX12_item_) := goodIn_app (goodIn_of _ (by decide +kernel)) ggL_law_X12_item_
set_option maxRecDepth 20000 in
theorem ggL_law_X11_request_0 : GoodIn wsL_law wsX11_request_r1 := goodIn_r _ [23, 469, 472, 27, 32, 36, 501, 502, 503, 18, 504, 323, 522, 523, 524, 77, 525, 526, 527, 528, 529, 26, 530, 360] (by decide +kernel) (by decide +kernel)
set_option maxRecDepth 20000 in
theorem ggL_law_X11_request_1 : GoodIn wsL_law wsX11_request_r2 := goodIn_r _ [531, 109, 108, 21, 22, 532, 533, 534, 535, 536, 68, 69, 70, 10, 11, 71, 17, 72, 73, 38, 39, 74, 75, 76] (by decide +kernel) (by decide +kernel)
set_option maxRecDepth 20000 in
theorem ggL_law_X11_request_2 : GoodIn wsL_law wsX11_request_r3 := goodIn_r _ [78, 79, 80, 81, 82, 60, 61, 62, 51, 63, 64, 65, 66, 83, 84, 85, 86, 87, 88, 89, 90, 91, 92, 93] (by decide +kernel) (by decide +kernel)
set_option maxRecDepth 20000 in
theorem ggL_law_X11_request_3 : GoodIn wsL_law wsX11_request_r4 := goodIn_r _ [94, 95, 96, 97, 98, 99, 100, 101, 102, 103, 104, 537, 538, 539, 540, 333, 334, 335, 336, 337, 338, 339, 340, 341] (by decide +kernel) (by decide +kernel)
set_option maxRecDepth 20000 in
theorem ggL_law_X11_request_4 : GoodIn wsL_law wsX11_request_r5 := goodIn_r _ [342, 343, 541, 542, 543, 544, 348, 349, 545, 546, 547, 548, 549, 550, 551, 552, 553, 554, 354, 555, 556, 355, 557, 558] (by decide +kernel) (by decide +kernel)
set_option maxRecDepth 20000 in
theorem ggL_law_X11_request_5 : GoodIn wsL_law wsX11_request_r6 := goodIn_r _ [559, 560, 561, 562, 563, 31, 564, 565, 566, 567, 568, 569, 570, 571, 572, 573, 574, 575, 576, 577, 578, 579, 580, 581] (by decide +kernel) (by decide +kernel)
set_option maxRecDepth 20000 in
theorem ggL_law_X11_request_6 : GoodIn wsL_law wsX11_request_r7 := goodIn_r _ [582, 583, 584, 585, 586, 587, 588, 589, 590, 591, 592, 593, 35, 594, 595, 117, 118, 119, 596, 597, 598, 599, 600, 601] (by decide +kernel) (by decide +kernel)
set_option maxRecDepth 20000 in
theorem ggL_law_X11_request_7 : GoodIn wsL_law wsX11_request_r8 := goodIn_r _ [602, 603, 604, 477, 478, 479, 605, 606, 607, 608, 609, 610, 611, 612, 613, 614, 615, 616, 617, 618, 619, 620, 621, 622] (by decide +kernel) (by decide +kernel)
set_option maxRecDepth 20000 in
theorem ggL_law_X11_request_8 : GoodIn wsL_law wsX11_request_r9 := goodIn_r _ [623, 624, 625, 626, 627, 628, 629, 630, 631, 632, 633, 634, 635, 636, 637, 638, 639, 640, 113, 641, 642, 643, 644, 645] (by decide +kernel) (by decide +kernel)
set_option maxRecDepth 20000 in
theorem ggL_law_X11_request_9 : GoodIn wsL_law wsX11_request_r10 := goodIn_r _ [646, 647, 648] (by decide +kernel) (by decide +kernel)
set_option maxRecDepth 20000 in
theorem ggL_law_X11_request_c : GoodIn wsL_law [.code yX11_request cX11_request 2 (some .int)] := goodIn_r _ [521] (by decide +kernel) (by decide +kernel)
theorem ggL_law_X11_request : GoodIn wsL_law wsX11_request := goodIn_app (a := [.code yX11_request cX11_request 2 (some .int)]) ggL_law_X11_request_c (goodIn_app (goodIn_app (goodIn_app (goodIn_app (goodIn_app (goodIn_app (goodIn_app (goodIn_app (goodIn_app (goodIn_app ggL_law_X11_request_0 (goodIn_app ggL_law_X11_request_1 (goodIn_app ggL_law_X11_request_2 (goodIn_app ggL_law_X11_request_3 (goodIn_app ggL_law_X11_request_4 (goodIn_app ggL_law_X11_request_5 (goodIn_app ggL_law_X11_request_6 (goodIn_app ggL_law_X11_request_7 (goodIn_app ggL_law_X11_request_8 ggL_law_X11_request_9))))))))) gc_wsX110) gc_wsX90) gc_wsX100) gc_wsX40) gc_wsX30) gc_wsX80) gc_wsX00) gc_wsX20) gc_wsX10)
set_option maxRecDepth 20000 in
theorem gL_law_X11_request : GoodIn wsL_law (wsV RL 42 RX11 yX11_request wsX11_request) := goodIn_app (goodIn_of _ (by decide +kernel)) ggL_law_X11_request
set_option maxRecDepth 20000 in
theorem ggL_law_X12_request_0 : GoodIn wsL_law wsX12_request_r1 := goodIn_r _ [142, 514, 515, 516, 5, 517, 403, 404, 405, 653, 654, 655, 656, 657, 658, 659, 660, 661, 370, 144, 450, 451, 452, 662] (by decide +kernel) (by decide +kernel)
set_option maxRecDepth 20000 in
theorem ggL_law_X12_request_1 : GoodIn wsL_law wsX12_request_r2 := goodIn_r _ [663, 664, 665, 666, 667, 668, 669, 670, 671, 672, 673, 674, 675, 676, 677, 678, 679, 680, 681, 682, 683, 684, 685, 686] (by decide +kernel) (by decide +kernel)
set_option maxRecDepth 20000 in
theorem ggL_law_X12_request_2 : GoodIn wsL_law wsX12_request_r3 := goodIn_r _ [687, 688, 689, 488, 489, 490, 690, 691, 692, 693, 694, 695, 696, 697, 698, 699, 700, 701, 702, 703, 704, 484, 485, 486] (by decide +kernel) (by decide +kernel)
set_option maxRecDepth 20000 in
theorem ggL_law_X12_request_3 : GoodIn wsL_law wsX12_request_r4 := goodIn_r _ [487, 705, 706, 707, 708, 709, 710, 711, 712, 713, 714, 715, 716, 717, 151, 718, 719, 720, 721] (by decide +kernel) (by decide +kernel)
set_option maxRecDepth 20000 in
theorem ggL_law_X12_request_c : GoodIn wsL_law [.code yX12_request cX12_request 2 (some .int)] := goodIn_r _ [652] (by decide +kernel) (by decide +kernel)
theorem ggL_law_X12_request : GoodIn wsL_law wsX12_request := goodIn_app (a := [.code yX12_request cX12_request 2 (some .int)]) ggL_law_X12_request_c (goodIn_app (goodIn_app ggL_law_X12_request_0 (goodIn_app ggL_law_X12_request_1 (goodIn_app ggL_law_X12_request_2 ggL_law_X12_request_3))) gc_wsX120)
set_option maxRecDepth 20000 in
theorem gL_law_X12_request : GoodIn wsL_law (wsV RL 45 RX12 yX12_request wsX12_request) := goodIn_app (goodIn_of _ (by decide +kernel)) ggL_law_X12_request
set_option maxRecDepth 20000 in
theorem ggL_law_X11_names_0 : GoodIn wsL_law wsX11_names_r1 := goodIn_r _ [15, 23, 469, 169, 200, 27, 32, 726, 472, 727, 36, 728, 729, 730, 14, 731, 732, 733, 213, 214, 215, 216, 217, 218] (by decide +kernel) (by decide +kernel)
set_option maxRecDepth 20000 in
theorem ggL_law_X11_names_1 : GoodIn wsL_law wsX11_names_r2 := goodIn_r _ [219, 174, 220, 221, 222, 223, 224, 225, 226, 227, 228, 229, 56, 230, 231, 232, 233, 234, 235, 236, 237, 734, 735, 736] (by decide +kernel) (by decide +kernel)
set_option maxRecDepth 20000 in
theorem ggL_law_X11_names_2 : GoodIn wsL_law wsX11_names_r3 := goodIn_r _ [737, 242, 243, 244, 245, 246, 247, 248, 249, 250, 251, 252, 253, 254, 255, 256, 257, 258, 259, 260, 261, 262, 263, 264] (by decide +kernel) (by decide +kernel)
set_option maxRecDepth 20000 in
theorem ggL_law_X11_names_3 : GoodIn wsL_law wsX11_names_r4 := goodIn_r _ [265, 266, 267, 268, 269, 270, 271, 272, 273, 274, 275, 276, 277, 278, 279, 280, 281, 282, 283, 284, 285, 286, 287, 288] (by decide +kernel) (by decide +kernel)
set_option maxRecDepth 20000 in
theorem ggL_law_X11_names_4 : GoodIn wsL_law wsX11_names_r5 := goodIn_r _ [289, 290, 291, 292, 293, 294, 738, 739, 740, 741, 58, 59, 299, 300, 301, 302, 324, 325, 326, 327, 742, 743, 744, 745] (by decide +kernel) (by decide +kernel)
set_option maxRecDepth 20000 in
theorem ggL_law_X11_names_5 : GoodIn wsL_law wsX11_names_r6 := goodIn_r _ [57, 746, 747, 748, 749, 315, 316, 317, 318, 319, 320, 321, 18, 322, 323, 66, 527, 528, 529, 26, 530, 360, 531, 109] (by decide +kernel) (by decide +kernel)
set_option maxRecDepth 20000 in
theorem ggL_law_X11_names_6 : GoodIn wsL_law wsX11_names_r7 := goodIn_r _ [108, 21, 22, 532, 533, 534, 535, 536, 68, 69, 70, 10, 11, 71, 17, 72, 73, 38, 39, 74, 75, 76, 77, 78] (by decide +kernel) (by decide +kernel)
set_option maxRecDepth 20000 in
theorem ggL_law_X11_names_7 : GoodIn wsL_law wsX11_names_r8 := goodIn_r _ [79, 80, 81, 82, 60, 61, 62, 51, 63, 64, 65, 83, 84, 85, 86, 87, 88, 89, 90, 91, 92, 93, 94, 95] (by decide +kernel) (by decide +kernel)
set_option maxRecDepth 20000 in
theorem ggL_law_X11_names_8 : GoodIn wsL_law wsX11_names_r9 := goodIn_r _ [96, 97, 98, 99, 100, 101, 102, 103, 104, 537, 538, 539, 540, 333, 334, 335, 336, 337, 338, 339, 340, 341, 342, 343] (by decide +kernel) (by decide +kernel)
set_option maxRecDepth 20000 in
theorem ggL_law_X11_names_9 : GoodIn wsL_law wsX11_names_r10 := goodIn_r _ [541, 542, 543, 544, 348, 349, 545, 546, 547, 548, 549, 526, 550, 551, 552, 553, 554, 354, 555, 556, 355, 557, 558, 559] (by decide +kernel) (by decide +kernel)
set_option maxRecDepth 20000 in
theorem ggL_law_X11_names_10 : GoodIn wsL_law wsX11_names_r11 := goodIn_r _ [560, 561, 562, 563, 31, 564, 565, 522, 523, 524, 525, 566, 567, 568, 569, 570, 571, 572, 573, 574, 575, 576, 577, 578] (by decide +kernel) (by decide +kernel)
set_option maxRecDepth 20000 in
theorem ggL_law_X11_names_11 : GoodIn wsL_law wsX11_names_r12 := goodIn_r _ [579, 580, 581, 582, 583, 584, 585, 586, 587, 588, 589, 590, 591, 592, 593, 35, 594, 595, 117, 118, 119, 596, 597, 598] (by decide +kernel) (by decide +kernel)
set_option maxRecDepth 20000 in
theorem ggL_law_X11_names_12 : GoodIn wsL_law wsX11_names_r13 := goodIn_r _ [599, 600, 601, 602, 603, 604, 477, 478, 479, 605, 606, 607, 608, 609, 610, 611, 612, 613, 614, 615, 616, 617, 618, 619] (by decide +kernel) (by decide +kernel)
set_option maxRecDepth 20000 in
theorem ggL_law_X11_names_13 : GoodIn wsL_law wsX11_names_r14 := goodIn_r _ [620, 621, 622, 623, 624, 625, 626, 627, 628, 629, 630, 631, 632, 633, 634, 635, 636, 637, 638, 639, 640, 113, 641, 642] (by decide +kernel) (by decide +kernel)
set_option maxRecDepth 20000 in
theorem ggL_law_X11_names_14 : GoodIn wsL_law wsX11_names_r15 := goodIn_r _ [643, 644, 645, 646, 647, 648] (by decide +kernel) (by decide +kernel)
set_option maxRecDepth 20000 in
theorem ggL_law_X11_names_c : GoodIn wsL_law [.code yX11_names cX11_names 4 (some .int)] := goodIn_r _ [725] (by decide +kernel) (by decide +kernel)
theorem ggL_law_X11_names : GoodIn wsL_law wsX11_names := goodIn_app (a := [.code yX11_names cX11_names 4 (some .int)]) ggL_law_X11_names_c (goodIn_app (goodIn_app (goodIn_app (goodIn_app (goodIn_app (goodIn_app (goodIn_app (goodIn_app (goodIn_app (goodIn_app (goodIn_app ggL_law_X11_names_0 (goodIn_app ggL_law_X11_names_1 (goodIn_app ggL_law_X11_names_2 (goodIn_app ggL_law_X11_names_3 (goodIn_app ggL_law_X11_names_4 (goodIn_app ggL_law_X11_names_5 (goodIn_app ggL_law_X11_names_6 (goodIn_app ggL_law_X11_names_7 (goodIn_app ggL_law_X11_names_8 (goodIn_app ggL_law_X11_names_9 (goodIn_app ggL_law_X11_names_10 (goodIn_app ggL_law_X11_names_11 (goodIn_app ggL_law_X11_names_12 (goodIn_app ggL_law_X11_names_13 ggL_law_X11_names_14)))))))))))))) gc_wsX110) gc_wsX90) gc_wsX60) gc_wsX100) gc_wsX30) gc_wsX80) gc_wsX40) gc_wsX00) gc_wsX20) gc_wsX10)
set_option maxRecDepth 20000 in
theorem gL_law_X11_names : GoodIn wsL_law (wsV RL 46 RX11 yX11_names wsX11_names) := goodIn_app (goodIn_of _ (by decide +kernel)) ggL_law_X11_names

set_option maxRecDepth 20000 in
theorem ggL_law_X11_restore_0 : GoodIn wsL_law wsX11_restore_r1 := goodIn_r _ [28, 23, 27, 44, 1306, 538, 539, 22, 540, 72, 74, 78, 333, 334, 335, 80, 336, 337, 338, 18, 339, 323, 63, 340] (by decide +kernel) (by decide +kernel)
set_option maxRecDepth 20000 in
theorem ggL_law_X11_restore_1 : GoodIn wsL_law wsX11_restore_r2 := goodIn_r _ [341, 342, 343, 64, 65, 66, 541, 542, 543, 39, 544, 86, 87, 348, 349, 88, 545, 89, 91, 546, 547, 548, 77, 549] (by decide +kernel) (by decide +kernel)
set_option maxRecDepth 20000 in
theorem ggL_law_X11_restore_2 : GoodIn wsL_law wsX11_restore_r3 := goodIn_r _ [526, 95, 550, 96, 97, 98, 551, 552, 553, 82, 554, 354, 555, 556, 355, 557, 558, 559, 102, 560, 103, 104, 356, 357] (by decide +kernel) (by decide +kernel)
set_option maxRecDepth 20000 in
theorem ggL_law_X11_restore_3 : GoodIn wsL_law wsX11_restore_r4 := goodIn_r _ [358, 26, 359, 360, 361, 362, 363, 43, 364, 127, 128] (by decide +kernel) (by decide +kernel)
set_option maxRecDepth 20000 in
theorem ggL_law_X11_restore_c : GoodIn wsL_law [.code yX11_restore cX11_restore 2 (some .boolean)] := goodIn_r _ [1314] (by decide +kernel) (by decide +kernel)
theorem ggL_law_X11_restore : GoodIn wsL_law wsX11_restore := goodIn_app (a := [.code yX11_restore cX11_restore 2 (some .boolean)]) ggL_law_X11_restore_c (goodIn_app (goodIn_app (goodIn_app (goodIn_app (goodIn_app (goodIn_app (goodIn_app (goodIn_app (goodIn_app ggL_law_X11_restore_0 (goodIn_app ggL_law_X11_restore_1 (goodIn_app ggL_law_X11_restore_2 ggL_law_X11_restore_3))) gc_wsX110) gc_wsX90) gc_wsX100) gc_wsX80) gc_wsX40) gc_wsX00) gc_wsX30) gc_wsX50)
set_option maxRecDepth 20000 in
theorem gL_law_X11_restore : GoodIn wsL_law (wsV RL 163 RX11 yX11_restore wsX11_restore) := goodIn_app (goodIn_of _ (by decide +kernel)) ggL_law_X11_restore
set_option maxRecDepth 20000 in
theorem ggL_law_X12_restore_0 : GoodIn wsL_law [.fieldLink RX12 22 "TwoTierStoreModel" "isKept" "[Z", .fieldLink RX12 13 "TwoTierStoreModel" "kept" "[I", .fieldLink RX12 7 "TwoTierStoreModel" "s" "[I", .fieldLink RX12 181 "TwoTierStoreModel" "undoMany" "I", .methodLink RX12 83 yX12_isIn, .static yX12_isIn, .initialized RX12, .code yX12_isIn cX12_isIn 3 (some .boolean), .methodLink RX12 177 yX12_copies, .static yX12_copies, .code yX12_copies cX12_copies 5 none] := goodIn_r _ [147, 143, 142, 370, 403, 404, 5, 405, 450, 451, 452] (by decide +kernel) (by decide +kernel)
set_option maxRecDepth 20000 in
theorem ggL_law_X12_restore_c : GoodIn wsL_law [.code yX12_restore cX12_restore 2 (some .boolean)] := goodIn_r _ [1318] (by decide +kernel) (by decide +kernel)
theorem ggL_law_X12_restore : GoodIn wsL_law wsX12_restore := goodIn_app (a := [.code yX12_restore cX12_restore 2 (some .boolean)]) ggL_law_X12_restore_c (goodIn_app ggL_law_X12_restore_0 gc_wsX120)
set_option maxRecDepth 20000 in
theorem gL_law_X12_restore : GoodIn wsL_law (wsV RL 166 RX12 yX12_restore wsX12_restore) := goodIn_app (goodIn_of _ (by decide +kernel)) ggL_law_X12_restore

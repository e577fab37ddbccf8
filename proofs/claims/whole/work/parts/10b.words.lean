set_option maxRecDepth 20000 in
theorem wl_19 : GoodIn lw_tbl wsL_law_r19 := goodIn_p _ [1399, 1403, 1407, 1411, 1415, 1418] (by decide +kernel) (by decide +kernel)
set_option maxRecDepth 20000 in
theorem wl_20 : GoodIn lw_tbl wsL_law_r20 := goodIn_p _ [737, 1422, 875, 834] (by decide +kernel) (by decide +kernel)
set_option maxRecDepth 20000 in
theorem wl_21 : GoodIn lw_tbl wsL_law_r21 := goodIn_p _ [1542, 1510, 1491, 880] (by decide +kernel) (by decide +kernel)
set_option maxRecDepth 20000 in
theorem wl_22 : GoodIn lw_tbl wsL_law_r22 := goodIn_p _ [884, 887, 1546, 1454, 906, 797] (by decide +kernel) (by decide +kernel)
set_option maxRecDepth 20000 in
theorem wl_23 : GoodIn lw_tbl wsL_law_r23 := goodIn_p _ [765, 769, 774, 778, 783] (by decide +kernel) (by decide +kernel)
set_option maxRecDepth 20000 in
theorem wl_24 : GoodIn lw_tbl wsL_law_r24 := goodIn_p _ [788, 793, 801, 805] (by decide +kernel) (by decide +kernel)
set_option maxRecDepth 20000 in
theorem wl_25 : GoodIn lw_tbl wsL_law_r25 := goodIn_p _ [809, 814, 818, 822, 826] (by decide +kernel) (by decide +kernel)
set_option maxRecDepth 20000 in
theorem wl_26 : GoodIn lw_tbl wsL_law_r26 := goodIn_p _ [830, 838, 842, 846, 850] (by decide +kernel) (by decide +kernel)
set_option maxRecDepth 20000 in
theorem wl_27 : GoodIn lw_tbl wsL_law_r27 := goodIn_p _ [854, 859, 863, 867] (by decide +kernel) (by decide +kernel)
set_option maxRecDepth 20000 in
theorem wl_28 : GoodIn lw_tbl wsL_law_r28 := goodIn_p _ [871, 1450, 1458, 1462, 1466, 1470] (by decide +kernel) (by decide +kernel)
set_option maxRecDepth 20000 in
theorem wl_29 : GoodIn lw_tbl wsL_law_r29 := goodIn_p _ [1474, 1481, 1484, 1495] (by decide +kernel) (by decide +kernel)
set_option maxRecDepth 20000 in
theorem wl_30 : GoodIn lw_tbl wsL_law_r30 := goodIn_p _ [1498, 1502, 1506, 1514, 1518, 1522] (by decide +kernel) (by decide +kernel)
set_option maxRecDepth 20000 in
theorem wl_31 : GoodIn lw_tbl wsL_law_r31 := goodIn_p _ [1526, 741, 745, 749, 753] (by decide +kernel) (by decide +kernel)
set_option maxRecDepth 20000 in
theorem wl_32 : GoodIn lw_tbl wsL_law_r32 := goodIn_p _ [757, 761, 1530, 1534, 1538, 923] (by decide +kernel) (by decide +kernel)
set_option maxRecDepth 20000 in
theorem wl_33 : GoodIn lw_tbl wsL_law_r33 := goodIn_p _ [927, 1550, 1554, 938, 942] (by decide +kernel) (by decide +kernel)
set_option maxRecDepth 20000 in
theorem wl_34 : GoodIn lw_tbl wsL_law_r34 := goodIn_p _ [945, 1558, 1562, 1565, 953] (by decide +kernel) (by decide +kernel)
set_option maxRecDepth 20000 in
theorem wl_35 : GoodIn lw_tbl wsL_law_r35 := goodIn_p _ [1569, 957, 961, 966, 1573] (by decide +kernel) (by decide +kernel)
set_option maxRecDepth 20000 in
theorem wl_36 : GoodIn lw_tbl wsL_law_r36 := goodIn_p _ [973, 1426, 1022, 1026, 1430] (by decide +kernel) (by decide +kernel)

set_option maxRecDepth 20000 in
theorem wl_19 : GoodIn lw_tbl wsL_law_r19 := goodIn_p _ [1398, 1402, 1406, 1410, 1414, 1417] (by decide +kernel) (by decide +kernel)
set_option maxRecDepth 20000 in
theorem wl_20 : GoodIn lw_tbl wsL_law_r20 := goodIn_p _ [737, 1421, 874, 834] (by decide +kernel) (by decide +kernel)
set_option maxRecDepth 20000 in
theorem wl_21 : GoodIn lw_tbl wsL_law_r21 := goodIn_p _ [1541, 1509, 1490, 879] (by decide +kernel) (by decide +kernel)
set_option maxRecDepth 20000 in
theorem wl_22 : GoodIn lw_tbl wsL_law_r22 := goodIn_p _ [883, 886, 1545, 1453, 905, 797] (by decide +kernel) (by decide +kernel)
set_option maxRecDepth 20000 in
theorem wl_23 : GoodIn lw_tbl wsL_law_r23 := goodIn_p _ [765, 769, 774, 778, 783] (by decide +kernel) (by decide +kernel)
set_option maxRecDepth 20000 in
theorem wl_24 : GoodIn lw_tbl wsL_law_r24 := goodIn_p _ [788, 793, 801, 805] (by decide +kernel) (by decide +kernel)
set_option maxRecDepth 20000 in
theorem wl_25 : GoodIn lw_tbl wsL_law_r25 := goodIn_p _ [809, 814, 818, 822, 826] (by decide +kernel) (by decide +kernel)
set_option maxRecDepth 20000 in
theorem wl_26 : GoodIn lw_tbl wsL_law_r26 := goodIn_p _ [830, 838, 842, 846, 850] (by decide +kernel) (by decide +kernel)
set_option maxRecDepth 20000 in
theorem wl_27 : GoodIn lw_tbl wsL_law_r27 := goodIn_p _ [854, 858, 862, 866, 870] (by decide +kernel) (by decide +kernel)
set_option maxRecDepth 20000 in
theorem wl_28 : GoodIn lw_tbl wsL_law_r28 := goodIn_p _ [1449, 1457, 1461, 1465, 1469] (by decide +kernel) (by decide +kernel)
set_option maxRecDepth 20000 in
theorem wl_29 : GoodIn lw_tbl wsL_law_r29 := goodIn_p _ [1473, 1480, 1483, 1494, 1497] (by decide +kernel) (by decide +kernel)
set_option maxRecDepth 20000 in
theorem wl_30 : GoodIn lw_tbl wsL_law_r30 := goodIn_p _ [1501, 1505, 1513, 1517, 1521] (by decide +kernel) (by decide +kernel)
set_option maxRecDepth 20000 in
theorem wl_31 : GoodIn lw_tbl wsL_law_r31 := goodIn_p _ [1525, 741, 745, 749, 753] (by decide +kernel) (by decide +kernel)
set_option maxRecDepth 20000 in
theorem wl_32 : GoodIn lw_tbl wsL_law_r32 := goodIn_p _ [757, 761, 1529, 1533, 1537, 922] (by decide +kernel) (by decide +kernel)
set_option maxRecDepth 20000 in
theorem wl_33 : GoodIn lw_tbl wsL_law_r33 := goodIn_p _ [926, 1549, 1553, 937, 941] (by decide +kernel) (by decide +kernel)
set_option maxRecDepth 20000 in
theorem wl_34 : GoodIn lw_tbl wsL_law_r34 := goodIn_p _ [944, 1557, 1561, 1564, 952] (by decide +kernel) (by decide +kernel)
set_option maxRecDepth 20000 in
theorem wl_35 : GoodIn lw_tbl wsL_law_r35 := goodIn_p _ [1568, 956, 960, 965, 1572] (by decide +kernel) (by decide +kernel)
set_option maxRecDepth 20000 in
theorem wl_36 : GoodIn lw_tbl wsL_law_r36 := goodIn_p _ [972, 1425, 1021, 1025, 1429] (by decide +kernel) (by decide +kernel)

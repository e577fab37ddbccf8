set_option maxRecDepth 20000 in
theorem wl_37 : GoodIn lw_tbl wsL_law_r37 := goodIn_p _ [1029, 1433, 1437, 1033] (by decide +kernel) (by decide +kernel)
set_option maxRecDepth 20000 in
theorem wl_38 : GoodIn lw_tbl wsL_law_r38 := goodIn_p _ [1441, 1037, 1041, 1045] (by decide +kernel) (by decide +kernel)
set_option maxRecDepth 20000 in
theorem wl_39 : GoodIn lw_tbl wsL_law_r39 := goodIn_p _ [1049, 988, 1055, 1059] (by decide +kernel) (by decide +kernel)
set_option maxRecDepth 20000 in
theorem wl_40 : GoodIn lw_tbl wsL_law_r40 := goodIn_p _ [1063, 1067, 1071, 1075, 1079, 1576] (by decide +kernel) (by decide +kernel)
set_option maxRecDepth 20000 in
theorem wl_41 : GoodIn lw_tbl wsL_law_r41 := goodIn_p _ [1580, 1584, 1588, 1592, 1596] (by decide +kernel) (by decide +kernel)
set_option maxRecDepth 20000 in
theorem wl_42 : GoodIn lw_tbl wsL_law_r42 := goodIn_p _ [1601, 1605, 1087, 1091, 1095, 1099] (by decide +kernel) (by decide +kernel)
set_option maxRecDepth 20000 in
theorem wl_43 : GoodIn lw_tbl wsL_law_r43 := goodIn_p _ [1103, 1107, 1609, 1613, 1617, 1621] (by decide +kernel) (by decide +kernel)
set_option maxRecDepth 20000 in
theorem wl_44 : GoodIn lw_tbl wsL_law_r44 := goodIn_p _ [1625, 1111, 1115, 1119, 1629, 1633] (by decide +kernel) (by decide +kernel)
set_option maxRecDepth 20000 in
theorem wl_45 : GoodIn lw_tbl wsL_law_r45 := goodIn_p _ [1123, 1637, 1128, 1132, 1642] (by decide +kernel) (by decide +kernel)
set_option maxRecDepth 20000 in
theorem wl_46 : GoodIn lw_tbl wsL_law_r46 := goodIn_p _ [1142, 1650, 1654, 1658, 1148] (by decide +kernel) (by decide +kernel)
set_option maxRecDepth 20000 in
theorem wl_47 : GoodIn lw_tbl wsL_law_r47 := goodIn_p _ [1662, 1083, 1646, 1153, 1157, 1666] (by decide +kernel) (by decide +kernel)
set_option maxRecDepth 20000 in
theorem wl_48 : GoodIn lw_tbl wsL_law_r48 := goodIn_p _ [1670, 930, 933, 1678, 892, 897] (by decide +kernel) (by decide +kernel)
set_option maxRecDepth 20000 in
theorem wl_49 : GoodIn lw_tbl wsL_law_r49 := goodIn_p _ [1682, 901, 1686, 1137, 1690] (by decide +kernel) (by decide +kernel)
set_option maxRecDepth 20000 in
theorem wl_50 : GoodIn lw_tbl wsL_law_r50 := goodIn_p _ [976, 980, 984, 992] (by decide +kernel) (by decide +kernel)
set_option maxRecDepth 20000 in
theorem wl_51 : GoodIn lw_tbl wsL_law_r51 := goodIn_p _ [996, 1001, 1005, 1695, 1699] (by decide +kernel) (by decide +kernel)
set_option maxRecDepth 20000 in
theorem wl_52 : GoodIn lw_tbl wsL_law_r52 := goodIn_p _ [1703, 1707, 1711, 1009, 1715, 1013] (by decide +kernel) (by decide +kernel)
set_option maxRecDepth 20000 in
theorem wl_53 : GoodIn lw_tbl wsL_law_r53 := goodIn_p _ [1017, 1719, 909, 913, 917] (by decide +kernel) (by decide +kernel)
set_option maxRecDepth 20000 in
theorem wl_54 : GoodIn lw_tbl wsL_law_r54 := goodIn_p _ [1723, 1727, 1161, 1674, 1165] (by decide +kernel) (by decide +kernel)

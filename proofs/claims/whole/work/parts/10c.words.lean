set_option maxRecDepth 20000 in
theorem wl_37 : GoodIn lw_tbl wsL_law_r37 := goodIn_p _ [1030, 1434, 1438, 1034] (by decide +kernel) (by decide +kernel)
set_option maxRecDepth 20000 in
theorem wl_38 : GoodIn lw_tbl wsL_law_r38 := goodIn_p _ [1442, 1038, 1042, 1046] (by decide +kernel) (by decide +kernel)
set_option maxRecDepth 20000 in
theorem wl_39 : GoodIn lw_tbl wsL_law_r39 := goodIn_p _ [1050, 989, 1056, 1060] (by decide +kernel) (by decide +kernel)
set_option maxRecDepth 20000 in
theorem wl_40 : GoodIn lw_tbl wsL_law_r40 := goodIn_p _ [1064, 1068, 1072, 1076, 1080, 1577] (by decide +kernel) (by decide +kernel)
set_option maxRecDepth 20000 in
theorem wl_41 : GoodIn lw_tbl wsL_law_r41 := goodIn_p _ [1581, 1585, 1589, 1593, 1597] (by decide +kernel) (by decide +kernel)
set_option maxRecDepth 20000 in
theorem wl_42 : GoodIn lw_tbl wsL_law_r42 := goodIn_p _ [1602, 1606, 1088, 1092, 1096, 1100] (by decide +kernel) (by decide +kernel)
set_option maxRecDepth 20000 in
theorem wl_43 : GoodIn lw_tbl wsL_law_r43 := goodIn_p _ [1104, 1108, 1610, 1614, 1618, 1622] (by decide +kernel) (by decide +kernel)
set_option maxRecDepth 20000 in
theorem wl_44 : GoodIn lw_tbl wsL_law_r44 := goodIn_p _ [1626, 1112, 1116, 1120, 1630, 1634] (by decide +kernel) (by decide +kernel)
set_option maxRecDepth 20000 in
theorem wl_45 : GoodIn lw_tbl wsL_law_r45 := goodIn_p _ [1124, 1638, 1129, 1133, 1643] (by decide +kernel) (by decide +kernel)
set_option maxRecDepth 20000 in
theorem wl_46 : GoodIn lw_tbl wsL_law_r46 := goodIn_p _ [1143, 1651, 1655, 1659, 1149] (by decide +kernel) (by decide +kernel)
set_option maxRecDepth 20000 in
theorem wl_47 : GoodIn lw_tbl wsL_law_r47 := goodIn_p _ [1663, 1084, 1647, 1154, 1158, 1667] (by decide +kernel) (by decide +kernel)
set_option maxRecDepth 20000 in
theorem wl_48 : GoodIn lw_tbl wsL_law_r48 := goodIn_p _ [1671, 931, 934, 1679, 893, 898] (by decide +kernel) (by decide +kernel)
set_option maxRecDepth 20000 in
theorem wl_49 : GoodIn lw_tbl wsL_law_r49 := goodIn_p _ [1683, 902, 1687, 1138, 1691] (by decide +kernel) (by decide +kernel)
set_option maxRecDepth 20000 in
theorem wl_50 : GoodIn lw_tbl wsL_law_r50 := goodIn_p _ [977, 981, 985, 993] (by decide +kernel) (by decide +kernel)
set_option maxRecDepth 20000 in
theorem wl_51 : GoodIn lw_tbl wsL_law_r51 := goodIn_p _ [997, 1002, 1006, 1696, 1700] (by decide +kernel) (by decide +kernel)
set_option maxRecDepth 20000 in
theorem wl_52 : GoodIn lw_tbl wsL_law_r52 := goodIn_p _ [1704, 1708, 1712, 1010, 1716] (by decide +kernel) (by decide +kernel)
set_option maxRecDepth 20000 in
theorem wl_53 : GoodIn lw_tbl wsL_law_r53 := goodIn_p _ [1014, 1018, 1720, 910, 914, 918] (by decide +kernel) (by decide +kernel)
set_option maxRecDepth 20000 in
theorem wl_54 : GoodIn lw_tbl wsL_law_r54 := goodIn_p _ [1724, 1728, 1162, 1675, 1166] (by decide +kernel) (by decide +kernel)

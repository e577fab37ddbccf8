theorem dX11_plan_33 : decode cX11_plan 33 = .ok (.aload_n 0, 1) := by decide +kernel
theorem dX11_plan_34 : decode cX11_plan 34 = .ok (.getfield 67, 3) := by decide +kernel
theorem dX11_plan_37 : decode cX11_plan 37 = .ok (.aload_n 0, 1) := by decide +kernel
theorem dX11_plan_38 : decode cX11_plan 38 = .ok (.getfield 26, 3) := by decide +kernel
theorem dX11_plan_41 : decode cX11_plan 41 = .ok (.iload_n 1, 1) := by decide +kernel
theorem dX11_plan_42 : decode cX11_plan 42 = .ok (.invokevirtual 331, 3) := by decide +kernel
theorem dX11_plan_45 : decode cX11_plan 45 = .ok (.goto 12, 3) := by decide +kernel
theorem dX11_plan_48 : decode cX11_plan 48 = .ok (.aload_n 0, 1) := by decide +kernel
theorem dX11_plan_49 : decode cX11_plan 49 = .ok (.getfield 67, 3) := by decide +kernel
theorem dX11_plan_52 : decode cX11_plan 52 = .ok (.getfield 335, 3) := by decide +kernel
theorem dX11_plan_55 : decode cX11_plan 55 = .ok (.iload_n 1, 1) := by decide +kernel
theorem dX11_plan_56 : decode cX11_plan 56 = .ok (.iaload, 1) := by decide +kernel
theorem dX11_plan_57 : decode cX11_plan 57 = .ok (.ireturn, 1) := by decide +kernel
set_option maxRecDepth 20000 in
theorem ggX11_trace_X5_follow : GoodIn wsX11_trace wsX5_follow := goodIn_r _ [9, 10, 11, 12, 13, 14, 15, 16, 17, 18, 19, 20, 21, 22, 8, 23, 24, 25, 26, 27, 28, 29, 30, 31, 32, 33, 34, 35, 36, 37, 38, 39, 40, 41, 42, 43, 44, 45, 46, 47, 48, 49, 50, 51, 52, 53, 54, 55, 56, 57, 58, 106, 107, 108, 109, 110, 111, 112, 113, 114, 115, 92, 93, 94, 95, 96, 97, 98, 116, 117, 118, 119, 120, 99, 100, 101, 102, 103, 104, 105, 121, 122, 123, 124, 125] (by decide +kernel) (by decide +kernel)
set_option maxRecDepth 20000 in
theorem gX11_trace_X5_follow : GoodIn wsX11_trace (wsV RX11 321 RX5 yX5_follow wsX5_follow) := goodIn_app (goodIn_of _ (by decide +kernel)) ggX11_trace_X5_follow
set_option maxRecDepth 20000 in
theorem ggX11_trace_X5_trace : GoodIn wsX11_trace wsX5_trace := goodIn_r _ [62, 63, 10, 64, 31, 65, 66, 67, 8, 68, 29, 30, 38, 39, 40, 41, 42, 69, 70, 71, 72, 12, 14, 11, 19, 73, 74, 75, 76, 28, 106, 107, 108, 109, 110, 111, 112, 113, 114, 115, 92, 93, 94, 95, 96, 97, 98, 116, 117, 118, 119, 120, 121, 122, 123, 124, 125] (by decide +kernel) (by decide +kernel)
set_option maxRecDepth 20000 in
theorem gX11_trace_X5_trace : GoodIn wsX11_trace (wsV RX11 338 RX5 yX5_trace wsX5_trace) := goodIn_app (goodIn_of _ (by decide +kernel)) ggX11_trace_X5_trace
theorem dX11_trace_0 : decode cX11_trace 0 = .ok (.aload_n 0, 1) := by decide +kernel
theorem dX11_trace_1 : decode cX11_trace 1 = .ok (.getfield 67, 3) := by decide +kernel
theorem dX11_trace_4 : decode cX11_trace 4 = .ok (.aload_n 0, 1) := by decide +kernel
theorem dX11_trace_5 : decode cX11_trace 5 = .ok (.getfield 26, 3) := by decide +kernel
theorem dX11_trace_8 : decode cX11_trace 8 = .ok (.aload_n 0, 1) := by decide +kernel
theorem dX11_trace_9 : decode cX11_trace 9 = .ok (.getfield 26, 3) := by decide +kernel
theorem dX11_trace_12 : decode cX11_trace 12 = .ok (.getfield 160, 3) := by decide +kernel
theorem dX11_trace_15 : decode cX11_trace 15 = .ok (.getfield 163, 3) := by decide +kernel
theorem dX11_trace_18 : decode cX11_trace 18 = .ok (.iconst (-1), 1) := by decide +kernel
theorem dX11_trace_19 : decode cX11_trace 19 = .ok (.invokevirtual 321, 3) := by decide +kernel
theorem dX11_trace_22 : decode cX11_trace 22 = .ok (.aload_n 0, 1) := by decide +kernel
theorem dX11_trace_23 : decode cX11_trace 23 = .ok (.getfield 67, 3) := by decide +kernel
theorem dX11_trace_26 : decode cX11_trace 26 = .ok (.aload_n 0, 1) := by decide +kernel
theorem dX11_trace_27 : decode cX11_trace 27 = .ok (.getfield 26, 3) := by decide +kernel
theorem dX11_trace_30 : decode cX11_trace 30 = .ok (.invokevirtual 338, 3) := by decide +kernel
theorem dX11_trace_33 : decode cX11_trace 33 = .ok (.return_, 1) := by decide +kernel
set_option maxRecDepth 20000 in
theorem ggX11_potential_X4_has : GoodIn wsX11_potential wsX4_has := goodIn_r _ [7, 8, 125, 126, 127, 128, 129] (by decide +kernel) (by decide +kernel)
set_option maxRecDepth 20000 in
theorem gX11_potential_X4_has : GoodIn wsX11_potential (wsV RX11 228 RX4 yX4_has wsX4_has) := goodIn_app (goodIn_of _ (by decide +kernel)) ggX11_potential_X4_has
set_option maxRecDepth 20000 in
theorem ggX11_potential_X11_trace : GoodIn wsX11_potential wsX11_trace := goodIn_r _ [13, 14, 1, 15, 16, 17, 18, 19, 20, 21, 22, 23, 24, 25, 26, 27, 28, 29, 30, 31, 32, 33, 34, 35, 36, 37, 38, 39, 40, 41, 42, 43, 44, 45, 46, 47, 48, 49, 50, 51, 52, 53, 54, 55, 56, 57, 58, 59, 60, 61, 62, 63, 64, 65, 66, 67, 68, 69, 70, 71, 72, 73, 74, 75, 76, 77, 78, 79, 80, 81, 82, 83, 84, 85, 86, 87, 88, 103, 104, 105, 106, 107, 108, 109, 110, 111, 112, 113, 114, 115, 116, 117, 118, 119, 120, 121, 122, 123, 124, 130, 131, 132, 133, 134, 135, 136, 137, 138, 139, 140, 141, 142, 143, 144, 145, 146, 125, 126, 127, 128, 129, 147, 148, 149, 150, 151] (by decide +kernel) (by decide +kernel)
set_option maxRecDepth 20000 in
theorem gX11_potential_X11_trace : GoodIn wsX11_potential (wsV RX11 328 RX11 yX11_trace wsX11_trace) := goodIn_app (goodIn_of _ (by decide +kernel)) ggX11_potential_X11_trace
set_option maxRecDepth 20000 in
theorem ggX11_potential_X11_potentialBehind : GoodIn wsX11_potential wsX11_potentialBehind := goodIn_r _ [92, 1, 93, 94, 2, 95, 14, 96, 97, 15, 16, 98, 99, 100, 6, 101, 102, 103, 104, 105, 106, 107, 108, 109, 110, 111, 112, 113, 114, 115, 116, 117, 118, 119, 120, 121, 122, 123, 124, 147, 148, 149, 150, 151, 137, 138, 139, 140, 141, 142, 143, 144, 145, 146, 130, 131, 132, 133, 134, 135, 136, 125, 126, 127, 128, 129] (by decide +kernel) (by decide +kernel)
set_option maxRecDepth 20000 in
theorem gX11_potential_X11_potentialBehind : GoodIn wsX11_potential (wsV RX11 340 RX11 yX11_potentialBehind wsX11_potentialBehind) := goodIn_app (goodIn_of _ (by decide +kernel)) ggX11_potential_X11_potentialBehind
theorem dX11_potential_0 : decode cX11_potential 0 = .ok (.aload_n 0, 1) := by decide +kernel
theorem dX11_potential_1 : decode cX11_potential 1 = .ok (.getfield 26, 3) := by decide +kernel
theorem dX11_potential_4 : decode cX11_potential 4 = .ok (.getfield 143, 3) := by decide +kernel
theorem dX11_potential_7 : decode cX11_potential 7 = .ok (.iload_n 1, 1) := by decide +kernel
theorem dX11_potential_8 : decode cX11_potential 8 = .ok (.invokevirtual 228, 3) := by decide +kernel
theorem dX11_potential_11 : decode cX11_potential 11 = .ok (.ifCond .ne 5, 3) := by decide +kernel
theorem dX11_potential_14 : decode cX11_potential 14 = .ok (.iconst (-1), 1) := by decide +kernel
theorem dX11_potential_15 : decode cX11_potential 15 = .ok (.ireturn, 1) := by decide +kernel
theorem dX11_potential_16 : decode cX11_potential 16 = .ok (.aload_n 0, 1) := by decide +kernel
theorem dX11_potential_17 : decode cX11_potential 17 = .ok (.invokevirtual 328, 3) := by decide +kernel
theorem dX11_potential_20 : decode cX11_potential 20 = .ok (.aload_n 0, 1) := by decide +kernel
theorem dX11_potential_21 : decode cX11_potential 21 = .ok (.iload_n 1, 1) := by decide +kernel
theorem dX11_potential_22 : decode cX11_potential 22 = .ok (.invokevirtual 340, 3) := by decide +kernel
theorem dX11_potential_25 : decode cX11_potential 25 = .ok (.ireturn, 1) := by decide +kernel
set_option maxRecDepth 20000 in
theorem ggX11_potentialBehind_X4_densityBehind : GoodIn wsX11_potentialBehind wsX4_densityBehind := goodIn_r _ [15, 16, 61, 62, 63, 64, 65] (by decide +kernel) (by decide +kernel)
set_option maxRecDepth 20000 in
theorem gX11_potentialBehind_X4_densityBehind : GoodIn wsX11_potentialBehind (wsV RX11 343 RX4 yX4_densityBehind wsX4_densityBehind) := goodIn_app (goodIn_of _ (by decide +kernel)) ggX11_potentialBehind_X4_densityBehind
theorem dX11_potentialBehind_0 : decode cX11_potentialBehind 0 = .ok (.iconst 0, 1) := by decide +kernel
theorem dX11_potentialBehind_1 : decode cX11_potentialBehind 1 = .ok (.istore_n 2, 1) := by decide +kernel
theorem dX11_potentialBehind_2 : decode cX11_potentialBehind 2 = .ok (.iconst 0, 1) := by decide +kernel
theorem dX11_potentialBehind_3 : decode cX11_potentialBehind 3 = .ok (.istore_n 3, 1) := by decide +kernel
theorem dX11_potentialBehind_4 : decode cX11_potentialBehind 4 = .ok (.iconst 0, 1) := by decide +kernel
theorem dX11_potentialBehind_5 : decode cX11_potentialBehind 5 = .ok (.istore 4, 2) := by decide +kernel
theorem dX11_potentialBehind_7 : decode cX11_potentialBehind 7 = .ok (.iload 4, 2) := by decide +kernel
theorem dX11_potentialBehind_9 : decode cX11_potentialBehind 9 = .ok (.aload_n 0, 1) := by decide +kernel
theorem dX11_potentialBehind_10 : decode cX11_potentialBehind 10 = .ok (.getfield 26, 3) := by decide +kernel
theorem dX11_potentialBehind_13 : decode cX11_potentialBehind 13 = .ok (.getfield 127, 3) := by decide +kernel
theorem dX11_potentialBehind_16 : decode cX11_potentialBehind 16 = .ok (.getfield 121, 3) := by decide +kernel
theorem dX11_potentialBehind_19 : decode cX11_potentialBehind 19 = .ok (.if_icmp .ge 83, 3) := by decide +kernel
theorem dX11_potentialBehind_22 : decode cX11_potentialBehind 22 = .ok (.aload_n 0, 1) := by decide +kernel
theorem dX11_potentialBehind_23 : decode cX11_potentialBehind 23 = .ok (.getfield 26, 3) := by decide +kernel
theorem dX11_potentialBehind_26 : decode cX11_potentialBehind 26 = .ok (.getfield 143, 3) := by decide +kernel
theorem dX11_potentialBehind_29 : decode cX11_potentialBehind 29 = .ok (.iload_n 1, 1) := by decide +kernel
theorem dX11_potentialBehind_30 : decode cX11_potentialBehind 30 = .ok (.iload 4, 2) := by decide +kernel
theorem dX11_potentialBehind_32 : decode cX11_potentialBehind 32 = .ok (.invokevirtual 343, 3) := by decide +kernel
theorem dX11_potentialBehind_35 : decode cX11_potentialBehind 35 = .ok (.aload_n 0, 1) := by decide +kernel
theorem dX11_potentialBehind_36 : decode cX11_potentialBehind 36 = .ok (.getfield 26, 3) := by decide +kernel
theorem dX11_potentialBehind_39 : decode cX11_potentialBehind 39 = .ok (.getfield 127, 3) := by decide +kernel
theorem dX11_potentialBehind_42 : decode cX11_potentialBehind 42 = .ok (.getfield 185, 3) := by decide +kernel
theorem dX11_potentialBehind_45 : decode cX11_potentialBehind 45 = .ok (.iload 4, 2) := by decide +kernel
theorem dX11_potentialBehind_47 : decode cX11_potentialBehind 47 = .ok (.iaload, 1) := by decide +kernel
theorem dX11_potentialBehind_48 : decode cX11_potentialBehind 48 = .ok (.imul, 1) := by decide +kernel
theorem dX11_potentialBehind_49 : decode cX11_potentialBehind 49 = .ok (.istore 5, 2) := by decide +kernel
theorem dX11_potentialBehind_51 : decode cX11_potentialBehind 51 = .ok (.iload_n 2, 1) := by decide +kernel
theorem dX11_potentialBehind_52 : decode cX11_potentialBehind 52 = .ok (.iload 5, 2) := by decide +kernel
theorem dX11_potentialBehind_54 : decode cX11_potentialBehind 54 = .ok (.iadd, 1) := by decide +kernel
theorem dX11_potentialBehind_55 : decode cX11_potentialBehind 55 = .ok (.istore_n 2, 1) := by decide +kernel
theorem dX11_potentialBehind_56 : decode cX11_potentialBehind 56 = .ok (.aload_n 0, 1) := by decide +kernel
theorem dX11_potentialBehind_57 : decode cX11_potentialBehind 57 = .ok (.getfield 67, 3) := by decide +kernel
theorem dX11_potentialBehind_60 : decode cX11_potentialBehind 60 = .ok (.getfield 335, 3) := by decide +kernel
theorem dX11_potentialBehind_63 : decode cX11_potentialBehind 63 = .ok (.iload_n 1, 1) := by decide +kernel
theorem dX11_potentialBehind_64 : decode cX11_potentialBehind 64 = .ok (.iaload, 1) := by decide +kernel
theorem dX11_potentialBehind_65 : decode cX11_potentialBehind 65 = .ok (.iload 4, 2) := by decide +kernel
theorem dX11_potentialBehind_67 : decode cX11_potentialBehind 67 = .ok (.ishr, 1) := by decide +kernel
theorem dX11_potentialBehind_68 : decode cX11_potentialBehind 68 = .ok (.iconst 1, 1) := by decide +kernel
theorem dX11_potentialBehind_69 : decode cX11_potentialBehind 69 = .ok (.iand, 1) := by decide +kernel
theorem dX11_potentialBehind_70 : decode cX11_potentialBehind 70 = .ok (.iconst 1, 1) := by decide +kernel
theorem dX11_potentialBehind_71 : decode cX11_potentialBehind 71 = .ok (.if_icmp .ne 25, 3) := by decide +kernel
theorem dX11_potentialBehind_74 : decode cX11_potentialBehind 74 = .ok (.iload_n 3, 1) := by decide +kernel
theorem dX11_potentialBehind_75 : decode cX11_potentialBehind 75 = .ok (.bipush 60, 2) := by decide +kernel
theorem dX11_potentialBehind_77 : decode cX11_potentialBehind 77 = .ok (.aload_n 0, 1) := by decide +kernel
theorem dX11_potentialBehind_78 : decode cX11_potentialBehind 78 = .ok (.getfield 26, 3) := by decide +kernel
theorem dX11_potentialBehind_81 : decode cX11_potentialBehind 81 = .ok (.getfield 127, 3) := by decide +kernel
theorem dX11_potentialBehind_84 : decode cX11_potentialBehind 84 = .ok (.getfield 188, 3) := by decide +kernel
theorem dX11_potentialBehind_87 : decode cX11_potentialBehind 87 = .ok (.iload 4, 2) := by decide +kernel
theorem dX11_potentialBehind_89 : decode cX11_potentialBehind 89 = .ok (.iaload, 1) := by decide +kernel
theorem dX11_potentialBehind_90 : decode cX11_potentialBehind 90 = .ok (.imul, 1) := by decide +kernel
theorem dX11_potentialBehind_91 : decode cX11_potentialBehind 91 = .ok (.iload 5, 2) := by decide +kernel
theorem dX11_potentialBehind_93 : decode cX11_potentialBehind 93 = .ok (.isub, 1) := by decide +kernel
theorem dX11_potentialBehind_94 : decode cX11_potentialBehind 94 = .ok (.iadd, 1) := by decide +kernel
theorem dX11_potentialBehind_95 : decode cX11_potentialBehind 95 = .ok (.istore_n 3, 1) := by decide +kernel
theorem dX11_potentialBehind_96 : decode cX11_potentialBehind 96 = .ok (.iinc 4 1, 3) := by decide +kernel
theorem dX11_potentialBehind_99 : decode cX11_potentialBehind 99 = .ok (.goto (-92), 3) := by decide +kernel
theorem dX11_potentialBehind_102 : decode cX11_potentialBehind 102 = .ok (.aload_n 0, 1) := by decide +kernel
theorem dX11_potentialBehind_103 : decode cX11_potentialBehind 103 = .ok (.getfield 26, 3) := by decide +kernel
theorem dX11_potentialBehind_106 : decode cX11_potentialBehind 106 = .ok (.getfield 160, 3) := by decide +kernel
theorem dX11_potentialBehind_109 : decode cX11_potentialBehind 109 = .ok (.getfield 163, 3) := by decide +kernel
theorem dX11_potentialBehind_112 : decode cX11_potentialBehind 112 = .ok (.iconst 1, 1) := by decide +kernel
theorem dX11_potentialBehind_113 : decode cX11_potentialBehind 113 = .ok (.isub, 1) := by decide +kernel
theorem dX11_potentialBehind_114 : decode cX11_potentialBehind 114 = .ok (.iload_n 2, 1) := by decide +kernel
theorem dX11_potentialBehind_115 : decode cX11_potentialBehind 115 = .ok (.imul, 1) := by decide +kernel
theorem dX11_potentialBehind_116 : decode cX11_potentialBehind 116 = .ok (.aload_n 0, 1) := by decide +kernel
theorem dX11_potentialBehind_117 : decode cX11_potentialBehind 117 = .ok (.getfield 26, 3) := by decide +kernel
theorem dX11_potentialBehind_120 : decode cX11_potentialBehind 120 = .ok (.getfield 160, 3) := by decide +kernel
theorem dX11_potentialBehind_123 : decode cX11_potentialBehind 123 = .ok (.getfield 163, 3) := by decide +kernel
theorem dX11_potentialBehind_126 : decode cX11_potentialBehind 126 = .ok (.iload_n 3, 1) := by decide +kernel
theorem dX11_potentialBehind_127 : decode cX11_potentialBehind 127 = .ok (.imul, 1) := by decide +kernel
theorem dX11_potentialBehind_128 : decode cX11_potentialBehind 128 = .ok (.iadd, 1) := by decide +kernel
theorem dX11_potentialBehind_129 : decode cX11_potentialBehind 129 = .ok (.ireturn, 1) := by decide +kernel
set_option maxRecDepth 20000 in
theorem ggX11_proof_X4_has : GoodIn wsX11_proof wsX4_has := goodIn_r _ [12, 13, 138, 139, 140, 141, 142] (by decide +kernel) (by decide +kernel)
set_option maxRecDepth 20000 in
theorem gX11_proof_X4_has : GoodIn wsX11_proof (wsV RX11 228 RX4 yX4_has wsX4_has) := goodIn_app (goodIn_of _ (by decide +kernel)) ggX11_proof_X4_has
set_option maxRecDepth 20000 in
theorem ggX11_proof_X11_trace : GoodIn wsX11_proof wsX11_trace := goodIn_r _ [18, 6, 1, 4, 5, 19, 20, 21, 22, 23, 24, 25, 26, 27, 28, 29, 30, 31, 32, 33, 34, 35, 36, 37, 38, 39, 40, 41, 42, 43, 44, 45, 46, 47, 48, 49, 50, 51, 52, 53, 54, 55, 56, 57, 58, 59, 60, 61, 62, 63, 64, 65, 66, 67, 68, 69, 70, 71, 72, 73, 74, 75, 76, 77, 78, 79, 80, 81, 82, 83, 84, 85, 86, 87, 88, 89, 90, 109, 110, 111, 112, 113, 114, 115, 116, 117, 118, 119, 120, 121, 122, 123, 124, 125, 126, 127, 128, 129, 130, 131, 132, 133, 134, 135, 136, 137, 143, 144, 145, 146, 147, 148, 149, 150, 151, 152, 138, 139, 140, 141, 142, 153, 154, 155, 156, 157] (by decide +kernel) (by decide +kernel)
set_option maxRecDepth 20000 in
theorem gX11_proof_X11_trace : GoodIn wsX11_proof (wsV RX11 328 RX11 yX11_trace wsX11_trace) := goodIn_app (goodIn_of _ (by decide +kernel)) ggX11_proof_X11_trace
set_option maxRecDepth 20000 in
theorem ggX11_proof_X11_potentialBehind : GoodIn wsX11_proof wsX11_potentialBehind := goodIn_r _ [94, 1, 95, 96, 2, 97, 6, 98, 99, 4, 5, 100, 101, 102, 11, 103, 104, 109, 110, 111, 112, 113, 114, 115, 116, 117, 118, 119, 120, 121, 122, 123, 124, 125, 126, 127, 128, 129, 130, 153, 154, 155, 156, 157, 143, 144, 145, 146, 147, 148, 149, 150, 151, 152, 131, 132, 133, 134, 135, 136, 137, 138, 139, 140, 141, 142] (by decide +kernel) (by decide +kernel)
set_option maxRecDepth 20000 in
theorem gX11_proof_X11_potentialBehind : GoodIn wsX11_proof (wsV RX11 340 RX11 yX11_potentialBehind wsX11_potentialBehind) := goodIn_app (goodIn_of _ (by decide +kernel)) ggX11_proof_X11_potentialBehind
set_option maxRecDepth 20000 in
theorem ggX11_proof_X5_paysAt : GoodIn wsX11_proof wsX5_paysAt := goodIn_r _ [108, 78, 42, 83, 84, 85, 22, 86, 26, 28, 25, 33, 143, 144, 145, 146, 147, 148, 149, 150, 151, 152, 124, 125, 126, 127, 128, 129, 130, 138, 139, 140, 141, 142, 153, 154, 155, 156, 157] (by decide +kernel) (by decide +kernel)
set_option maxRecDepth 20000 in
theorem gX11_proof_X5_paysAt : GoodIn wsX11_proof (wsV RX11 331 RX5 yX5_paysAt wsX5_paysAt) := goodIn_app (goodIn_of _ (by decide +kernel)) ggX11_proof_X5_paysAt
theorem dX11_proof_0 : decode cX11_proof 0 = .ok (.aload_n 0, 1) := by decide +kernel
theorem dX11_proof_1 : decode cX11_proof 1 = .ok (.getfield 26, 3) := by decide +kernel
theorem dX11_proof_4 : decode cX11_proof 4 = .ok (.getfield 143, 3) := by decide +kernel
theorem dX11_proof_7 : decode cX11_proof 7 = .ok (.iload_n 1, 1) := by decide +kernel
theorem dX11_proof_8 : decode cX11_proof 8 = .ok (.invokevirtual 228, 3) := by decide +kernel
theorem dX11_proof_11 : decode cX11_proof 11 = .ok (.ifCond .ne 7, 3) := by decide +kernel
theorem dX11_proof_14 : decode cX11_proof 14 = .ok (.ldc_w 346, 3) := by decide +kernel
theorem dX11_proof_17 : decode cX11_proof 17 = .ok (.ireturn, 1) := by decide +kernel
theorem dX11_proof_18 : decode cX11_proof 18 = .ok (.aload_n 0, 1) := by decide +kernel
theorem dX11_proof_19 : decode cX11_proof 19 = .ok (.invokevirtual 328, 3) := by decide +kernel
theorem dX11_proof_22 : decode cX11_proof 22 = .ok (.aload_n 0, 1) := by decide +kernel
theorem dX11_proof_23 : decode cX11_proof 23 = .ok (.iload_n 1, 1) := by decide +kernel
theorem dX11_proof_24 : decode cX11_proof 24 = .ok (.invokevirtual 340, 3) := by decide +kernel
theorem dX11_proof_27 : decode cX11_proof 27 = .ok (.iload_n 1, 1) := by decide +kernel
theorem dX11_proof_28 : decode cX11_proof 28 = .ok (.ifCond .ne 7, 3) := by decide +kernel
theorem dX11_proof_31 : decode cX11_proof 31 = .ok (.iconst 0, 1) := by decide +kernel
theorem dX11_proof_32 : decode cX11_proof 32 = .ok (.goto 10, 3) := by decide +kernel
theorem dX11_proof_35 : decode cX11_proof 35 = .ok (.aload_n 0, 1) := by decide +kernel
theorem dX11_proof_36 : decode cX11_proof 36 = .ok (.iload_n 1, 1) := by decide +kernel
theorem dX11_proof_37 : decode cX11_proof 37 = .ok (.iconst 1, 1) := by decide +kernel
theorem dX11_proof_38 : decode cX11_proof 38 = .ok (.isub, 1) := by decide +kernel
theorem dX11_proof_39 : decode cX11_proof 39 = .ok (.invokevirtual 340, 3) := by decide +kernel
theorem dX11_proof_42 : decode cX11_proof 42 = .ok (.isub, 1) := by decide +kernel
theorem dX11_proof_43 : decode cX11_proof 43 = .ok (.istore_n 2, 1) := by decide +kernel
theorem dX11_proof_44 : decode cX11_proof 44 = .ok (.bipush 60, 2) := by decide +kernel
theorem dX11_proof_46 : decode cX11_proof 46 = .ok (.aload_n 0, 1) := by decide +kernel
theorem dX11_proof_47 : decode cX11_proof 47 = .ok (.getfield 26, 3) := by decide +kernel
theorem dX11_proof_50 : decode cX11_proof 50 = .ok (.getfield 160, 3) := by decide +kernel
theorem dX11_proof_53 : decode cX11_proof 53 = .ok (.getfield 163, 3) := by decide +kernel
theorem dX11_proof_56 : decode cX11_proof 56 = .ok (.imul, 1) := by decide +kernel
theorem dX11_proof_57 : decode cX11_proof 57 = .ok (.aload_n 0, 1) := by decide +kernel
theorem dX11_proof_58 : decode cX11_proof 58 = .ok (.getfield 67, 3) := by decide +kernel
theorem dX11_proof_61 : decode cX11_proof 61 = .ok (.aload_n 0, 1) := by decide +kernel
theorem dX11_proof_62 : decode cX11_proof 62 = .ok (.getfield 26, 3) := by decide +kernel
theorem dX11_proof_65 : decode cX11_proof 65 = .ok (.iload_n 1, 1) := by decide +kernel
theorem dX11_proof_66 : decode cX11_proof 66 = .ok (.invokevirtual 331, 3) := by decide +kernel
theorem dX11_proof_69 : decode cX11_proof 69 = .ok (.imul, 1) := by decide +kernel
theorem dX11_proof_70 : decode cX11_proof 70 = .ok (.istore_n 3, 1) := by decide +kernel
theorem dX11_proof_71 : decode cX11_proof 71 = .ok (.iload_n 3, 1) := by decide +kernel
theorem dX11_proof_72 : decode cX11_proof 72 = .ok (.bipush 60, 2) := by decide +kernel
theorem dX11_proof_74 : decode cX11_proof 74 = .ok (.aload_n 0, 1) := by decide +kernel
theorem dX11_proof_75 : decode cX11_proof 75 = .ok (.getfield 26, 3) := by decide +kernel
theorem dX11_proof_78 : decode cX11_proof 78 = .ok (.getfield 143, 3) := by decide +kernel
theorem dX11_proof_81 : decode cX11_proof 81 = .ok (.getfield 232, 3) := by decide +kernel
theorem dX11_proof_84 : decode cX11_proof 84 = .ok (.iload_n 1, 1) := by decide +kernel
theorem dX11_proof_85 : decode cX11_proof 85 = .ok (.iaload, 1) := by decide +kernel
theorem dX11_proof_86 : decode cX11_proof 86 = .ok (.imul, 1) := by decide +kernel
theorem dX11_proof_87 : decode cX11_proof 87 = .ok (.isub, 1) := by decide +kernel
theorem dX11_proof_88 : decode cX11_proof 88 = .ok (.iload_n 2, 1) := by decide +kernel
theorem dX11_proof_89 : decode cX11_proof 89 = .ok (.isub, 1) := by decide +kernel
theorem dX11_proof_90 : decode cX11_proof 90 = .ok (.ireturn, 1) := by decide +kernel
set_option maxRecDepth 20000 in
theorem ggX11_bestWith_X10_has : GoodIn wsX11_bestWith wsX10_has := goodIn_r _ [12, 13, 119, 120, 121, 122, 123] (by decide +kernel) (by decide +kernel)
set_option maxRecDepth 20000 in
theorem gX11_bestWith_X10_has : GoodIn wsX11_bestWith (wsV RX11 182 RX10 yX10_has wsX10_has) := goodIn_app (goodIn_of _ (by decide +kernel)) ggX11_bestWith_X10_has
set_option maxRecDepth 20000 in
theorem ggX11_bestWith_X11_trialLeast : GoodIn wsX11_bestWith wsX11_trialLeast := goodIn_r _ [18, 19, 1, 3, 4, 20, 21, 22, 23, 24, 25, 26, 27, 28, 29, 30, 31, 32, 33, 34, 35, 36, 37, 38, 39, 40, 41, 42, 43, 44, 45, 46, 47, 48, 49, 50, 51, 52, 53, 54, 11, 55, 13, 56, 57, 58, 59, 60, 61, 62, 63, 64, 65, 66, 67, 68, 69, 70, 71, 72, 73, 74, 75, 76, 77, 78, 79, 80, 81, 82, 83, 84, 85, 86, 87, 88, 89, 90, 91, 92, 93, 94, 95, 96, 97, 98, 99, 100, 101, 102, 103, 104, 105, 106, 107, 108, 109, 110, 111, 124, 125, 126, 127, 128, 129, 130, 131, 132, 133, 112, 113, 114, 115, 116, 117, 118, 119, 120, 121, 122, 123] (by decide +kernel) (by decide +kernel)
set_option maxRecDepth 20000 in
theorem gX11_bestWith_X11_trialLeast : GoodIn wsX11_bestWith (wsV RX11 347 RX11 yX11_trialLeast wsX11_trialLeast) := goodIn_app (goodIn_of _ (by decide +kernel)) ggX11_bestWith_X11_trialLeast
theorem dX11_bestWith_0 : decode cX11_bestWith 0 = .ok (.aload_n 0, 1) := by decide +kernel
theorem dX11_bestWith_1 : decode cX11_bestWith 1 = .ok (.getfield 26, 3) := by decide +kernel
theorem dX11_bestWith_4 : decode cX11_bestWith 4 = .ok (.getfield 127, 3) := by decide +kernel
theorem dX11_bestWith_7 : decode cX11_bestWith 7 = .ok (.iload_n 1, 1) := by decide +kernel
theorem dX11_bestWith_8 : decode cX11_bestWith 8 = .ok (.invokevirtual 182, 3) := by decide +kernel
theorem dX11_bestWith_11 : decode cX11_bestWith 11 = .ok (.ifCond .eq 16, 3) := by decide +kernel
theorem dX11_bestWith_14 : decode cX11_bestWith 14 = .ok (.aload_n 0, 1) := by decide +kernel
theorem dX11_bestWith_15 : decode cX11_bestWith 15 = .ok (.getfield 26, 3) := by decide +kernel
theorem dX11_bestWith_18 : decode cX11_bestWith 18 = .ok (.getfield 143, 3) := by decide +kernel
theorem dX11_bestWith_21 : decode cX11_bestWith 21 = .ok (.getfield 175, 3) := by decide +kernel
theorem dX11_bestWith_24 : decode cX11_bestWith 24 = .ok (.ifCond .ne 5, 3) := by decide +kernel
theorem dX11_bestWith_27 : decode cX11_bestWith 27 = .ok (.iconst (-1), 1) := by decide +kernel
theorem dX11_bestWith_28 : decode cX11_bestWith 28 = .ok (.ireturn, 1) := by decide +kernel
theorem dX11_bestWith_29 : decode cX11_bestWith 29 = .ok (.aload_n 0, 1) := by decide +kernel
theorem dX11_bestWith_30 : decode cX11_bestWith 30 = .ok (.aload_n 0, 1) := by decide +kernel
theorem dX11_bestWith_31 : decode cX11_bestWith 31 = .ok (.getfield 26, 3) := by decide +kernel
theorem dX11_bestWith_34 : decode cX11_bestWith 34 = .ok (.getfield 160, 3) := by decide +kernel
theorem dX11_bestWith_37 : decode cX11_bestWith 37 = .ok (.getfield 163, 3) := by decide +kernel
theorem dX11_bestWith_40 : decode cX11_bestWith 40 = .ok (.iload_n 1, 1) := by decide +kernel
theorem dX11_bestWith_41 : decode cX11_bestWith 41 = .ok (.invokevirtual 347, 3) := by decide +kernel
theorem dX11_bestWith_44 : decode cX11_bestWith 44 = .ok (.istore_n 2, 1) := by decide +kernel
theorem dX11_bestWith_45 : decode cX11_bestWith 45 = .ok (.iload_n 2, 1) := by decide +kernel
theorem dX11_bestWith_46 : decode cX11_bestWith 46 = .ok (.ldc_w 350, 3) := by decide +kernel
theorem dX11_bestWith_49 : decode cX11_bestWith 49 = .ok (.if_icmp .lt 7, 3) := by decide +kernel
theorem dX11_bestWith_52 : decode cX11_bestWith 52 = .ok (.iconst (-1), 1) := by decide +kernel
theorem dX11_bestWith_53 : decode cX11_bestWith 53 = .ok (.goto 4, 3) := by decide +kernel
theorem dX11_bestWith_56 : decode cX11_bestWith 56 = .ok (.iload_n 2, 1) := by decide +kernel
theorem dX11_bestWith_57 : decode cX11_bestWith 57 = .ok (.ireturn, 1) := by decide +kernel
set_option maxRecDepth 20000 in
theorem ggX11_trialLeast_X5_forget : GoodIn wsX11_trialLeast wsX5_forget := goodIn_r _ [9, 10, 11, 99, 100, 101, 102, 103, 104, 105, 106, 107, 108] (by decide +kernel) (by decide +kernel)
set_option maxRecDepth 20000 in
theorem gX11_trialLeast_X5_forget : GoodIn wsX11_trialLeast (wsV RX11 120 RX5 yX5_forget wsX5_forget) := goodIn_app (goodIn_of _ (by decide +kernel)) ggX11_trialLeast_X5_forget
set_option maxRecDepth 20000 in
theorem ggX11_trialLeast_X5_follow : GoodIn wsX11_trialLeast wsX5_follow := goodIn_r _ [15, 10, 16, 17, 18, 19, 20, 21, 22, 23, 24, 25, 26, 27, 8, 28, 29, 30, 31, 32, 33, 34, 35, 36, 37, 38, 39, 40, 41, 42, 43, 44, 45, 46, 47, 48, 49, 50, 51, 52, 53, 54, 55, 56, 57, 58, 59, 60, 61, 62, 63, 99, 100, 101, 102, 103, 104, 105, 106, 107, 108, 87, 88, 89, 90, 91, 92, 93, 94, 95, 96, 97, 98, 109, 110, 111, 112, 113, 114, 115, 116, 117, 118, 119, 120] (by decide +kernel) (by decide +kernel)
set_option maxRecDepth 20000 in
theorem gX11_trialLeast_X5_follow : GoodIn wsX11_trialLeast (wsV RX11 321 RX5 yX5_follow wsX5_follow) := goodIn_app (goodIn_of _ (by decide +kernel)) ggX11_trialLeast_X5_follow
set_option maxRecDepth 20000 in
theorem ggX11_trialLeast_X5_least : GoodIn wsX11_trialLeast wsX5_least := goodIn_r _ [67, 36, 43, 44, 45, 8, 46, 47, 68, 69, 70, 71, 34, 35, 99, 100, 101, 102, 103, 104, 105, 106, 107, 108] (by decide +kernel) (by decide +kernel)
set_option maxRecDepth 20000 in
theorem gX11_trialLeast_X5_least : GoodIn wsX11_trialLeast (wsV RX11 325 RX5 yX5_least wsX5_least) := goodIn_app (goodIn_of _ (by decide +kernel)) ggX11_trialLeast_X5_least
theorem dX11_trialLeast_0 : decode cX11_trialLeast 0 = .ok (.aload_n 0, 1) := by decide +kernel
theorem dX11_trialLeast_1 : decode cX11_trialLeast 1 = .ok (.getfield 71, 3) := by decide +kernel
theorem dX11_trialLeast_4 : decode cX11_trialLeast 4 = .ok (.invokevirtual 120, 3) := by decide +kernel
theorem dX11_trialLeast_7 : decode cX11_trialLeast 7 = .ok (.aload_n 0, 1) := by decide +kernel
theorem dX11_trialLeast_8 : decode cX11_trialLeast 8 = .ok (.getfield 71, 3) := by decide +kernel
theorem dX11_trialLeast_11 : decode cX11_trialLeast 11 = .ok (.aload_n 0, 1) := by decide +kernel
theorem dX11_trialLeast_12 : decode cX11_trialLeast 12 = .ok (.getfield 26, 3) := by decide +kernel
theorem dX11_trialLeast_15 : decode cX11_trialLeast 15 = .ok (.iload_n 1, 1) := by decide +kernel
theorem dX11_trialLeast_16 : decode cX11_trialLeast 16 = .ok (.iload_n 2, 1) := by decide +kernel
theorem dX11_trialLeast_17 : decode cX11_trialLeast 17 = .ok (.invokevirtual 321, 3) := by decide +kernel
theorem dX11_trialLeast_20 : decode cX11_trialLeast 20 = .ok (.aload_n 0, 1) := by decide +kernel
theorem dX11_trialLeast_21 : decode cX11_trialLeast 21 = .ok (.getfield 71, 3) := by decide +kernel
theorem dX11_trialLeast_24 : decode cX11_trialLeast 24 = .ok (.aload_n 0, 1) := by decide +kernel
theorem dX11_trialLeast_25 : decode cX11_trialLeast 25 = .ok (.getfield 26, 3) := by decide +kernel
theorem dX11_trialLeast_28 : decode cX11_trialLeast 28 = .ok (.getfield 143, 3) := by decide +kernel
theorem dX11_trialLeast_31 : decode cX11_trialLeast 31 = .ok (.getfield 175, 3) := by decide +kernel
theorem dX11_trialLeast_34 : decode cX11_trialLeast 34 = .ok (.invokevirtual 325, 3) := by decide +kernel
theorem dX11_trialLeast_37 : decode cX11_trialLeast 37 = .ok (.ireturn, 1) := by decide +kernel
set_option maxRecDepth 20000 in
theorem ggX11_ratio_X11_best : GoodIn wsX11_ratio wsX11_best := goodIn_r _ [9, 1, 2, 3, 10, 11, 12, 8, 13, 14, 15, 16, 17, 18, 19, 20, 21, 22, 23, 24, 25, 26, 27, 28, 29, 30, 31, 32, 33, 34, 35, 36, 37, 38, 39, 40, 41, 42, 43, 44, 45, 46, 47, 48, 49, 50, 51, 52, 53, 54, 55, 56, 57, 58, 59, 60, 61, 62, 63, 64, 65, 66, 67, 68, 69, 70, 71, 72, 73, 74, 75, 76, 77, 78, 84, 85, 86, 87, 88, 89, 90, 91, 92, 93, 94, 95, 96, 97, 98, 99, 100, 101, 102, 103, 104, 105, 106, 107, 108, 109, 110, 111, 112, 113, 114, 115, 116, 117, 118, 119, 120, 121, 122, 123, 124, 125, 126, 127, 128, 129, 130, 131, 132] (by decide +kernel) (by decide +kernel)
set_option maxRecDepth 20000 in
theorem gX11_ratio_X11_best : GoodIn wsX11_ratio (wsV RX11 351 RX11 yX11_best wsX11_best) := goodIn_app (goodIn_of _ (by decide +kernel)) ggX11_ratio_X11_best
set_option maxRecDepth 20000 in
theorem ggX11_ratio_X11_floatBits : GoodIn wsX11_ratio wsX11_floatBits := goodIn_r _ [81, 82, 83] (by decide +kernel) (by decide +kernel)
set_option maxRecDepth 20000 in
theorem gX11_ratio_X11_floatBits : GoodIn wsX11_ratio (va_wsS RX11 204 yX11_floatBits wsX11_floatBits) := goodIn_app (goodIn_of _ (by decide +kernel)) ggX11_ratio_X11_floatBits
theorem dX11_ratio_0 : decode cX11_ratio 0 = .ok (.aload_n 0, 1) := by decide +kernel
theorem dX11_ratio_1 : decode cX11_ratio 1 = .ok (.invokevirtual 351, 3) := by decide +kernel
theorem dX11_ratio_4 : decode cX11_ratio 4 = .ok (.istore_n 1, 1) := by decide +kernel
theorem dX11_ratio_5 : decode cX11_ratio 5 = .ok (.iload_n 1, 1) := by decide +kernel
theorem dX11_ratio_6 : decode cX11_ratio 6 = .ok (.iconst 1, 1) := by decide +kernel
theorem dX11_ratio_7 : decode cX11_ratio 7 = .ok (.if_icmp .ge 5, 3) := by decide +kernel
theorem dX11_ratio_10 : decode cX11_ratio 10 = .ok (.iconst (-1), 1) := by decide +kernel
theorem dX11_ratio_11 : decode cX11_ratio 11 = .ok (.ireturn, 1) := by decide +kernel
theorem dX11_ratio_12 : decode cX11_ratio 12 = .ok (.iconst 0, 1) := by decide +kernel
theorem dX11_ratio_13 : decode cX11_ratio 13 = .ok (.istore_n 2, 1) := by decide +kernel
theorem dX11_ratio_14 : decode cX11_ratio 14 = .ok (.iconst 0, 1) := by decide +kernel
theorem dX11_ratio_15 : decode cX11_ratio 15 = .ok (.istore_n 3, 1) := by decide +kernel
theorem dX11_ratio_16 : decode cX11_ratio 16 = .ok (.iload_n 3, 1) := by decide +kernel
theorem dX11_ratio_17 : decode cX11_ratio 17 = .ok (.aload_n 0, 1) := by decide +kernel
theorem dX11_ratio_18 : decode cX11_ratio 18 = .ok (.getfield 26, 3) := by decide +kernel
theorem dX11_ratio_21 : decode cX11_ratio 21 = .ok (.getfield 143, 3) := by decide +kernel
theorem dX11_ratio_24 : decode cX11_ratio 24 = .ok (.getfield 175, 3) := by decide +kernel
theorem dX11_ratio_27 : decode cX11_ratio 27 = .ok (.if_icmp .ge 24, 3) := by decide +kernel
theorem dX11_ratio_30 : decode cX11_ratio 30 = .ok (.iload_n 2, 1) := by decide +kernel
theorem dX11_ratio_31 : decode cX11_ratio 31 = .ok (.aload_n 0, 1) := by decide +kernel
theorem dX11_ratio_32 : decode cX11_ratio 32 = .ok (.getfield 26, 3) := by decide +kernel
theorem dX11_ratio_35 : decode cX11_ratio 35 = .ok (.getfield 143, 3) := by decide +kernel
theorem dX11_ratio_38 : decode cX11_ratio 38 = .ok (.getfield 232, 3) := by decide +kernel
theorem dX11_ratio_41 : decode cX11_ratio 41 = .ok (.iload_n 3, 1) := by decide +kernel
theorem dX11_ratio_42 : decode cX11_ratio 42 = .ok (.iaload, 1) := by decide +kernel
theorem dX11_ratio_43 : decode cX11_ratio 43 = .ok (.iadd, 1) := by decide +kernel
theorem dX11_ratio_44 : decode cX11_ratio 44 = .ok (.istore_n 2, 1) := by decide +kernel
theorem dX11_ratio_45 : decode cX11_ratio 45 = .ok (.iinc 3 1, 3) := by decide +kernel
theorem dX11_ratio_48 : decode cX11_ratio 48 = .ok (.goto (-32), 3) := by decide +kernel
theorem dX11_ratio_51 : decode cX11_ratio 51 = .ok (.iload_n 2, 1) := by decide +kernel
theorem dX11_ratio_52 : decode cX11_ratio 52 = .ok (.i2f, 1) := by decide +kernel
theorem dX11_ratio_53 : decode cX11_ratio 53 = .ok (.iload_n 1, 1) := by decide +kernel
theorem dX11_ratio_54 : decode cX11_ratio 54 = .ok (.i2f, 1) := by decide +kernel
theorem dX11_ratio_55 : decode cX11_ratio 55 = .ok (.fdiv, 1) := by decide +kernel
theorem dX11_ratio_56 : decode cX11_ratio 56 = .ok (.invokestatic 204, 3) := by decide +kernel
theorem dX11_ratio_59 : decode cX11_ratio 59 = .ok (.ireturn, 1) := by decide +kernel
set_option maxRecDepth 20000 in
theorem ggX11_soon_X10_has : GoodIn wsX11_soon wsX10_has := goodIn_r _ [11, 12, 116, 117, 118, 119, 120] (by decide +kernel) (by decide +kernel)
set_option maxRecDepth 20000 in
theorem gX11_soon_X10_has : GoodIn wsX11_soon (wsV RX11 182 RX10 yX10_has wsX10_has) := goodIn_app (goodIn_of _ (by decide +kernel)) ggX11_soon_X10_has
set_option maxRecDepth 20000 in
theorem ggX11_soon_X8_copyFrom : GoodIn wsX11_soon wsX8_copyFrom := goodIn_r _ [17, 18, 19, 20, 21, 22, 23, 24, 25, 26, 27, 28, 121, 122, 123, 124, 125, 126, 127] (by decide +kernel) (by decide +kernel)
set_option maxRecDepth 20000 in
theorem gX11_soon_X8_copyFrom : GoodIn wsX11_soon (wsV RX11 354 RX8 yX8_copyFrom wsX8_copyFrom) := goodIn_app (goodIn_of _ (by decide +kernel)) ggX11_soon_X8_copyFrom
set_option maxRecDepth 20000 in
theorem ggX11_soon_X8_holds : GoodIn wsX11_soon wsX8_holds := goodIn_r _ [32, 20, 121, 122, 123, 124, 125, 126, 127] (by decide +kernel) (by decide +kernel)
set_option maxRecDepth 20000 in
theorem gX11_soon_X8_holds : GoodIn wsX11_soon (wsV RX11 208 RX8 yX8_holds wsX8_holds) := goodIn_app (goodIn_of _ (by decide +kernel)) ggX11_soon_X8_holds
set_option maxRecDepth 20000 in
theorem ggX11_soon_X8_serve : GoodIn wsX11_soon wsX8_serve := goodIn_r _ [36, 22, 37, 18, 19, 38, 39, 40, 41, 42, 16, 43, 28, 44, 45, 30, 31, 32, 20, 46, 47, 48, 10, 49, 50, 51, 52, 53, 54, 55, 56, 57, 58, 59, 60, 61, 62, 63, 64, 27, 65, 66, 67, 68, 69, 70, 71, 72, 21, 73, 74, 75, 76, 77, 78, 79, 80, 81, 82, 83, 84, 85, 86, 87, 88, 89, 121, 122, 123, 124, 125, 126, 127, 116, 117, 118, 119, 120, 112, 113, 114, 115] (by decide +kernel) (by decide +kernel)
set_option maxRecDepth 20000 in
theorem gX11_soon_X8_serve : GoodIn wsX11_soon (wsV RX11 359 RX8 yX8_serve wsX8_serve) := goodIn_app (goodIn_of _ (by decide +kernel)) ggX11_soon_X8_serve
theorem dX11_soon_0 : decode cX11_soon 0 = .ok (.aload_n 0, 1) := by decide +kernel
theorem dX11_soon_1 : decode cX11_soon 1 = .ok (.getfield 26, 3) := by decide +kernel
theorem dX11_soon_4 : decode cX11_soon 4 = .ok (.getfield 127, 3) := by decide +kernel
theorem dX11_soon_7 : decode cX11_soon 7 = .ok (.iload_n 1, 1) := by decide +kernel
theorem dX11_soon_8 : decode cX11_soon 8 = .ok (.invokevirtual 182, 3) := by decide +kernel
theorem dX11_soon_11 : decode cX11_soon 11 = .ok (.ifCond .ne 5, 3) := by decide +kernel
theorem dX11_soon_14 : decode cX11_soon 14 = .ok (.iconst (-1), 1) := by decide +kernel
theorem dX11_soon_15 : decode cX11_soon 15 = .ok (.ireturn, 1) := by decide +kernel
theorem dX11_soon_16 : decode cX11_soon 16 = .ok (.aload_n 0, 1) := by decide +kernel
theorem dX11_soon_17 : decode cX11_soon 17 = .ok (.getfield 58, 3) := by decide +kernel
theorem dX11_soon_20 : decode cX11_soon 20 = .ok (.aload_n 0, 1) := by decide +kernel
theorem dX11_soon_21 : decode cX11_soon 21 = .ok (.getfield 26, 3) := by decide +kernel
theorem dX11_soon_24 : decode cX11_soon 24 = .ok (.getfield 160, 3) := by decide +kernel
theorem dX11_soon_27 : decode cX11_soon 27 = .ok (.invokevirtual 354, 3) := by decide +kernel
theorem dX11_soon_30 : decode cX11_soon 30 = .ok (.iconst 0, 1) := by decide +kernel
theorem dX11_soon_31 : decode cX11_soon 31 = .ok (.istore_n 2, 1) := by decide +kernel
theorem dX11_soon_32 : decode cX11_soon 32 = .ok (.iload_n 2, 1) := by decide +kernel
theorem dX11_soon_33 : decode cX11_soon 33 = .ok (.bipush 40, 2) := by decide +kernel
theorem dX11_soon_35 : decode cX11_soon 35 = .ok (.if_icmp .gt 50, 3) := by decide +kernel
theorem dX11_soon_38 : decode cX11_soon 38 = .ok (.aload_n 0, 1) := by decide +kernel
theorem dX11_soon_39 : decode cX11_soon 39 = .ok (.getfield 58, 3) := by decide +kernel
theorem dX11_soon_42 : decode cX11_soon 42 = .ok (.iload_n 1, 1) := by decide +kernel
theorem dX11_soon_43 : decode cX11_soon 43 = .ok (.invokevirtual 208, 3) := by decide +kernel
theorem dX11_soon_46 : decode cX11_soon 46 = .ok (.ifCond .eq 5, 3) := by decide +kernel
theorem dX11_soon_49 : decode cX11_soon 49 = .ok (.iload_n 2, 1) := by decide +kernel
theorem dX11_soon_50 : decode cX11_soon 50 = .ok (.ireturn, 1) := by decide +kernel
theorem dX11_soon_51 : decode cX11_soon 51 = .ok (.aload_n 0, 1) := by decide +kernel
theorem dX11_soon_52 : decode cX11_soon 52 = .ok (.getfield 51, 3) := by decide +kernel
theorem dX11_soon_55 : decode cX11_soon 55 = .ok (.iconst 0, 1) := by decide +kernel
theorem dX11_soon_56 : decode cX11_soon 56 = .ok (.putfield 358, 3) := by decide +kernel
theorem dX11_soon_59 : decode cX11_soon 59 = .ok (.aload_n 0, 1) := by decide +kernel
theorem dX11_soon_60 : decode cX11_soon 60 = .ok (.getfield 58, 3) := by decide +kernel
theorem dX11_soon_63 : decode cX11_soon 63 = .ok (.aload_n 0, 1) := by decide +kernel
theorem dX11_soon_64 : decode cX11_soon 64 = .ok (.getfield 26, 3) := by decide +kernel
theorem dX11_soon_67 : decode cX11_soon 67 = .ok (.getfield 127, 3) := by decide +kernel
theorem dX11_soon_70 : decode cX11_soon 70 = .ok (.iload_n 1, 1) := by decide +kernel
theorem dX11_soon_71 : decode cX11_soon 71 = .ok (.aload_n 0, 1) := by decide +kernel
theorem dX11_soon_72 : decode cX11_soon 72 = .ok (.getfield 51, 3) := by decide +kernel
theorem dX11_soon_75 : decode cX11_soon 75 = .ok (.invokevirtual 359, 3) := by decide +kernel
theorem dX11_soon_78 : decode cX11_soon 78 = .ok (.pop, 1) := by decide +kernel
theorem dX11_soon_79 : decode cX11_soon 79 = .ok (.iinc 2 1, 3) := by decide +kernel
theorem dX11_soon_82 : decode cX11_soon 82 = .ok (.goto (-50), 3) := by decide +kernel
theorem dX11_soon_85 : decode cX11_soon 85 = .ok (.iconst (-1), 1) := by decide +kernel
theorem dX11_soon_86 : decode cX11_soon 86 = .ok (.ireturn, 1) := by decide +kernel
set_option maxRecDepth 20000 in
theorem ggX11_victims_X10_has : GoodIn wsX11_victims wsX10_has := goodIn_r _ [14, 15, 90, 91, 92, 93, 94] (by decide +kernel) (by decide +kernel)
set_option maxRecDepth 20000 in
theorem gX11_victims_X10_has : GoodIn wsX11_victims (wsV RX11 182 RX10 yX10_has wsX10_has) := goodIn_app (goodIn_of _ (by decide +kernel)) ggX11_victims_X10_has
set_option maxRecDepth 20000 in
theorem ggX11_victims_X8_holds : GoodIn wsX11_victims wsX8_holds := goodIn_r _ [20, 21, 95, 96, 97, 98, 99, 100, 101] (by decide +kernel) (by decide +kernel)
set_option maxRecDepth 20000 in
theorem gX11_victims_X8_holds : GoodIn wsX11_victims (wsV RX11 208 RX8 yX8_holds wsX8_holds) := goodIn_app (goodIn_of _ (by decide +kernel)) ggX11_victims_X8_holds
set_option maxRecDepth 20000 in
theorem ggX11_victims_X8_copyFrom : GoodIn wsX11_victims wsX8_copyFrom := goodIn_r _ [25, 26, 27, 21, 28, 29, 30, 31, 32, 33, 34, 35, 95, 96, 97, 98, 99, 100, 101] (by decide +kernel) (by decide +kernel)
set_option maxRecDepth 20000 in
theorem gX11_victims_X8_copyFrom : GoodIn wsX11_victims (wsV RX11 354 RX8 yX8_copyFrom wsX8_copyFrom) := goodIn_app (goodIn_of _ (by decide +kernel)) ggX11_victims_X8_copyFrom
set_option maxRecDepth 20000 in
theorem ggX11_victims_X8_makeWay : GoodIn wsX11_victims wsX8_makeWay := goodIn_r _ [39, 29, 40, 41, 42, 19, 43, 26, 28, 44, 45, 46, 47, 48, 49, 17, 18, 20, 21, 50, 51, 52, 53, 54, 55, 56, 57, 58, 59, 60, 61, 62, 63, 64, 65, 66, 67, 95, 96, 97, 98, 99, 100, 101, 90, 91, 92, 93, 94, 102, 103, 104, 105] (by decide +kernel) (by decide +kernel)
set_option maxRecDepth 20000 in
theorem gX11_victims_X8_makeWay : GoodIn wsX11_victims (wsV RX11 363 RX8 yX8_makeWay wsX8_makeWay) := goodIn_app (goodIn_of _ (by decide +kernel)) ggX11_victims_X8_makeWay
theorem dX11_victims_0 : decode cX11_victims 0 = .ok (.aload_n 0, 1) := by decide +kernel
theorem dX11_victims_1 : decode cX11_victims 1 = .ok (.getfield 26, 3) := by decide +kernel
theorem dX11_victims_4 : decode cX11_victims 4 = .ok (.getfield 160, 3) := by decide +kernel
theorem dX11_victims_7 : decode cX11_victims 7 = .ok (.astore_n 2, 1) := by decide +kernel
theorem dX11_victims_8 : decode cX11_victims 8 = .ok (.aload_n 0, 1) := by decide +kernel
theorem dX11_victims_9 : decode cX11_victims 9 = .ok (.getfield 26, 3) := by decide +kernel
theorem dX11_victims_12 : decode cX11_victims 12 = .ok (.getfield 127, 3) := by decide +kernel
theorem dX11_victims_15 : decode cX11_victims 15 = .ok (.iload_n 1, 1) := by decide +kernel
theorem dX11_victims_16 : decode cX11_victims 16 = .ok (.invokevirtual 182, 3) := by decide +kernel
theorem dX11_victims_19 : decode cX11_victims 19 = .ok (.ifCond .eq 30, 3) := by decide +kernel
theorem dX11_victims_22 : decode cX11_victims 22 = .ok (.aload_n 2, 1) := by decide +kernel
theorem dX11_victims_23 : decode cX11_victims 23 = .ok (.iload_n 1, 1) := by decide +kernel
theorem dX11_victims_24 : decode cX11_victims 24 = .ok (.invokevirtual 208, 3) := by decide +kernel
theorem dX11_victims_27 : decode cX11_victims 27 = .ok (.ifCond .ne 22, 3) := by decide +kernel
theorem dX11_victims_30 : decode cX11_victims 30 = .ok (.aload_n 0, 1) := by decide +kernel
theorem dX11_victims_31 : decode cX11_victims 31 = .ok (.getfield 26, 3) := by decide +kernel
theorem dX11_victims_34 : decode cX11_victims 34 = .ok (.getfield 127, 3) := by decide +kernel
theorem dX11_victims_37 : decode cX11_victims 37 = .ok (.getfield 185, 3) := by decide +kernel
theorem dX11_victims_40 : decode cX11_victims 40 = .ok (.iload_n 1, 1) := by decide +kernel
theorem dX11_victims_41 : decode cX11_victims 41 = .ok (.iaload, 1) := by decide +kernel
theorem dX11_victims_42 : decode cX11_victims 42 = .ok (.aload_n 2, 1) := by decide +kernel
theorem dX11_victims_43 : decode cX11_victims 43 = .ok (.getfield 163, 3) := by decide +kernel
theorem dX11_victims_46 : decode cX11_victims 46 = .ok (.if_icmp .le 5, 3) := by decide +kernel
theorem dX11_victims_49 : decode cX11_victims 49 = .ok (.iconst (-1), 1) := by decide +kernel
theorem dX11_victims_50 : decode cX11_victims 50 = .ok (.ireturn, 1) := by decide +kernel
theorem dX11_victims_51 : decode cX11_victims 51 = .ok (.aload_n 0, 1) := by decide +kernel
theorem dX11_victims_52 : decode cX11_victims 52 = .ok (.getfield 58, 3) := by decide +kernel
theorem dX11_victims_55 : decode cX11_victims 55 = .ok (.aload_n 2, 1) := by decide +kernel
theorem dX11_victims_56 : decode cX11_victims 56 = .ok (.invokevirtual 354, 3) := by decide +kernel
theorem dX11_victims_59 : decode cX11_victims 59 = .ok (.aload_n 0, 1) := by decide +kernel
theorem dX11_victims_60 : decode cX11_victims 60 = .ok (.getfield 51, 3) := by decide +kernel
theorem dX11_victims_63 : decode cX11_victims 63 = .ok (.iconst 0, 1) := by decide +kernel
theorem dX11_victims_64 : decode cX11_victims 64 = .ok (.putfield 358, 3) := by decide +kernel
theorem dX11_victims_67 : decode cX11_victims 67 = .ok (.aload_n 0, 1) := by decide +kernel
theorem dX11_victims_68 : decode cX11_victims 68 = .ok (.getfield 58, 3) := by decide +kernel
theorem dX11_victims_71 : decode cX11_victims 71 = .ok (.aload_n 0, 1) := by decide +kernel
theorem dX11_victims_72 : decode cX11_victims 72 = .ok (.getfield 26, 3) := by decide +kernel
theorem dX11_victims_75 : decode cX11_victims 75 = .ok (.getfield 127, 3) := by decide +kernel
theorem dX11_victims_78 : decode cX11_victims 78 = .ok (.aload_n 0, 1) := by decide +kernel
theorem dX11_victims_79 : decode cX11_victims 79 = .ok (.getfield 26, 3) := by decide +kernel
theorem dX11_victims_82 : decode cX11_victims 82 = .ok (.getfield 127, 3) := by decide +kernel
theorem dX11_victims_85 : decode cX11_victims 85 = .ok (.getfield 185, 3) := by decide +kernel
theorem dX11_victims_88 : decode cX11_victims 88 = .ok (.iload_n 1, 1) := by decide +kernel
theorem dX11_victims_89 : decode cX11_victims 89 = .ok (.iaload, 1) := by decide +kernel
theorem dX11_victims_90 : decode cX11_victims 90 = .ok (.aload_n 0, 1) := by decide +kernel
theorem dX11_victims_91 : decode cX11_victims 91 = .ok (.getfield 51, 3) := by decide +kernel
theorem dX11_victims_94 : decode cX11_victims 94 = .ok (.invokevirtual 363, 3) := by decide +kernel
theorem dX11_victims_97 : decode cX11_victims 97 = .ok (.aload_n 2, 1) := by decide +kernel
theorem dX11_victims_98 : decode cX11_victims 98 = .ok (.getfield 165, 3) := by decide +kernel
theorem dX11_victims_101 : decode cX11_victims 101 = .ok (.aload_n 0, 1) := by decide +kernel
theorem dX11_victims_102 : decode cX11_victims 102 = .ok (.getfield 58, 3) := by decide +kernel
theorem dX11_victims_105 : decode cX11_victims 105 = .ok (.getfield 165, 3) := by decide +kernel
theorem dX11_victims_108 : decode cX11_victims 108 = .ok (.ixor, 1) := by decide +kernel
theorem dX11_victims_109 : decode cX11_victims 109 = .ok (.ireturn, 1) := by decide +kernel
set_option maxRecDepth 20000 in
theorem ggX11_curve_X11_costBy : GoodIn wsX11_curve wsX11_costBy := goodIn_r _ [8, 9, 1, 10, 11, 12, 13, 14, 15, 16, 17, 18, 19, 20, 21, 22, 23, 24, 25, 26, 27, 28, 29, 30, 31, 32, 33, 34, 35, 36, 37, 38, 39, 40, 41, 42, 43, 44, 45, 46, 47, 48, 49, 50, 51, 52, 53, 54, 55, 56, 57, 58, 59, 60, 61, 62, 63, 64, 65, 66, 67, 68, 69, 70, 71, 72, 73, 74, 75, 76, 77, 78, 79, 80, 81, 82, 83, 84, 85, 86, 87, 88, 160, 161, 162, 163, 164, 165, 166, 167, 168, 169, 170, 171, 172, 173, 174, 175, 176, 177, 178, 179, 180, 181, 189, 190, 191, 192, 193, 194, 195, 196, 197, 182, 183, 184, 185, 186, 187, 188, 198, 199, 200, 201, 202] (by decide +kernel) (by decide +kernel)
set_option maxRecDepth 20000 in
theorem gX11_curve_X11_costBy : GoodIn wsX11_curve (wsV RX11 367 RX11 yX11_costBy wsX11_costBy) := goodIn_app (goodIn_of _ (by decide +kernel)) ggX11_curve_X11_costBy
set_option maxRecDepth 20000 in
theorem ggX11_curve_X11_trialLeast : GoodIn wsX11_curve wsX11_trialLeast := goodIn_r _ [92, 93, 1, 10, 11, 94, 95, 96, 97, 98, 99, 100, 101, 102, 103, 104, 105, 106, 107, 108, 109, 110, 111, 112, 113, 114, 115, 116, 117, 118, 119, 120, 121, 122, 123, 124, 125, 126, 127, 128, 47, 129, 130, 131, 132, 133, 134, 135, 136, 137, 138, 139, 140, 141, 142, 143, 144, 145, 146, 147, 148, 149, 150, 151, 152, 153, 154, 155, 156, 157, 158, 159, 160, 161, 162, 163, 164, 165, 166, 167, 168, 169, 170, 171, 172, 173, 174, 175, 176, 177, 178, 179, 180, 181, 189, 190, 191, 192, 193, 203, 204, 205, 206, 207, 208, 209, 210, 211, 212, 182, 183, 184, 185, 186, 187, 188, 198, 199, 200, 201, 202] (by decide +kernel) (by decide +kernel)
set_option maxRecDepth 20000 in
theorem gX11_curve_X11_trialLeast : GoodIn wsX11_curve (wsV RX11 347 RX11 yX11_trialLeast wsX11_trialLeast) := goodIn_app (goodIn_of _ (by decide +kernel)) ggX11_curve_X11_trialLeast
theorem dX11_curve_0 : decode cX11_curve 0 = .ok (.iload_n 1, 1) := by decide +kernel
theorem dX11_curve_1 : decode cX11_curve 1 = .ok (.iconst 1, 1) := by decide +kernel
theorem dX11_curve_2 : decode cX11_curve 2 = .ok (.if_icmp .lt 18, 3) := by decide +kernel
theorem dX11_curve_5 : decode cX11_curve 5 = .ok (.iload_n 1, 1) := by decide +kernel
theorem dX11_curve_6 : decode cX11_curve 6 = .ok (.bipush 20, 2) := by decide +kernel
theorem dX11_curve_8 : decode cX11_curve 8 = .ok (.if_icmp .gt 12, 3) := by decide +kernel
theorem dX11_curve_11 : decode cX11_curve 11 = .ok (.iload_n 2, 1) := by decide +kernel
theorem dX11_curve_12 : decode cX11_curve 12 = .ok (.ifCond .lt 8, 3) := by decide +kernel
theorem dX11_curve_15 : decode cX11_curve 15 = .ok (.iload_n 2, 1) := by decide +kernel
theorem dX11_curve_16 : decode cX11_curve 16 = .ok (.iconst 1, 1) := by decide +kernel
theorem dX11_curve_17 : decode cX11_curve 17 = .ok (.if_icmp .le 5, 3) := by decide +kernel
theorem dX11_curve_20 : decode cX11_curve 20 = .ok (.iconst (-1), 1) := by decide +kernel
theorem dX11_curve_21 : decode cX11_curve 21 = .ok (.ireturn, 1) := by decide +kernel
theorem dX11_curve_22 : decode cX11_curve 22 = .ok (.iload_n 2, 1) := by decide +kernel
theorem dX11_curve_23 : decode cX11_curve 23 = .ok (.ifCond .ne 21, 3) := by decide +kernel
theorem dX11_curve_26 : decode cX11_curve 26 = .ok (.aload_n 0, 1) := by decide +kernel
theorem dX11_curve_27 : decode cX11_curve 27 = .ok (.iload_n 1, 1) := by decide +kernel
theorem dX11_curve_28 : decode cX11_curve 28 = .ok (.aload_n 0, 1) := by decide +kernel
theorem dX11_curve_29 : decode cX11_curve 29 = .ok (.getfield 26, 3) := by decide +kernel
theorem dX11_curve_32 : decode cX11_curve 32 = .ok (.getfield 160, 3) := by decide +kernel
theorem dX11_curve_35 : decode cX11_curve 35 = .ok (.getfield 164, 3) := by decide +kernel
theorem dX11_curve_38 : decode cX11_curve 38 = .ok (.invokevirtual 367, 3) := by decide +kernel
theorem dX11_curve_41 : decode cX11_curve 41 = .ok (.goto 9, 3) := by decide +kernel
theorem dX11_curve_44 : decode cX11_curve 44 = .ok (.aload_n 0, 1) := by decide +kernel
theorem dX11_curve_45 : decode cX11_curve 45 = .ok (.iload_n 1, 1) := by decide +kernel
theorem dX11_curve_46 : decode cX11_curve 46 = .ok (.iconst (-1), 1) := by decide +kernel
theorem dX11_curve_47 : decode cX11_curve 47 = .ok (.invokevirtual 347, 3) := by decide +kernel
theorem dX11_curve_50 : decode cX11_curve 50 = .ok (.ireturn, 1) := by decide +kernel
set_option maxRecDepth 20000 in
theorem ggX11_would_X11_costBy : GoodIn wsX11_would wsX11_costBy := goodIn_r _ [8, 9, 1, 10, 11, 12, 13, 14, 15, 16, 17, 18, 19, 20, 21, 22, 23, 24, 25, 26, 27, 28, 29, 30, 31, 32, 33, 34, 35, 36, 37, 38, 39, 40, 41, 42, 43, 44, 45, 46, 47, 48, 49, 50, 51, 52, 53, 54, 55, 56, 57, 58, 59, 60, 61, 62, 63, 64, 65, 66, 67, 68, 69, 70, 71, 72, 73, 74, 75, 76, 77, 78, 79, 80, 81, 82, 83, 84, 85, 86, 87, 88, 89, 90, 91, 92, 93, 94, 95, 96, 97, 98, 99, 100, 101, 102, 103, 104, 105, 106, 107, 108, 109, 110, 118, 119, 120, 121, 122, 123, 124, 125, 126, 111, 112, 113, 114, 115, 116, 117, 127, 128, 129, 130, 131] (by decide +kernel) (by decide +kernel)
set_option maxRecDepth 20000 in
theorem gX11_would_X11_costBy : GoodIn wsX11_would (wsV RX11 367 RX11 yX11_costBy wsX11_costBy) := goodIn_app (goodIn_of _ (by decide +kernel)) ggX11_would_X11_costBy
theorem dX11_would_0 : decode cX11_would 0 = .ok (.iload_n 1, 1) := by decide +kernel
theorem dX11_would_1 : decode cX11_would 1 = .ok (.ifCond .lt 8, 3) := by decide +kernel
theorem dX11_would_4 : decode cX11_would 4 = .ok (.iload_n 1, 1) := by decide +kernel
theorem dX11_would_5 : decode cX11_would 5 = .ok (.iconst 2, 1) := by decide +kernel
theorem dX11_would_6 : decode cX11_would 6 = .ok (.if_icmp .le 7, 3) := by decide +kernel
theorem dX11_would_9 : decode cX11_would 9 = .ok (.iconst (-1), 1) := by decide +kernel
theorem dX11_would_10 : decode cX11_would 10 = .ok (.goto 18, 3) := by decide +kernel
theorem dX11_would_13 : decode cX11_would 13 = .ok (.aload_n 0, 1) := by decide +kernel
theorem dX11_would_14 : decode cX11_would 14 = .ok (.aload_n 0, 1) := by decide +kernel
theorem dX11_would_15 : decode cX11_would 15 = .ok (.getfield 26, 3) := by decide +kernel
theorem dX11_would_18 : decode cX11_would 18 = .ok (.getfield 160, 3) := by decide +kernel
theorem dX11_would_21 : decode cX11_would 21 = .ok (.getfield 163, 3) := by decide +kernel
theorem dX11_would_24 : decode cX11_would 24 = .ok (.iload_n 1, 1) := by decide +kernel
theorem dX11_would_25 : decode cX11_would 25 = .ok (.invokevirtual 367, 3) := by decide +kernel
theorem dX11_would_28 : decode cX11_would 28 = .ok (.ireturn, 1) := by decide +kernel
set_option maxRecDepth 20000 in
theorem ggX11_costBy_X8_begin : GoodIn wsX11_costBy wsX8_begin := goodIn_r _ [13, 14, 15, 16, 17, 18, 19, 20, 113, 114, 115, 116, 117, 118, 119] (by decide +kernel) (by decide +kernel)
set_option maxRecDepth 20000 in
theorem gX11_costBy_X8_begin : GoodIn wsX11_costBy (wsV RX11 248 RX8 yX8_begin wsX8_begin) := goodIn_app (goodIn_of _ (by decide +kernel)) ggX11_costBy_X8_begin
set_option maxRecDepth 20000 in
theorem ggX11_costBy_X8_serve : GoodIn wsX11_costBy wsX8_serve := goodIn_r _ [24, 18, 25, 14, 15, 26, 27, 28, 29, 30, 12, 31, 20, 32, 33, 34, 35, 36, 16, 37, 38, 39, 40, 41, 42, 43, 44, 45, 46, 47, 48, 49, 50, 51, 52, 53, 54, 55, 56, 19, 57, 58, 59, 60, 61, 62, 63, 64, 17, 65, 66, 67, 68, 69, 70, 71, 72, 73, 74, 75, 76, 77, 78, 79, 80, 81, 113, 114, 115, 116, 117, 118, 119, 120, 121, 122, 123, 124, 109, 110, 111, 112] (by decide +kernel) (by decide +kernel)
set_option maxRecDepth 20000 in
theorem gX11_costBy_X8_serve : GoodIn wsX11_costBy (wsV RX11 359 RX8 yX8_serve wsX8_serve) := goodIn_app (goodIn_of _ (by decide +kernel)) ggX11_costBy_X8_serve
theorem dX11_costBy_0 : decode cX11_costBy 0 = .ok (.aload_n 0, 1) := by decide +kernel
theorem dX11_costBy_1 : decode cX11_costBy 1 = .ok (.getfield 58, 3) := by decide +kernel
theorem dX11_costBy_4 : decode cX11_costBy 4 = .ok (.iload_n 1, 1) := by decide +kernel
theorem dX11_costBy_5 : decode cX11_costBy 5 = .ok (.iload_n 2, 1) := by decide +kernel
theorem dX11_costBy_6 : decode cX11_costBy 6 = .ok (.invokevirtual 248, 3) := by decide +kernel
theorem dX11_costBy_9 : decode cX11_costBy 9 = .ok (.iconst 0, 1) := by decide +kernel
theorem dX11_costBy_10 : decode cX11_costBy 10 = .ok (.istore_n 3, 1) := by decide +kernel
theorem dX11_costBy_11 : decode cX11_costBy 11 = .ok (.iconst 0, 1) := by decide +kernel
theorem dX11_costBy_12 : decode cX11_costBy 12 = .ok (.istore 4, 2) := by decide +kernel
theorem dX11_costBy_14 : decode cX11_costBy 14 = .ok (.iload 4, 2) := by decide +kernel
theorem dX11_costBy_16 : decode cX11_costBy 16 = .ok (.aload_n 0, 1) := by decide +kernel
theorem dX11_costBy_17 : decode cX11_costBy 17 = .ok (.getfield 26, 3) := by decide +kernel
theorem dX11_costBy_20 : decode cX11_costBy 20 = .ok (.getfield 143, 3) := by decide +kernel
theorem dX11_costBy_23 : decode cX11_costBy 23 = .ok (.getfield 175, 3) := by decide +kernel
theorem dX11_costBy_26 : decode cX11_costBy 26 = .ok (.if_icmp .ge 51, 3) := by decide +kernel
theorem dX11_costBy_29 : decode cX11_costBy 29 = .ok (.aload_n 0, 1) := by decide +kernel
theorem dX11_costBy_30 : decode cX11_costBy 30 = .ok (.getfield 51, 3) := by decide +kernel
theorem dX11_costBy_33 : decode cX11_costBy 33 = .ok (.iconst 0, 1) := by decide +kernel
theorem dX11_costBy_34 : decode cX11_costBy 34 = .ok (.putfield 358, 3) := by decide +kernel
theorem dX11_costBy_37 : decode cX11_costBy 37 = .ok (.iload_n 3, 1) := by decide +kernel
theorem dX11_costBy_38 : decode cX11_costBy 38 = .ok (.aload_n 0, 1) := by decide +kernel
theorem dX11_costBy_39 : decode cX11_costBy 39 = .ok (.getfield 58, 3) := by decide +kernel
theorem dX11_costBy_42 : decode cX11_costBy 42 = .ok (.aload_n 0, 1) := by decide +kernel
theorem dX11_costBy_43 : decode cX11_costBy 43 = .ok (.getfield 26, 3) := by decide +kernel
theorem dX11_costBy_46 : decode cX11_costBy 46 = .ok (.getfield 127, 3) := by decide +kernel
theorem dX11_costBy_49 : decode cX11_costBy 49 = .ok (.aload_n 0, 1) := by decide +kernel
theorem dX11_costBy_50 : decode cX11_costBy 50 = .ok (.getfield 26, 3) := by decide +kernel
theorem dX11_costBy_53 : decode cX11_costBy 53 = .ok (.getfield 143, 3) := by decide +kernel
theorem dX11_costBy_56 : decode cX11_costBy 56 = .ok (.getfield 229, 3) := by decide +kernel
theorem dX11_costBy_59 : decode cX11_costBy 59 = .ok (.iload 4, 2) := by decide +kernel
theorem dX11_costBy_61 : decode cX11_costBy 61 = .ok (.iaload, 1) := by decide +kernel
theorem dX11_costBy_62 : decode cX11_costBy 62 = .ok (.aload_n 0, 1) := by decide +kernel
theorem dX11_costBy_63 : decode cX11_costBy 63 = .ok (.getfield 51, 3) := by decide +kernel
theorem dX11_costBy_66 : decode cX11_costBy 66 = .ok (.invokevirtual 359, 3) := by decide +kernel
theorem dX11_costBy_69 : decode cX11_costBy 69 = .ok (.iadd, 1) := by decide +kernel
theorem dX11_costBy_70 : decode cX11_costBy 70 = .ok (.istore_n 3, 1) := by decide +kernel
theorem dX11_costBy_71 : decode cX11_costBy 71 = .ok (.iinc 4 1, 3) := by decide +kernel
theorem dX11_costBy_74 : decode cX11_costBy 74 = .ok (.goto (-60), 3) := by decide +kernel
theorem dX11_costBy_77 : decode cX11_costBy 77 = .ok (.iload_n 3, 1) := by decide +kernel
theorem dX11_costBy_78 : decode cX11_costBy 78 = .ok (.ireturn, 1) := by decide +kernel
set_option maxRecDepth 20000 in
theorem ggX11_undo_X3_takeBack : GoodIn wsX11_undo wsX3_takeBack := goodIn_r _ [9, 10, 11, 12, 13, 14, 8, 15, 16, 17, 18, 19, 20, 21, 22, 23, 24, 25, 26, 27, 28, 29, 30, 31, 32, 33, 34, 35, 36, 37, 38, 39, 40, 41, 42, 43, 44, 45, 46, 47, 48, 49, 50, 51, 52, 53, 54, 55, 56, 57, 58, 59, 60, 61, 62, 63, 64, 65, 66, 67, 68, 69, 70, 71, 72, 73, 74, 75, 76, 77, 78, 79, 80, 81, 82, 105, 106, 107, 108, 109, 110, 111, 112, 113, 114, 115, 116, 117, 118, 119, 120, 121, 122, 123, 124, 125, 126, 127, 128, 129, 130, 131, 132, 133, 134, 135, 136, 137, 138, 139, 140, 141] (by decide +kernel) (by decide +kernel)
set_option maxRecDepth 20000 in
theorem gX11_undo_X3_takeBack : GoodIn wsX11_undo (wsV RX11 370 RX3 yX3_takeBack wsX3_takeBack) := goodIn_app (goodIn_of _ (by decide +kernel)) ggX11_undo_X3_takeBack
set_option maxRecDepth 20000 in
theorem ggX11_undo_X5_forget : GoodIn wsX11_undo wsX5_forget := goodIn_r _ [87, 88, 89, 142, 143, 144, 145, 146, 147, 148, 149, 150, 151] (by decide +kernel) (by decide +kernel)
set_option maxRecDepth 20000 in
theorem gX11_undo_X5_forget : GoodIn wsX11_undo (wsV RX11 120 RX5 yX5_forget wsX5_forget) := goodIn_app (goodIn_of _ (by decide +kernel)) ggX11_undo_X5_forget
theorem dX11_undo_0 : decode cX11_undo 0 = .ok (.aload_n 0, 1) := by decide +kernel
theorem dX11_undo_1 : decode cX11_undo 1 = .ok (.getfield 33, 3) := by decide +kernel
theorem dX11_undo_4 : decode cX11_undo 4 = .ok (.aload_n 0, 1) := by decide +kernel
theorem dX11_undo_5 : decode cX11_undo 5 = .ok (.getfield 26, 3) := by decide +kernel
theorem dX11_undo_8 : decode cX11_undo 8 = .ok (.invokevirtual 370, 3) := by decide +kernel
theorem dX11_undo_11 : decode cX11_undo 11 = .ok (.ifCond .ne 5, 3) := by decide +kernel
theorem dX11_undo_14 : decode cX11_undo 14 = .ok (.iconst (-1), 1) := by decide +kernel
theorem dX11_undo_15 : decode cX11_undo 15 = .ok (.ireturn, 1) := by decide +kernel
theorem dX11_undo_16 : decode cX11_undo 16 = .ok (.aload_n 0, 1) := by decide +kernel
theorem dX11_undo_17 : decode cX11_undo 17 = .ok (.getfield 67, 3) := by decide +kernel
theorem dX11_undo_20 : decode cX11_undo 20 = .ok (.invokevirtual 120, 3) := by decide +kernel
theorem dX11_undo_23 : decode cX11_undo 23 = .ok (.aload_n 0, 1) := by decide +kernel
theorem dX11_undo_24 : decode cX11_undo 24 = .ok (.getfield 33, 3) := by decide +kernel
theorem dX11_undo_27 : decode cX11_undo 27 = .ok (.getfield 374, 3) := by decide +kernel
theorem dX11_undo_30 : decode cX11_undo 30 = .ok (.ireturn, 1) := by decide +kernel
set_option maxRecDepth 20000 in
theorem ggX11_image_X9_init : GoodIn wsX11_image wsX9_init := goodIn_r _ [8, 9, 10, 11, 12, 13, 14, 15, 16, 17, 18, 19, 20, 21, 22, 23, 24, 25, 26, 27, 28, 29, 30, 31, 32, 33, 34, 35, 36, 37, 38, 39, 40, 41, 42, 43, 44, 45, 46, 47, 48, 49, 50, 51, 52, 53, 54, 55, 56, 57, 121, 122, 123, 124, 125, 114, 115, 116, 117, 118, 119, 120, 126, 127, 128, 129, 130, 131, 132, 133, 134, 135, 136, 137, 138, 139, 140, 141, 142, 143, 144, 145, 146, 147] (by decide +kernel) (by decide +kernel)
set_option maxRecDepth 20000 in
theorem gX11_image_X9_init : GoodIn wsX11_image (wsX9_init) := ggX11_image_X9_init
set_option maxRecDepth 20000 in
theorem ggX11_image_X9_copyFrom : GoodIn wsX11_image wsX9_copyFrom := goodIn_r _ [61, 15, 19, 23, 62, 63, 64, 25, 65, 66, 67, 14, 68, 69, 32, 70, 71, 72, 73, 33, 34, 35, 74, 75, 76, 18, 77, 39, 40, 78, 79, 41, 80, 42, 44, 81, 82, 83, 22, 84, 85, 48, 86, 49, 50, 51, 87, 88, 89, 27, 90, 91, 92, 93, 94, 95, 96, 97, 55, 98, 56, 57, 114, 115, 116, 117, 118, 119, 120, 121, 122, 123, 124, 125, 126, 127, 128, 129, 130, 131, 132, 133, 134, 135, 136, 137, 138, 139, 140, 141, 142, 143, 144, 145, 146, 147] (by decide +kernel) (by decide +kernel)
set_option maxRecDepth 20000 in
theorem gX11_image_X9_copyFrom : GoodIn wsX11_image (wsV RX11 375 RX9 yX9_copyFrom wsX9_copyFrom) := goodIn_app (goodIn_of _ (by decide +kernel)) ggX11_image_X9_copyFrom
theorem dX11_image_0 : decode cX11_image 0 = .ok (.iload_n 1, 1) := by decide +kernel
theorem dX11_image_1 : decode cX11_image 1 = .ok (.ifCond .lt 8, 3) := by decide +kernel
theorem dX11_image_4 : decode cX11_image 4 = .ok (.iload_n 1, 1) := by decide +kernel
theorem dX11_image_5 : decode cX11_image 5 = .ok (.iconst 2, 1) := by decide +kernel
theorem dX11_image_6 : decode cX11_image 6 = .ok (.if_icmp .lt 5, 3) := by decide +kernel
theorem dX11_image_9 : decode cX11_image 9 = .ok (.iconst 0, 1) := by decide +kernel
theorem dX11_image_10 : decode cX11_image 10 = .ok (.ireturn, 1) := by decide +kernel
theorem dX11_image_11 : decode cX11_image 11 = .ok (.aload_n 0, 1) := by decide +kernel
theorem dX11_image_12 : decode cX11_image 12 = .ok (.getfield 37, 3) := by decide +kernel
theorem dX11_image_15 : decode cX11_image 15 = .ok (.iload_n 1, 1) := by decide +kernel
theorem dX11_image_16 : decode cX11_image 16 = .ok (.aaload, 1) := by decide +kernel
theorem dX11_image_17 : decode cX11_image 17 = .ok (.ifnonnull 16, 3) := by decide +kernel
theorem dX11_image_20 : decode cX11_image 20 = .ok (.aload_n 0, 1) := by decide +kernel
theorem dX11_image_21 : decode cX11_image 21 = .ok (.getfield 37, 3) := by decide +kernel
theorem dX11_image_24 : decode cX11_image 24 = .ok (.iload_n 1, 1) := by decide +kernel
theorem dX11_image_25 : decode cX11_image 25 = .ok (.new 23, 3) := by decide +kernel
theorem dX11_image_28 : decode cX11_image 28 = .ok (.dup, 1) := by decide +kernel
theorem dX11_image_29 : decode cX11_image 29 = .ok (.invokespecial 25, 3) := by decide +kernel
theorem dX11_image_32 : decode cX11_image 32 = .ok (.aastore, 1) := by decide +kernel
theorem dX11_image_33 : decode cX11_image 33 = .ok (.aload_n 0, 1) := by decide +kernel
theorem dX11_image_34 : decode cX11_image 34 = .ok (.getfield 37, 3) := by decide +kernel
theorem dX11_image_37 : decode cX11_image 37 = .ok (.iload_n 1, 1) := by decide +kernel
theorem dX11_image_38 : decode cX11_image 38 = .ok (.aaload, 1) := by decide +kernel
theorem dX11_image_39 : decode cX11_image 39 = .ok (.aload_n 0, 1) := by decide +kernel
theorem dX11_image_40 : decode cX11_image 40 = .ok (.getfield 26, 3) := by decide +kernel
theorem dX11_image_43 : decode cX11_image 43 = .ok (.invokevirtual 375, 3) := by decide +kernel
theorem dX11_image_46 : decode cX11_image 46 = .ok (.iconst 1, 1) := by decide +kernel
theorem dX11_image_47 : decode cX11_image 47 = .ok (.ireturn, 1) := by decide +kernel
set_option maxRecDepth 20000 in
theorem ggX11_restore_X9_copyFrom : GoodIn wsX11_restore wsX9_copyFrom := goodIn_r _ [9, 10, 11, 12, 13, 14, 15, 16, 17, 18, 19, 20, 21, 22, 23, 24, 25, 26, 27, 28, 29, 30, 31, 32, 33, 34, 35, 36, 37, 38, 39, 40, 41, 42, 43, 44, 45, 46, 47, 48, 49, 50, 51, 52, 53, 54, 55, 56, 57, 58, 59, 60, 61, 62, 63, 64, 65, 66, 67, 68, 69, 70, 99, 100, 101, 102, 103, 104, 105, 106, 107, 108, 109, 110, 111, 112, 113, 114, 115, 116, 117, 118, 119, 120, 121, 122, 123, 124, 125, 126, 127, 128, 129, 130, 131, 132] (by decide +kernel) (by decide +kernel)
set_option maxRecDepth 20000 in
theorem gX11_restore_X9_copyFrom : GoodIn wsX11_restore (wsV RX11 375 RX9 yX9_copyFrom wsX9_copyFrom) := goodIn_app (goodIn_of _ (by decide +kernel)) ggX11_restore_X9_copyFrom
set_option maxRecDepth 20000 in
theorem ggX11_restore_X3_forget : GoodIn wsX11_restore wsX3_forget := goodIn_r _ [75, 76, 133, 134, 135] (by decide +kernel) (by decide +kernel)
set_option maxRecDepth 20000 in
theorem gX11_restore_X3_forget : GoodIn wsX11_restore (wsV RX11 117 RX3 yX3_forget wsX3_forget) := goodIn_app (goodIn_of _ (by decide +kernel)) ggX11_restore_X3_forget
set_option maxRecDepth 20000 in
theorem ggX11_restore_X5_forget : GoodIn wsX11_restore wsX5_forget := goodIn_r _ [81, 82, 83, 136, 137, 138, 139, 140, 141, 142, 143, 144, 145] (by decide +kernel) (by decide +kernel)
set_option maxRecDepth 20000 in
theorem gX11_restore_X5_forget : GoodIn wsX11_restore (wsV RX11 120 RX5 yX5_forget wsX5_forget) := goodIn_app (goodIn_of _ (by decide +kernel)) ggX11_restore_X5_forget
theorem dX11_restore_0 : decode cX11_restore 0 = .ok (.iload_n 1, 1) := by decide +kernel
theorem dX11_restore_1 : decode cX11_restore 1 = .ok (.ifCond .lt 17, 3) := by decide +kernel
theorem dX11_restore_4 : decode cX11_restore 4 = .ok (.iload_n 1, 1) := by decide +kernel
theorem dX11_restore_5 : decode cX11_restore 5 = .ok (.iconst 2, 1) := by decide +kernel
theorem dX11_restore_6 : decode cX11_restore 6 = .ok (.if_icmp .ge 12, 3) := by decide +kernel
theorem dX11_restore_9 : decode cX11_restore 9 = .ok (.aload_n 0, 1) := by decide +kernel
theorem dX11_restore_10 : decode cX11_restore 10 = .ok (.getfield 37, 3) := by decide +kernel
theorem dX11_restore_13 : decode cX11_restore 13 = .ok (.iload_n 1, 1) := by decide +kernel
theorem dX11_restore_14 : decode cX11_restore 14 = .ok (.aaload, 1) := by decide +kernel
theorem dX11_restore_15 : decode cX11_restore 15 = .ok (.ifnonnull 5, 3) := by decide +kernel
theorem dX11_restore_18 : decode cX11_restore 18 = .ok (.iconst 0, 1) := by decide +kernel
theorem dX11_restore_19 : decode cX11_restore 19 = .ok (.ireturn, 1) := by decide +kernel
theorem dX11_restore_20 : decode cX11_restore 20 = .ok (.aload_n 0, 1) := by decide +kernel
theorem dX11_restore_21 : decode cX11_restore 21 = .ok (.getfield 26, 3) := by decide +kernel
theorem dX11_restore_24 : decode cX11_restore 24 = .ok (.aload_n 0, 1) := by decide +kernel
theorem dX11_restore_25 : decode cX11_restore 25 = .ok (.getfield 37, 3) := by decide +kernel
theorem dX11_restore_28 : decode cX11_restore 28 = .ok (.iload_n 1, 1) := by decide +kernel
theorem dX11_restore_29 : decode cX11_restore 29 = .ok (.aaload, 1) := by decide +kernel
theorem dX11_restore_30 : decode cX11_restore 30 = .ok (.invokevirtual 375, 3) := by decide +kernel
theorem dX11_restore_33 : decode cX11_restore 33 = .ok (.aload_n 0, 1) := by decide +kernel
theorem dX11_restore_34 : decode cX11_restore 34 = .ok (.getfield 33, 3) := by decide +kernel
theorem dX11_restore_37 : decode cX11_restore 37 = .ok (.invokevirtual 117, 3) := by decide +kernel
theorem dX11_restore_40 : decode cX11_restore 40 = .ok (.aload_n 0, 1) := by decide +kernel
theorem dX11_restore_41 : decode cX11_restore 41 = .ok (.getfield 67, 3) := by decide +kernel
theorem dX11_restore_44 : decode cX11_restore 44 = .ok (.invokevirtual 120, 3) := by decide +kernel
theorem dX11_restore_47 : decode cX11_restore 47 = .ok (.iconst 1, 1) := by decide +kernel
theorem dX11_restore_48 : decode cX11_restore 48 = .ok (.ireturn, 1) := by decide +kernel
theorem dX11_floatBits_0 : decode cX11_floatBits 0 = .ok (.fload_n 0, 1) := by decide +kernel
theorem dX11_floatBits_1 : decode cX11_floatBits 1 = .ok (.fconst 0, 1) := by decide +kernel
theorem dX11_floatBits_2 : decode cX11_floatBits 2 = .ok (.fcmp .g, 1) := by decide +kernel
theorem dX11_floatBits_3 : decode cX11_floatBits 3 = .ok (.ifCond .gt 5, 3) := by decide +kernel
theorem dX11_floatBits_6 : decode cX11_floatBits 6 = .ok (.iconst 0, 1) := by decide +kernel
theorem dX11_floatBits_7 : decode cX11_floatBits 7 = .ok (.ireturn, 1) := by decide +kernel
theorem dX11_floatBits_8 : decode cX11_floatBits 8 = .ok (.fload_n 0, 1) := by decide +kernel
theorem dX11_floatBits_9 : decode cX11_floatBits 9 = .ok (.fstore_n 1, 1) := by decide +kernel
theorem dX11_floatBits_10 : decode cX11_floatBits 10 = .ok (.bipush 127, 2) := by decide +kernel
theorem dX11_floatBits_12 : decode cX11_floatBits 12 = .ok (.istore_n 2, 1) := by decide +kernel
theorem dX11_floatBits_13 : decode cX11_floatBits 13 = .ok (.iconst 0, 1) := by decide +kernel
theorem dX11_floatBits_14 : decode cX11_floatBits 14 = .ok (.istore_n 3, 1) := by decide +kernel
theorem dX11_floatBits_15 : decode cX11_floatBits 15 = .ok (.iload_n 3, 1) := by decide +kernel
theorem dX11_floatBits_16 : decode cX11_floatBits 16 = .ok (.bipush 127, 2) := by decide +kernel
theorem dX11_floatBits_18 : decode cX11_floatBits 18 = .ok (.if_icmp .ge 22, 3) := by decide +kernel
theorem dX11_floatBits_21 : decode cX11_floatBits 21 = .ok (.fload_n 1, 1) := by decide +kernel
theorem dX11_floatBits_22 : decode cX11_floatBits 22 = .ok (.fconst 2, 1) := by decide +kernel
theorem dX11_floatBits_23 : decode cX11_floatBits 23 = .ok (.fcmp .l, 1) := by decide +kernel
theorem dX11_floatBits_24 : decode cX11_floatBits 24 = .ok (.ifCond .lt 16, 3) := by decide +kernel
theorem dX11_floatBits_27 : decode cX11_floatBits 27 = .ok (.fload_n 1, 1) := by decide +kernel
theorem dX11_floatBits_28 : decode cX11_floatBits 28 = .ok (.fconst 2, 1) := by decide +kernel
theorem dX11_floatBits_29 : decode cX11_floatBits 29 = .ok (.fdiv, 1) := by decide +kernel
theorem dX11_floatBits_30 : decode cX11_floatBits 30 = .ok (.fstore_n 1, 1) := by decide +kernel
theorem dX11_floatBits_31 : decode cX11_floatBits 31 = .ok (.iinc 2 1, 3) := by decide +kernel
theorem dX11_floatBits_34 : decode cX11_floatBits 34 = .ok (.iinc 3 1, 3) := by decide +kernel
theorem dX11_floatBits_37 : decode cX11_floatBits 37 = .ok (.goto (-22), 3) := by decide +kernel
theorem dX11_floatBits_40 : decode cX11_floatBits 40 = .ok (.iconst 0, 1) := by decide +kernel
theorem dX11_floatBits_41 : decode cX11_floatBits 41 = .ok (.istore_n 3, 1) := by decide +kernel
theorem dX11_floatBits_42 : decode cX11_floatBits 42 = .ok (.iload_n 3, 1) := by decide +kernel
theorem dX11_floatBits_43 : decode cX11_floatBits 43 = .ok (.bipush 126, 2) := by decide +kernel
theorem dX11_floatBits_45 : decode cX11_floatBits 45 = .ok (.if_icmp .ge 22, 3) := by decide +kernel
theorem dX11_floatBits_48 : decode cX11_floatBits 48 = .ok (.fload_n 1, 1) := by decide +kernel
theorem dX11_floatBits_49 : decode cX11_floatBits 49 = .ok (.fconst 1, 1) := by decide +kernel
theorem dX11_floatBits_50 : decode cX11_floatBits 50 = .ok (.fcmp .g, 1) := by decide +kernel
theorem dX11_floatBits_51 : decode cX11_floatBits 51 = .ok (.ifCond .ge 16, 3) := by decide +kernel
theorem dX11_floatBits_54 : decode cX11_floatBits 54 = .ok (.fload_n 1, 1) := by decide +kernel
theorem dX11_floatBits_55 : decode cX11_floatBits 55 = .ok (.fconst 2, 1) := by decide +kernel
theorem dX11_floatBits_56 : decode cX11_floatBits 56 = .ok (.fmul, 1) := by decide +kernel
theorem dX11_floatBits_57 : decode cX11_floatBits 57 = .ok (.fstore_n 1, 1) := by decide +kernel
theorem dX11_floatBits_58 : decode cX11_floatBits 58 = .ok (.iinc 2 (-1), 3) := by decide +kernel
theorem dX11_floatBits_61 : decode cX11_floatBits 61 = .ok (.iinc 3 1, 3) := by decide +kernel
theorem dX11_floatBits_64 : decode cX11_floatBits 64 = .ok (.goto (-22), 3) := by decide +kernel
theorem dX11_floatBits_67 : decode cX11_floatBits 67 = .ok (.iload_n 2, 1) := by decide +kernel
theorem dX11_floatBits_68 : decode cX11_floatBits 68 = .ok (.bipush 23, 2) := by decide +kernel
theorem dX11_floatBits_70 : decode cX11_floatBits 70 = .ok (.ishl, 1) := by decide +kernel
theorem dX11_floatBits_71 : decode cX11_floatBits 71 = .ok (.fload_n 1, 1) := by decide +kernel
theorem dX11_floatBits_72 : decode cX11_floatBits 72 = .ok (.ldc_w 377, 3) := by decide +kernel
theorem dX11_floatBits_75 : decode cX11_floatBits 75 = .ok (.fmul, 1) := by decide +kernel
theorem dX11_floatBits_76 : decode cX11_floatBits 76 = .ok (.f2i, 1) := by decide +kernel
theorem dX11_floatBits_77 : decode cX11_floatBits 77 = .ok (.iadd, 1) := by decide +kernel
theorem dX11_floatBits_78 : decode cX11_floatBits 78 = .ok (.ldc_w 378, 3) := by decide +kernel
theorem dX11_floatBits_81 : decode cX11_floatBits 81 = .ok (.isub, 1) := by decide +kernel
theorem dX11_floatBits_82 : decode cX11_floatBits 82 = .ok (.ireturn, 1) := by decide +kernel
theorem dX12_init_0 : decode cX12_init 0 = .ok (.aload_n 0, 1) := by decide +kernel
theorem dX12_init_1 : decode cX12_init 1 = .ok (.invokespecial 1, 3) := by decide +kernel
theorem dX12_init_4 : decode cX12_init 4 = .ok (.aload_n 0, 1) := by decide +kernel
theorem dX12_init_5 : decode cX12_init 5 = .ok (.sipush 835, 3) := by decide +kernel
theorem dX12_init_8 : decode cX12_init 8 = .ok (.newarray .int, 2) := by decide +kernel
theorem dX12_init_10 : decode cX12_init 10 = .ok (.putfield 7, 3) := by decide +kernel
theorem dX12_init_13 : decode cX12_init 13 = .ok (.aload_n 0, 1) := by decide +kernel
theorem dX12_init_14 : decode cX12_init 14 = .ok (.sipush 1670, 3) := by decide +kernel
theorem dX12_init_17 : decode cX12_init 17 = .ok (.newarray .int, 2) := by decide +kernel
theorem dX12_init_19 : decode cX12_init 19 = .ok (.putfield 13, 3) := by decide +kernel
theorem dX12_init_22 : decode cX12_init 22 = .ok (.aload_n 0, 1) := by decide +kernel
theorem dX12_init_23 : decode cX12_init 23 = .ok (.sipush 6680, 3) := by decide +kernel
theorem dX12_init_26 : decode cX12_init 26 = .ok (.newarray .int, 2) := by decide +kernel
theorem dX12_init_28 : decode cX12_init 28 = .ok (.putfield 16, 3) := by decide +kernel
theorem dX12_init_31 : decode cX12_init 31 = .ok (.aload_n 0, 1) := by decide +kernel
theorem dX12_init_32 : decode cX12_init 32 = .ok (.sipush 835, 3) := by decide +kernel
theorem dX12_init_35 : decode cX12_init 35 = .ok (.newarray .int, 2) := by decide +kernel
theorem dX12_init_37 : decode cX12_init 37 = .ok (.putfield 19, 3) := by decide +kernel
theorem dX12_init_40 : decode cX12_init 40 = .ok (.aload_n 0, 1) := by decide +kernel
theorem dX12_init_41 : decode cX12_init 41 = .ok (.iconst 2, 1) := by decide +kernel
theorem dX12_init_42 : decode cX12_init 42 = .ok (.newarray .boolean, 2) := by decide +kernel
theorem dX12_init_44 : decode cX12_init 44 = .ok (.putfield 22, 3) := by decide +kernel
theorem dX12_init_47 : decode cX12_init 47 = .ok (.aload_n 0, 1) := by decide +kernel
theorem dX12_init_48 : decode cX12_init 48 = .ok (.sipush 440, 3) := by decide +kernel
theorem dX12_init_51 : decode cX12_init 51 = .ok (.newarray .byte, 2) := by decide +kernel
theorem dX12_init_53 : decode cX12_init 53 = .ok (.putfield 26, 3) := by decide +kernel
theorem dX12_init_56 : decode cX12_init 56 = .ok (.aload_n 0, 1) := by decide +kernel
theorem dX12_init_57 : decode cX12_init 57 = .ok (.bipush 6, 2) := by decide +kernel
theorem dX12_init_59 : decode cX12_init 59 = .ok (.newarray .byte, 2) := by decide +kernel
theorem dX12_init_61 : decode cX12_init 61 = .ok (.putfield 30, 3) := by decide +kernel
theorem dX12_init_64 : decode cX12_init 64 = .ok (.aload_n 0, 1) := by decide +kernel
theorem dX12_init_65 : decode cX12_init 65 = .ok (.bipush 60, 2) := by decide +kernel
theorem dX12_init_67 : decode cX12_init 67 = .ok (.newarray .int, 2) := by decide +kernel
theorem dX12_init_69 : decode cX12_init 69 = .ok (.putfield 33, 3) := by decide +kernel
theorem dX12_init_72 : decode cX12_init 72 = .ok (.aload_n 0, 1) := by decide +kernel
theorem dX12_init_73 : decode cX12_init 73 = .ok (.sipush 402, 3) := by decide +kernel
theorem dX12_init_76 : decode cX12_init 76 = .ok (.newarray .int, 2) := by decide +kernel
theorem dX12_init_78 : decode cX12_init 78 = .ok (.putfield 36, 3) := by decide +kernel
theorem dX12_init_81 : decode cX12_init 81 = .ok (.aload_n 0, 1) := by decide +kernel
theorem dX12_init_82 : decode cX12_init 82 = .ok (.sipush 402, 3) := by decide +kernel
theorem dX12_init_85 : decode cX12_init 85 = .ok (.newarray .int, 2) := by decide +kernel
theorem dX12_init_87 : decode cX12_init 87 = .ok (.putfield 39, 3) := by decide +kernel
theorem dX12_init_90 : decode cX12_init 90 = .ok (.aload_n 0, 1) := by decide +kernel
theorem dX12_init_91 : decode cX12_init 91 = .ok (.iconst 2, 1) := by decide +kernel
theorem dX12_init_92 : decode cX12_init 92 = .ok (.newarray .int, 2) := by decide +kernel
theorem dX12_init_94 : decode cX12_init 94 = .ok (.putfield 42, 3) := by decide +kernel
theorem dX12_init_97 : decode cX12_init 97 = .ok (.aload_n 0, 1) := by decide +kernel
theorem dX12_init_98 : decode cX12_init 98 = .ok (.iconst 2, 1) := by decide +kernel
theorem dX12_init_99 : decode cX12_init 99 = .ok (.newarray .int, 2) := by decide +kernel
theorem dX12_init_101 : decode cX12_init 101 = .ok (.putfield 45, 3) := by decide +kernel
theorem dX12_init_104 : decode cX12_init 104 = .ok (.aload_n 0, 1) := by decide +kernel
theorem dX12_init_105 : decode cX12_init 105 = .ok (.sipush 10240, 3) := by decide +kernel
theorem dX12_init_108 : decode cX12_init 108 = .ok (.newarray .int, 2) := by decide +kernel
theorem dX12_init_110 : decode cX12_init 110 = .ok (.putfield 48, 3) := by decide +kernel
theorem dX12_init_113 : decode cX12_init 113 = .ok (.aload_n 0, 1) := by decide +kernel
theorem dX12_init_114 : decode cX12_init 114 = .ok (.bipush 40, 2) := by decide +kernel
theorem dX12_init_116 : decode cX12_init 116 = .ok (.newarray .int, 2) := by decide +kernel
theorem dX12_init_118 : decode cX12_init 118 = .ok (.putfield 51, 3) := by decide +kernel
theorem dX12_init_121 : decode cX12_init 121 = .ok (.aload_n 0, 1) := by decide +kernel
theorem dX12_init_122 : decode cX12_init 122 = .ok (.sipush 256, 3) := by decide +kernel
theorem dX12_init_125 : decode cX12_init 125 = .ok (.newarray .int, 2) := by decide +kernel
theorem dX12_init_127 : decode cX12_init 127 = .ok (.putfield 54, 3) := by decide +kernel
theorem dX12_init_130 : decode cX12_init 130 = .ok (.aload_n 0, 1) := by decide +kernel
theorem dX12_init_131 : decode cX12_init 131 = .ok (.sipush 835, 3) := by decide +kernel
theorem dX12_init_134 : decode cX12_init 134 = .ok (.newarray .int, 2) := by decide +kernel
theorem dX12_init_136 : decode cX12_init 136 = .ok (.putfield 57, 3) := by decide +kernel
theorem dX12_init_139 : decode cX12_init 139 = .ok (.aload_n 0, 1) := by decide +kernel
theorem dX12_init_140 : decode cX12_init 140 = .ok (.bipush 60, 2) := by decide +kernel
theorem dX12_init_142 : decode cX12_init 142 = .ok (.newarray .int, 2) := by decide +kernel
theorem dX12_init_144 : decode cX12_init 144 = .ok (.putfield 60, 3) := by decide +kernel
theorem dX12_init_147 : decode cX12_init 147 = .ok (.aload_n 0, 1) := by decide +kernel
theorem dX12_init_148 : decode cX12_init 148 = .ok (.bipush 20, 2) := by decide +kernel
theorem dX12_init_150 : decode cX12_init 150 = .ok (.newarray .byte, 2) := by decide +kernel
theorem dX12_init_152 : decode cX12_init 152 = .ok (.putfield 63, 3) := by decide +kernel
theorem dX12_init_155 : decode cX12_init 155 = .ok (.aload_n 0, 1) := by decide +kernel
theorem dX12_init_156 : decode cX12_init 156 = .ok (.sipush 256, 3) := by decide +kernel
theorem dX12_init_159 : decode cX12_init 159 = .ok (.newarray .int, 2) := by decide +kernel
theorem dX12_init_161 : decode cX12_init 161 = .ok (.putfield 66, 3) := by decide +kernel
theorem dX12_init_164 : decode cX12_init 164 = .ok (.aload_n 0, 1) := by decide +kernel
theorem dX12_init_165 : decode cX12_init 165 = .ok (.bipush 8, 2) := by decide +kernel
theorem dX12_init_167 : decode cX12_init 167 = .ok (.newarray .int, 2) := by decide +kernel
theorem dX12_init_169 : decode cX12_init 169 = .ok (.putfield 69, 3) := by decide +kernel
theorem dX12_init_172 : decode cX12_init 172 = .ok (.aload_n 0, 1) := by decide +kernel
theorem dX12_init_173 : decode cX12_init 173 = .ok (.bipush 8, 2) := by decide +kernel
theorem dX12_init_175 : decode cX12_init 175 = .ok (.newarray .int, 2) := by decide +kernel
theorem dX12_init_177 : decode cX12_init 177 = .ok (.putfield 72, 3) := by decide +kernel
theorem dX12_init_180 : decode cX12_init 180 = .ok (.aload_n 0, 1) := by decide +kernel
theorem dX12_init_181 : decode cX12_init 181 = .ok (.getfield 7, 3) := by decide +kernel
theorem dX12_init_184 : decode cX12_init 184 = .ok (.iconst 0, 1) := by decide +kernel
theorem dX12_init_185 : decode cX12_init 185 = .ok (.bipush 6, 2) := by decide +kernel
theorem dX12_init_187 : decode cX12_init 187 = .ok (.iastore, 1) := by decide +kernel
theorem dX12_init_188 : decode cX12_init 188 = .ok (.aload_n 0, 1) := by decide +kernel
theorem dX12_init_189 : decode cX12_init 189 = .ok (.getfield 7, 3) := by decide +kernel
theorem dX12_init_192 : decode cX12_init 192 = .ok (.iconst 1, 1) := by decide +kernel
theorem dX12_init_193 : decode cX12_init 193 = .ok (.iconst 1, 1) := by decide +kernel
theorem dX12_init_194 : decode cX12_init 194 = .ok (.iastore, 1) := by decide +kernel
theorem dX12_init_195 : decode cX12_init 195 = .ok (.return_, 1) := by decide +kernel
set_option maxRecDepth 20000 in
theorem ggX12_feed_X12_four : GoodIn wsX12_feed wsX12_four := goodIn_r _ [6, 7, 1, 8, 9, 10, 11, 12, 13, 14, 15, 16, 17, 18, 19, 20, 21, 22, 23, 24, 25, 26, 27, 28, 29, 30, 31, 32, 33, 34, 35, 36, 37, 38, 39, 40, 41, 42, 43, 44, 45, 46, 47, 48, 49, 50, 51, 52, 53, 54] (by decide +kernel) (by decide +kernel)
set_option maxRecDepth 20000 in
theorem gX12_feed_X12_four : GoodIn wsX12_feed (wsV RX12 79 RX12 yX12_four wsX12_four) := goodIn_app (goodIn_of _ (by decide +kernel)) ggX12_feed_X12_four
theorem dX12_feed_0 : decode cX12_feed 0 = .ok (.aload_n 0, 1) := by decide +kernel
theorem dX12_feed_1 : decode cX12_feed 1 = .ok (.getfield 75, 3) := by decide +kernel
theorem dX12_feed_4 : decode cX12_feed 4 = .ok (.bipush 20, 2) := by decide +kernel
theorem dX12_feed_6 : decode cX12_feed 6 = .ok (.iadd, 1) := by decide +kernel
theorem dX12_feed_7 : decode cX12_feed 7 = .ok (.sipush 440, 3) := by decide +kernel
theorem dX12_feed_10 : decode cX12_feed 10 = .ok (.if_icmp .le 5, 3) := by decide +kernel
theorem dX12_feed_13 : decode cX12_feed 13 = .ok (.iconst (-1), 1) := by decide +kernel
theorem dX12_feed_14 : decode cX12_feed 14 = .ok (.ireturn, 1) := by decide +kernel
theorem dX12_feed_15 : decode cX12_feed 15 = .ok (.aload_n 0, 1) := by decide +kernel
theorem dX12_feed_16 : decode cX12_feed 16 = .ok (.iload_n 1, 1) := by decide +kernel
theorem dX12_feed_17 : decode cX12_feed 17 = .ok (.invokevirtual 79, 3) := by decide +kernel
theorem dX12_feed_20 : decode cX12_feed 20 = .ok (.aload_n 0, 1) := by decide +kernel
theorem dX12_feed_21 : decode cX12_feed 21 = .ok (.iload_n 2, 1) := by decide +kernel
theorem dX12_feed_22 : decode cX12_feed 22 = .ok (.invokevirtual 79, 3) := by decide +kernel
theorem dX12_feed_25 : decode cX12_feed 25 = .ok (.aload_n 0, 1) := by decide +kernel
theorem dX12_feed_26 : decode cX12_feed 26 = .ok (.iload_n 3, 1) := by decide +kernel
theorem dX12_feed_27 : decode cX12_feed 27 = .ok (.invokevirtual 79, 3) := by decide +kernel
theorem dX12_feed_30 : decode cX12_feed 30 = .ok (.aload_n 0, 1) := by decide +kernel
theorem dX12_feed_31 : decode cX12_feed 31 = .ok (.iload 4, 2) := by decide +kernel
theorem dX12_feed_33 : decode cX12_feed 33 = .ok (.invokevirtual 79, 3) := by decide +kernel
theorem dX12_feed_36 : decode cX12_feed 36 = .ok (.aload_n 0, 1) := by decide +kernel
theorem dX12_feed_37 : decode cX12_feed 37 = .ok (.iload 5, 2) := by decide +kernel
theorem dX12_feed_39 : decode cX12_feed 39 = .ok (.invokevirtual 79, 3) := by decide +kernel
theorem dX12_feed_42 : decode cX12_feed 42 = .ok (.aload_n 0, 1) := by decide +kernel
theorem dX12_feed_43 : decode cX12_feed 43 = .ok (.getfield 75, 3) := by decide +kernel
theorem dX12_feed_46 : decode cX12_feed 46 = .ok (.ireturn, 1) := by decide +kernel
theorem dX12_four_0 : decode cX12_four 0 = .ok (.bipush 24, 2) := by decide +kernel
theorem dX12_four_2 : decode cX12_four 2 = .ok (.istore_n 2, 1) := by decide +kernel
theorem dX12_four_3 : decode cX12_four 3 = .ok (.iload_n 2, 1) := by decide +kernel
theorem dX12_four_4 : decode cX12_four 4 = .ok (.ifCond .lt 32, 3) := by decide +kernel
theorem dX12_four_7 : decode cX12_four 7 = .ok (.aload_n 0, 1) := by decide +kernel
theorem dX12_four_8 : decode cX12_four 8 = .ok (.getfield 26, 3) := by decide +kernel
theorem dX12_four_11 : decode cX12_four 11 = .ok (.aload_n 0, 1) := by decide +kernel
theorem dX12_four_12 : decode cX12_four 12 = .ok (.getfield 75, 3) := by decide +kernel
theorem dX12_four_15 : decode cX12_four 15 = .ok (.iload_n 1, 1) := by decide +kernel
theorem dX12_four_16 : decode cX12_four 16 = .ok (.iload_n 2, 1) := by decide +kernel
theorem dX12_four_17 : decode cX12_four 17 = .ok (.ishr, 1) := by decide +kernel
theorem dX12_four_18 : decode cX12_four 18 = .ok (.i2b, 1) := by decide +kernel
theorem dX12_four_19 : decode cX12_four 19 = .ok (.bastore, 1) := by decide +kernel
theorem dX12_four_20 : decode cX12_four 20 = .ok (.aload_n 0, 1) := by decide +kernel
theorem dX12_four_21 : decode cX12_four 21 = .ok (.dup, 1) := by decide +kernel
theorem dX12_four_22 : decode cX12_four 22 = .ok (.getfield 75, 3) := by decide +kernel
theorem dX12_four_25 : decode cX12_four 25 = .ok (.iconst 1, 1) := by decide +kernel
theorem dX12_four_26 : decode cX12_four 26 = .ok (.iadd, 1) := by decide +kernel
theorem dX12_four_27 : decode cX12_four 27 = .ok (.putfield 75, 3) := by decide +kernel
theorem dX12_four_30 : decode cX12_four 30 = .ok (.iinc 2 (-8), 3) := by decide +kernel
theorem dX12_four_33 : decode cX12_four 33 = .ok (.goto (-30), 3) := by decide +kernel
theorem dX12_four_36 : decode cX12_four 36 = .ok (.return_, 1) := by decide +kernel
theorem dX12_end_0 : decode cX12_end 0 = .ok (.iload_n 1, 1) := by decide +kernel
theorem dX12_end_1 : decode cX12_end 1 = .ok (.ifCond .lt 11, 3) := by decide +kernel
theorem dX12_end_4 : decode cX12_end 4 = .ok (.iload_n 1, 1) := by decide +kernel
theorem dX12_end_5 : decode cX12_end 5 = .ok (.aload_n 0, 1) := by decide +kernel
theorem dX12_end_6 : decode cX12_end 6 = .ok (.getfield 75, 3) := by decide +kernel
theorem dX12_end_9 : decode cX12_end 9 = .ok (.if_icmp .le 5, 3) := by decide +kernel
theorem dX12_end_12 : decode cX12_end 12 = .ok (.iconst 0, 1) := by decide +kernel
theorem dX12_end_13 : decode cX12_end 13 = .ok (.ireturn, 1) := by decide +kernel
theorem dX12_end_14 : decode cX12_end 14 = .ok (.aload_n 0, 1) := by decide +kernel
theorem dX12_end_15 : decode cX12_end 15 = .ok (.iload_n 1, 1) := by decide +kernel
theorem dX12_end_16 : decode cX12_end 16 = .ok (.putfield 75, 3) := by decide +kernel
theorem dX12_end_19 : decode cX12_end 19 = .ok (.iconst 1, 1) := by decide +kernel
theorem dX12_end_20 : decode cX12_end 20 = .ok (.ireturn, 1) := by decide +kernel
theorem dX12_isIn_0 : decode cX12_isIn 0 = .ok (.iload_n 0, 1) := by decide +kernel
theorem dX12_isIn_1 : decode cX12_isIn 1 = .ok (.iload_n 1, 1) := by decide +kernel
theorem dX12_isIn_2 : decode cX12_isIn 2 = .ok (.if_icmp .lt 12, 3) := by decide +kernel
theorem dX12_isIn_5 : decode cX12_isIn 5 = .ok (.iload_n 0, 1) := by decide +kernel
theorem dX12_isIn_6 : decode cX12_isIn 6 = .ok (.iload_n 2, 1) := by decide +kernel
theorem dX12_isIn_7 : decode cX12_isIn 7 = .ok (.if_icmp .gt 7, 3) := by decide +kernel
theorem dX12_isIn_10 : decode cX12_isIn 10 = .ok (.iconst 1, 1) := by decide +kernel
theorem dX12_isIn_11 : decode cX12_isIn 11 = .ok (.goto 4, 3) := by decide +kernel
theorem dX12_isIn_14 : decode cX12_isIn 14 = .ok (.iconst 0, 1) := by decide +kernel
theorem dX12_isIn_15 : decode cX12_isIn 15 = .ok (.ireturn, 1) := by decide +kernel
theorem dX12_bitOf_0 : decode cX12_bitOf 0 = .ok (.iload_n 0, 1) := by decide +kernel
theorem dX12_bitOf_1 : decode cX12_bitOf 1 = .ok (.iload_n 1, 1) := by decide +kernel
theorem dX12_bitOf_2 : decode cX12_bitOf 2 = .ok (.ishr, 1) := by decide +kernel
theorem dX12_bitOf_3 : decode cX12_bitOf 3 = .ok (.iconst 1, 1) := by decide +kernel
theorem dX12_bitOf_4 : decode cX12_bitOf 4 = .ok (.iand, 1) := by decide +kernel
theorem dX12_bitOf_5 : decode cX12_bitOf 5 = .ok (.iconst 1, 1) := by decide +kernel
theorem dX12_bitOf_6 : decode cX12_bitOf 6 = .ok (.if_icmp .ne 7, 3) := by decide +kernel
theorem dX12_bitOf_9 : decode cX12_bitOf 9 = .ok (.iconst 1, 1) := by decide +kernel
theorem dX12_bitOf_10 : decode cX12_bitOf 10 = .ok (.goto 4, 3) := by decide +kernel
theorem dX12_bitOf_13 : decode cX12_bitOf 13 = .ok (.iconst 0, 1) := by decide +kernel
theorem dX12_bitOf_14 : decode cX12_bitOf 14 = .ok (.ireturn, 1) := by decide +kernel
theorem dX12_ones_0 : decode cX12_ones 0 = .ok (.iconst 0, 1) := by decide +kernel
theorem dX12_ones_1 : decode cX12_ones 1 = .ok (.istore_n 1, 1) := by decide +kernel
theorem dX12_ones_2 : decode cX12_ones 2 = .ok (.iconst 0, 1) := by decide +kernel
theorem dX12_ones_3 : decode cX12_ones 3 = .ok (.istore_n 2, 1) := by decide +kernel
theorem dX12_ones_4 : decode cX12_ones 4 = .ok (.iload_n 2, 1) := by decide +kernel
theorem dX12_ones_5 : decode cX12_ones 5 = .ok (.bipush 32, 2) := by decide +kernel
theorem dX12_ones_7 : decode cX12_ones 7 = .ok (.if_icmp .ge 17, 3) := by decide +kernel
theorem dX12_ones_10 : decode cX12_ones 10 = .ok (.iload_n 1, 1) := by decide +kernel
theorem dX12_ones_11 : decode cX12_ones 11 = .ok (.iload_n 0, 1) := by decide +kernel
theorem dX12_ones_12 : decode cX12_ones 12 = .ok (.iload_n 2, 1) := by decide +kernel
theorem dX12_ones_13 : decode cX12_ones 13 = .ok (.ishr, 1) := by decide +kernel
theorem dX12_ones_14 : decode cX12_ones 14 = .ok (.iconst 1, 1) := by decide +kernel
theorem dX12_ones_15 : decode cX12_ones 15 = .ok (.iand, 1) := by decide +kernel
theorem dX12_ones_16 : decode cX12_ones 16 = .ok (.iadd, 1) := by decide +kernel
theorem dX12_ones_17 : decode cX12_ones 17 = .ok (.istore_n 1, 1) := by decide +kernel
theorem dX12_ones_18 : decode cX12_ones 18 = .ok (.iinc 2 1, 3) := by decide +kernel
theorem dX12_ones_21 : decode cX12_ones 21 = .ok (.goto (-17), 3) := by decide +kernel
theorem dX12_ones_24 : decode cX12_ones 24 = .ok (.iload_n 1, 1) := by decide +kernel
theorem dX12_ones_25 : decode cX12_ones 25 = .ok (.ireturn, 1) := by decide +kernel
theorem dX12_copies_0 : decode cX12_copies 0 = .ok (.iconst 0, 1) := by decide +kernel
theorem dX12_copies_1 : decode cX12_copies 1 = .ok (.istore 4, 2) := by decide +kernel
theorem dX12_copies_3 : decode cX12_copies 3 = .ok (.iload 4, 2) := by decide +kernel
theorem dX12_copies_5 : decode cX12_copies 5 = .ok (.sipush 835, 3) := by decide +kernel
theorem dX12_copies_8 : decode cX12_copies 8 = .ok (.if_icmp .ge 21, 3) := by decide +kernel
theorem dX12_copies_11 : decode cX12_copies 11 = .ok (.aload_n 2, 1) := by decide +kernel
theorem dX12_copies_12 : decode cX12_copies 12 = .ok (.iload_n 3, 1) := by decide +kernel
theorem dX12_copies_13 : decode cX12_copies 13 = .ok (.iload 4, 2) := by decide +kernel
theorem dX12_copies_15 : decode cX12_copies 15 = .ok (.iadd, 1) := by decide +kernel
theorem dX12_copies_16 : decode cX12_copies 16 = .ok (.aload_n 0, 1) := by decide +kernel
theorem dX12_copies_17 : decode cX12_copies 17 = .ok (.iload_n 1, 1) := by decide +kernel
theorem dX12_copies_18 : decode cX12_copies 18 = .ok (.iload 4, 2) := by decide +kernel
theorem dX12_copies_20 : decode cX12_copies 20 = .ok (.iadd, 1) := by decide +kernel
theorem dX12_copies_21 : decode cX12_copies 21 = .ok (.iaload, 1) := by decide +kernel
theorem dX12_copies_22 : decode cX12_copies 22 = .ok (.iastore, 1) := by decide +kernel
theorem dX12_copies_23 : decode cX12_copies 23 = .ok (.iinc 4 1, 3) := by decide +kernel
theorem dX12_copies_26 : decode cX12_copies 26 = .ok (.goto (-23), 3) := by decide +kernel
theorem dX12_copies_29 : decode cX12_copies 29 = .ok (.return_, 1) := by decide +kernel
set_option maxRecDepth 20000 in
theorem ggX12_isItem_X12_isIn : GoodIn wsX12_isItem wsX12_isIn := goodIn_r _ [5] (by decide +kernel) (by decide +kernel)
set_option maxRecDepth 20000 in
theorem gX12_isItem_X12_isIn : GoodIn wsX12_isItem (va_wsS RX12 83 yX12_isIn wsX12_isIn) := goodIn_app (goodIn_of _ (by decide +kernel)) ggX12_isItem_X12_isIn
theorem dX12_isItem_0 : decode cX12_isItem 0 = .ok (.iload_n 1, 1) := by decide +kernel
theorem dX12_isItem_1 : decode cX12_isItem 1 = .ok (.iconst 0, 1) := by decide +kernel
theorem dX12_isItem_2 : decode cX12_isItem 2 = .ok (.aload_n 0, 1) := by decide +kernel
theorem dX12_isItem_3 : decode cX12_isItem 3 = .ok (.getfield 7, 3) := by decide +kernel
theorem dX12_isItem_6 : decode cX12_isItem 6 = .ok (.iconst 2, 1) := by decide +kernel
theorem dX12_isItem_7 : decode cX12_isItem 7 = .ok (.iaload, 1) := by decide +kernel
theorem dX12_isItem_8 : decode cX12_isItem 8 = .ok (.iconst 1, 1) := by decide +kernel
theorem dX12_isItem_9 : decode cX12_isItem 9 = .ok (.isub, 1) := by decide +kernel
theorem dX12_isItem_10 : decode cX12_isItem 10 = .ok (.invokestatic 83, 3) := by decide +kernel
theorem dX12_isItem_13 : decode cX12_isItem 13 = .ok (.ireturn, 1) := by decide +kernel
theorem dX12_peek_0 : decode cX12_peek 0 = .ok (.aload_n 0, 1) := by decide +kernel
theorem dX12_peek_1 : decode cX12_peek 1 = .ok (.getfield 87, 3) := by decide +kernel
theorem dX12_peek_4 : decode cX12_peek 4 = .ok (.aload_n 0, 1) := by decide +kernel
theorem dX12_peek_5 : decode cX12_peek 5 = .ok (.getfield 90, 3) := by decide +kernel
theorem dX12_peek_8 : decode cX12_peek 8 = .ok (.if_icmp .ge 19, 3) := by decide +kernel
theorem dX12_peek_11 : decode cX12_peek 11 = .ok (.aload_n 0, 1) := by decide +kernel
theorem dX12_peek_12 : decode cX12_peek 12 = .ok (.getfield 26, 3) := by decide +kernel
theorem dX12_peek_15 : decode cX12_peek 15 = .ok (.aload_n 0, 1) := by decide +kernel
theorem dX12_peek_16 : decode cX12_peek 16 = .ok (.getfield 87, 3) := by decide +kernel
theorem dX12_peek_19 : decode cX12_peek 19 = .ok (.baload, 1) := by decide +kernel
theorem dX12_peek_20 : decode cX12_peek 20 = .ok (.sipush 255, 3) := by decide +kernel
theorem dX12_peek_23 : decode cX12_peek 23 = .ok (.iand, 1) := by decide +kernel
theorem dX12_peek_24 : decode cX12_peek 24 = .ok (.goto 4, 3) := by decide +kernel
theorem dX12_peek_27 : decode cX12_peek 27 = .ok (.iconst (-1), 1) := by decide +kernel
theorem dX12_peek_28 : decode cX12_peek 28 = .ok (.ireturn, 1) := by decide +kernel
set_option maxRecDepth 20000 in
theorem ggX12_isSmall_X12_isIn : GoodIn wsX12_isSmall wsX12_isIn := goodIn_r _ [4] (by decide +kernel) (by decide +kernel)
set_option maxRecDepth 20000 in
theorem gX12_isSmall_X12_isIn : GoodIn wsX12_isSmall (va_wsS RX12 83 yX12_isIn wsX12_isIn) := goodIn_app (goodIn_of _ (by decide +kernel)) ggX12_isSmall_X12_isIn
theorem dX12_isSmall_0 : decode cX12_isSmall 0 = .ok (.iload_n 0, 1) := by decide +kernel
theorem dX12_isSmall_1 : decode cX12_isSmall 1 = .ok (.bipush 97, 2) := by decide +kernel
theorem dX12_isSmall_3 : decode cX12_isSmall 3 = .ok (.bipush 122, 2) := by decide +kernel
theorem dX12_isSmall_5 : decode cX12_isSmall 5 = .ok (.invokestatic 83, 3) := by decide +kernel
theorem dX12_isSmall_8 : decode cX12_isSmall 8 = .ok (.ireturn, 1) := by decide +kernel
set_option maxRecDepth 20000 in
theorem ggX12_isDigit_X12_isIn : GoodIn wsX12_isDigit wsX12_isIn := goodIn_r _ [4] (by decide +kernel) (by decide +kernel)
set_option maxRecDepth 20000 in
theorem gX12_isDigit_X12_isIn : GoodIn wsX12_isDigit (va_wsS RX12 83 yX12_isIn wsX12_isIn) := goodIn_app (goodIn_of _ (by decide +kernel)) ggX12_isDigit_X12_isIn
theorem dX12_isDigit_0 : decode cX12_isDigit 0 = .ok (.iload_n 0, 1) := by decide +kernel
theorem dX12_isDigit_1 : decode cX12_isDigit 1 = .ok (.bipush 48, 2) := by decide +kernel
theorem dX12_isDigit_3 : decode cX12_isDigit 3 = .ok (.bipush 57, 2) := by decide +kernel
theorem dX12_isDigit_5 : decode cX12_isDigit 5 = .ok (.invokestatic 83, 3) := by decide +kernel
theorem dX12_isDigit_8 : decode cX12_isDigit 8 = .ok (.ireturn, 1) := by decide +kernel
theorem dX12_bad_0 : decode cX12_bad 0 = .ok (.aload_n 0, 1) := by decide +kernel
theorem dX12_bad_1 : decode cX12_bad 1 = .ok (.iload_n 1, 1) := by decide +kernel
theorem dX12_bad_2 : decode cX12_bad 2 = .ok (.putfield 93, 3) := by decide +kernel
theorem dX12_bad_5 : decode cX12_bad 5 = .ok (.aload_n 0, 1) := by decide +kernel
theorem dX12_bad_6 : decode cX12_bad 6 = .ok (.iload_n 2, 1) := by decide +kernel
theorem dX12_bad_7 : decode cX12_bad 7 = .ok (.putfield 96, 3) := by decide +kernel
theorem dX12_bad_10 : decode cX12_bad 10 = .ok (.iconst 0, 1) := by decide +kernel
theorem dX12_bad_11 : decode cX12_bad 11 = .ok (.ireturn, 1) := by decide +kernel
set_option maxRecDepth 20000 in
theorem ggX12_badHere_X12_bad : GoodIn wsX12_badHere wsX12_bad := goodIn_r _ [6, 7, 8, 9, 10, 11, 12, 13, 14, 15, 16, 17, 18, 19, 20, 21, 22, 23, 24, 25, 26, 27, 28, 29, 30, 31, 32, 33, 34, 35, 36, 37, 38, 39, 40, 41, 42, 43, 44, 45, 46, 47, 48, 49, 50, 51, 52, 53, 54, 55] (by decide +kernel) (by decide +kernel)
set_option maxRecDepth 20000 in
theorem gX12_badHere_X12_bad : GoodIn wsX12_badHere (wsV RX12 102 RX12 yX12_bad wsX12_bad) := goodIn_app (goodIn_of _ (by decide +kernel)) ggX12_badHere_X12_bad
theorem dX12_badHere_0 : decode cX12_badHere 0 = .ok (.aload_n 0, 1) := by decide +kernel
theorem dX12_badHere_1 : decode cX12_badHere 1 = .ok (.iload_n 1, 1) := by decide +kernel
theorem dX12_badHere_2 : decode cX12_badHere 2 = .ok (.aload_n 0, 1) := by decide +kernel
theorem dX12_badHere_3 : decode cX12_badHere 3 = .ok (.getfield 99, 3) := by decide +kernel
theorem dX12_badHere_6 : decode cX12_badHere 6 = .ok (.invokevirtual 102, 3) := by decide +kernel
theorem dX12_badHere_9 : decode cX12_badHere 9 = .ok (.ireturn, 1) := by decide +kernel
set_option maxRecDepth 20000 in
theorem ggX12_next_X12_peek : GoodIn wsX12_next wsX12_peek := goodIn_r _ [11, 1, 12, 13, 23, 24, 25, 26, 27, 28, 29, 30, 31, 32, 33, 34, 35, 36, 37, 38, 39, 40, 41, 42, 43, 44, 45, 46, 47, 48, 49, 50, 51, 52, 53, 54, 55, 56, 57, 58, 59, 60, 61, 62, 63, 64, 65, 66, 67, 68, 69] (by decide +kernel) (by decide +kernel)
set_option maxRecDepth 20000 in
theorem gX12_next_X12_peek : GoodIn wsX12_next (wsV RX12 106 RX12 yX12_peek wsX12_peek) := goodIn_app (goodIn_of _ (by decide +kernel)) ggX12_next_X12_peek
set_option maxRecDepth 20000 in
theorem ggX12_next_X12_isSmall : GoodIn wsX12_next wsX12_isSmall := goodIn_r _ [16, 17, 18, 10, 19] (by decide +kernel) (by decide +kernel)
set_option maxRecDepth 20000 in
theorem gX12_next_X12_isSmall : GoodIn wsX12_next (va_wsS RX12 116 yX12_isSmall wsX12_isSmall) := goodIn_app (goodIn_of _ (by decide +kernel)) ggX12_next_X12_isSmall
set_option maxRecDepth 20000 in
theorem ggX12_next_X12_isDigit : GoodIn wsX12_next wsX12_isDigit := goodIn_r _ [22, 17, 18, 10, 19] (by decide +kernel) (by decide +kernel)
set_option maxRecDepth 20000 in
theorem gX12_next_X12_isDigit : GoodIn wsX12_next (va_wsS RX12 120 yX12_isDigit wsX12_isDigit) := goodIn_app (goodIn_of _ (by decide +kernel)) ggX12_next_X12_isDigit
theorem dX12_next_0 : decode cX12_next 0 = .ok (.aload_n 0, 1) := by decide +kernel
theorem dX12_next_1 : decode cX12_next 1 = .ok (.invokevirtual 106, 3) := by decide +kernel
theorem dX12_next_4 : decode cX12_next 4 = .ok (.bipush 32, 2) := by decide +kernel
theorem dX12_next_6 : decode cX12_next 6 = .ok (.if_icmp .ne 16, 3) := by decide +kernel
theorem dX12_next_9 : decode cX12_next 9 = .ok (.aload_n 0, 1) := by decide +kernel
theorem dX12_next_10 : decode cX12_next 10 = .ok (.dup, 1) := by decide +kernel
theorem dX12_next_11 : decode cX12_next 11 = .ok (.getfield 87, 3) := by decide +kernel
theorem dX12_next_14 : decode cX12_next 14 = .ok (.iconst 1, 1) := by decide +kernel
theorem dX12_next_15 : decode cX12_next 15 = .ok (.iadd, 1) := by decide +kernel
theorem dX12_next_16 : decode cX12_next 16 = .ok (.putfield 87, 3) := by decide +kernel
theorem dX12_next_19 : decode cX12_next 19 = .ok (.goto (-19), 3) := by decide +kernel
theorem dX12_next_22 : decode cX12_next 22 = .ok (.aload_n 0, 1) := by decide +kernel
theorem dX12_next_23 : decode cX12_next 23 = .ok (.aload_n 0, 1) := by decide +kernel
theorem dX12_next_24 : decode cX12_next 24 = .ok (.getfield 87, 3) := by decide +kernel
theorem dX12_next_27 : decode cX12_next 27 = .ok (.putfield 99, 3) := by decide +kernel
theorem dX12_next_30 : decode cX12_next 30 = .ok (.aload_n 0, 1) := by decide +kernel
theorem dX12_next_31 : decode cX12_next 31 = .ok (.invokevirtual 106, 3) := by decide +kernel
theorem dX12_next_34 : decode cX12_next 34 = .ok (.istore_n 1, 1) := by decide +kernel
theorem dX12_next_35 : decode cX12_next 35 = .ok (.aload_n 0, 1) := by decide +kernel
theorem dX12_next_36 : decode cX12_next 36 = .ok (.iload_n 1, 1) := by decide +kernel
theorem dX12_next_37 : decode cX12_next 37 = .ok (.putfield 110, 3) := by decide +kernel
theorem dX12_next_40 : decode cX12_next 40 = .ok (.iload_n 1, 1) := by decide +kernel
theorem dX12_next_41 : decode cX12_next 41 = .ok (.iconst (-1), 1) := by decide +kernel
theorem dX12_next_42 : decode cX12_next 42 = .ok (.if_icmp .ne 9, 3) := by decide +kernel
theorem dX12_next_45 : decode cX12_next 45 = .ok (.aload_n 0, 1) := by decide +kernel
theorem dX12_next_46 : decode cX12_next 46 = .ok (.iconst 0, 1) := by decide +kernel
theorem dX12_next_47 : decode cX12_next 47 = .ok (.putfield 113, 3) := by decide +kernel
theorem dX12_next_50 : decode cX12_next 50 = .ok (.return_, 1) := by decide +kernel
theorem dX12_next_51 : decode cX12_next 51 = .ok (.aload_n 0, 1) := by decide +kernel
theorem dX12_next_52 : decode cX12_next 52 = .ok (.dup, 1) := by decide +kernel
theorem dX12_next_53 : decode cX12_next 53 = .ok (.getfield 87, 3) := by decide +kernel
theorem dX12_next_56 : decode cX12_next 56 = .ok (.iconst 1, 1) := by decide +kernel
theorem dX12_next_57 : decode cX12_next 57 = .ok (.iadd, 1) := by decide +kernel
theorem dX12_next_58 : decode cX12_next 58 = .ok (.putfield 87, 3) := by decide +kernel
theorem dX12_next_61 : decode cX12_next 61 = .ok (.iload_n 1, 1) := by decide +kernel
theorem dX12_next_62 : decode cX12_next 62 = .ok (.invokestatic 116, 3) := by decide +kernel
theorem dX12_next_65 : decode cX12_next 65 = .ok (.ifCond .ne 38, 3) := by decide +kernel
theorem dX12_next_68 : decode cX12_next 68 = .ok (.iload_n 1, 1) := by decide +kernel
theorem dX12_next_69 : decode cX12_next 69 = .ok (.invokestatic 120, 3) := by decide +kernel
theorem dX12_next_72 : decode cX12_next 72 = .ok (.ifCond .ne 31, 3) := by decide +kernel
theorem dX12_next_75 : decode cX12_next 75 = .ok (.aload_n 0, 1) := by decide +kernel
theorem dX12_next_76 : decode cX12_next 76 = .ok (.iload_n 1, 1) := by decide +kernel
theorem dX12_next_77 : decode cX12_next 77 = .ok (.bipush 59, 2) := by decide +kernel
theorem dX12_next_79 : decode cX12_next 79 = .ok (.if_icmp .eq 15, 3) := by decide +kernel
theorem dX12_next_82 : decode cX12_next 82 = .ok (.iload_n 1, 1) := by decide +kernel
theorem dX12_next_83 : decode cX12_next 83 = .ok (.bipush 91, 2) := by decide +kernel
theorem dX12_next_85 : decode cX12_next 85 = .ok (.if_icmp .eq 9, 3) := by decide +kernel
theorem dX12_next_88 : decode cX12_next 88 = .ok (.iload_n 1, 1) := by decide +kernel
theorem dX12_next_89 : decode cX12_next 89 = .ok (.bipush 93, 2) := by decide +kernel
theorem dX12_next_91 : decode cX12_next 91 = .ok (.if_icmp .ne 7, 3) := by decide +kernel
theorem dX12_next_94 : decode cX12_next 94 = .ok (.iconst 3, 1) := by decide +kernel
theorem dX12_next_95 : decode cX12_next 95 = .ok (.goto 4, 3) := by decide +kernel
theorem dX12_next_98 : decode cX12_next 98 = .ok (.iconst 4, 1) := by decide +kernel
theorem dX12_next_99 : decode cX12_next 99 = .ok (.putfield 113, 3) := by decide +kernel
theorem dX12_next_102 : decode cX12_next 102 = .ok (.return_, 1) := by decide +kernel
theorem dX12_next_103 : decode cX12_next 103 = .ok (.iload_n 1, 1) := by decide +kernel
theorem dX12_next_104 : decode cX12_next 104 = .ok (.invokestatic 116, 3) := by decide +kernel
theorem dX12_next_107 : decode cX12_next 107 = .ok (.ifCond .eq 7, 3) := by decide +kernel
theorem dX12_next_110 : decode cX12_next 110 = .ok (.iconst 1, 1) := by decide +kernel
theorem dX12_next_111 : decode cX12_next 111 = .ok (.goto 4, 3) := by decide +kernel
theorem dX12_next_114 : decode cX12_next 114 = .ok (.iconst 0, 1) := by decide +kernel
theorem dX12_next_115 : decode cX12_next 115 = .ok (.istore_n 2, 1) := by decide +kernel
theorem dX12_next_116 : decode cX12_next 116 = .ok (.aload_n 0, 1) := by decide +kernel
theorem dX12_next_117 : decode cX12_next 117 = .ok (.iload_n 1, 1) := by decide +kernel
theorem dX12_next_118 : decode cX12_next 118 = .ok (.invokestatic 120, 3) := by decide +kernel
theorem dX12_next_121 : decode cX12_next 121 = .ok (.ifCond .eq 10, 3) := by decide +kernel
theorem dX12_next_124 : decode cX12_next 124 = .ok (.iload_n 1, 1) := by decide +kernel
theorem dX12_next_125 : decode cX12_next 125 = .ok (.bipush 48, 2) := by decide +kernel
theorem dX12_next_127 : decode cX12_next 127 = .ok (.isub, 1) := by decide +kernel
theorem dX12_next_128 : decode cX12_next 128 = .ok (.goto 4, 3) := by decide +kernel
theorem dX12_next_131 : decode cX12_next 131 = .ok (.iconst 0, 1) := by decide +kernel
theorem dX12_next_132 : decode cX12_next 132 = .ok (.putfield 110, 3) := by decide +kernel
theorem dX12_next_135 : decode cX12_next 135 = .ok (.aload_n 0, 1) := by decide +kernel
theorem dX12_next_136 : decode cX12_next 136 = .ok (.getfield 30, 3) := by decide +kernel
theorem dX12_next_139 : decode cX12_next 139 = .ok (.iconst 0, 1) := by decide +kernel
theorem dX12_next_140 : decode cX12_next 140 = .ok (.iload_n 1, 1) := by decide +kernel
theorem dX12_next_141 : decode cX12_next 141 = .ok (.i2b, 1) := by decide +kernel
theorem dX12_next_142 : decode cX12_next 142 = .ok (.bastore, 1) := by decide +kernel
theorem dX12_next_143 : decode cX12_next 143 = .ok (.aload_n 0, 1) := by decide +kernel
theorem dX12_next_144 : decode cX12_next 144 = .ok (.invokevirtual 106, 3) := by decide +kernel
theorem dX12_next_147 : decode cX12_next 147 = .ok (.invokestatic 116, 3) := by decide +kernel
theorem dX12_next_150 : decode cX12_next 150 = .ok (.ifCond .ne 13, 3) := by decide +kernel
theorem dX12_next_153 : decode cX12_next 153 = .ok (.aload_n 0, 1) := by decide +kernel
theorem dX12_next_154 : decode cX12_next 154 = .ok (.invokevirtual 106, 3) := by decide +kernel
theorem dX12_next_157 : decode cX12_next 157 = .ok (.invokestatic 120, 3) := by decide +kernel
theorem dX12_next_160 : decode cX12_next 160 = .ok (.ifCond .eq 92, 3) := by decide +kernel
theorem dX12_next_163 : decode cX12_next 163 = .ok (.aload_n 0, 1) := by decide +kernel
theorem dX12_next_164 : decode cX12_next 164 = .ok (.getfield 87, 3) := by decide +kernel
theorem dX12_next_167 : decode cX12_next 167 = .ok (.aload_n 0, 1) := by decide +kernel
theorem dX12_next_168 : decode cX12_next 168 = .ok (.getfield 99, 3) := by decide +kernel
theorem dX12_next_171 : decode cX12_next 171 = .ok (.isub, 1) := by decide +kernel
theorem dX12_next_172 : decode cX12_next 172 = .ok (.istore_n 3, 1) := by decide +kernel
theorem dX12_next_173 : decode cX12_next 173 = .ok (.iload_n 3, 1) := by decide +kernel
theorem dX12_next_174 : decode cX12_next 174 = .ok (.bipush 6, 2) := by decide +kernel
theorem dX12_next_176 : decode cX12_next 176 = .ok (.if_icmp .ge 14, 3) := by decide +kernel
theorem dX12_next_179 : decode cX12_next 179 = .ok (.aload_n 0, 1) := by decide +kernel
theorem dX12_next_180 : decode cX12_next 180 = .ok (.getfield 30, 3) := by decide +kernel
theorem dX12_next_183 : decode cX12_next 183 = .ok (.iload_n 3, 1) := by decide +kernel
theorem dX12_next_184 : decode cX12_next 184 = .ok (.aload_n 0, 1) := by decide +kernel
theorem dX12_next_185 : decode cX12_next 185 = .ok (.invokevirtual 106, 3) := by decide +kernel
theorem dX12_next_188 : decode cX12_next 188 = .ok (.i2b, 1) := by decide +kernel
theorem dX12_next_189 : decode cX12_next 189 = .ok (.bastore, 1) := by decide +kernel
theorem dX12_next_190 : decode cX12_next 190 = .ok (.iload_n 2, 1) := by decide +kernel
theorem dX12_next_191 : decode cX12_next 191 = .ok (.aload_n 0, 1) := by decide +kernel
theorem dX12_next_192 : decode cX12_next 192 = .ok (.invokevirtual 106, 3) := by decide +kernel
theorem dX12_next_195 : decode cX12_next 195 = .ok (.invokestatic 116, 3) := by decide +kernel
theorem dX12_next_198 : decode cX12_next 198 = .ok (.ifCond .eq 7, 3) := by decide +kernel
theorem dX12_next_201 : decode cX12_next 201 = .ok (.iconst 1, 1) := by decide +kernel
theorem dX12_next_202 : decode cX12_next 202 = .ok (.goto 4, 3) := by decide +kernel
theorem dX12_next_205 : decode cX12_next 205 = .ok (.iconst 0, 1) := by decide +kernel
theorem dX12_next_206 : decode cX12_next 206 = .ok (.iadd, 1) := by decide +kernel
theorem dX12_next_207 : decode cX12_next 207 = .ok (.istore_n 2, 1) := by decide +kernel
theorem dX12_next_208 : decode cX12_next 208 = .ok (.aload_n 0, 1) := by decide +kernel
theorem dX12_next_209 : decode cX12_next 209 = .ok (.iload_n 3, 1) := by decide +kernel
theorem dX12_next_210 : decode cX12_next 210 = .ok (.iconst 2, 1) := by decide +kernel
theorem dX12_next_211 : decode cX12_next 211 = .ok (.if_icmp .ge 21, 3) := by decide +kernel
theorem dX12_next_214 : decode cX12_next 214 = .ok (.bipush 10, 2) := by decide +kernel
theorem dX12_next_216 : decode cX12_next 216 = .ok (.aload_n 0, 1) := by decide +kernel
theorem dX12_next_217 : decode cX12_next 217 = .ok (.getfield 110, 3) := by decide +kernel
theorem dX12_next_220 : decode cX12_next 220 = .ok (.imul, 1) := by decide +kernel
theorem dX12_next_221 : decode cX12_next 221 = .ok (.aload_n 0, 1) := by decide +kernel
theorem dX12_next_222 : decode cX12_next 222 = .ok (.invokevirtual 106, 3) := by decide +kernel
theorem dX12_next_225 : decode cX12_next 225 = .ok (.iadd, 1) := by decide +kernel
theorem dX12_next_226 : decode cX12_next 226 = .ok (.bipush 48, 2) := by decide +kernel
theorem dX12_next_228 : decode cX12_next 228 = .ok (.isub, 1) := by decide +kernel
theorem dX12_next_229 : decode cX12_next 229 = .ok (.goto 7, 3) := by decide +kernel
theorem dX12_next_232 : decode cX12_next 232 = .ok (.aload_n 0, 1) := by decide +kernel
theorem dX12_next_233 : decode cX12_next 233 = .ok (.getfield 110, 3) := by decide +kernel
theorem dX12_next_236 : decode cX12_next 236 = .ok (.putfield 110, 3) := by decide +kernel
theorem dX12_next_239 : decode cX12_next 239 = .ok (.aload_n 0, 1) := by decide +kernel
theorem dX12_next_240 : decode cX12_next 240 = .ok (.dup, 1) := by decide +kernel
theorem dX12_next_241 : decode cX12_next 241 = .ok (.getfield 87, 3) := by decide +kernel
theorem dX12_next_244 : decode cX12_next 244 = .ok (.iconst 1, 1) := by decide +kernel
theorem dX12_next_245 : decode cX12_next 245 = .ok (.iadd, 1) := by decide +kernel
theorem dX12_next_246 : decode cX12_next 246 = .ok (.putfield 87, 3) := by decide +kernel
theorem dX12_next_249 : decode cX12_next 249 = .ok (.goto (-106), 3) := by decide +kernel
theorem dX12_next_252 : decode cX12_next 252 = .ok (.aload_n 0, 1) := by decide +kernel
theorem dX12_next_253 : decode cX12_next 253 = .ok (.getfield 87, 3) := by decide +kernel
theorem dX12_next_256 : decode cX12_next 256 = .ok (.aload_n 0, 1) := by decide +kernel
theorem dX12_next_257 : decode cX12_next 257 = .ok (.getfield 99, 3) := by decide +kernel
theorem dX12_next_260 : decode cX12_next 260 = .ok (.isub, 1) := by decide +kernel
theorem dX12_next_261 : decode cX12_next 261 = .ok (.istore_n 3, 1) := by decide +kernel
theorem dX12_next_262 : decode cX12_next 262 = .ok (.aload_n 0, 1) := by decide +kernel
theorem dX12_next_263 : decode cX12_next 263 = .ok (.iload_n 3, 1) := by decide +kernel
theorem dX12_next_264 : decode cX12_next 264 = .ok (.putfield 123, 3) := by decide +kernel
theorem dX12_next_267 : decode cX12_next 267 = .ok (.aload_n 0, 1) := by decide +kernel
theorem dX12_next_268 : decode cX12_next 268 = .ok (.iload_n 2, 1) := by decide +kernel
theorem dX12_next_269 : decode cX12_next 269 = .ok (.iload_n 3, 1) := by decide +kernel
theorem dX12_next_270 : decode cX12_next 270 = .ok (.if_icmp .ne 13, 3) := by decide +kernel
theorem dX12_next_273 : decode cX12_next 273 = .ok (.iload_n 3, 1) := by decide +kernel
theorem dX12_next_274 : decode cX12_next 274 = .ok (.bipush 7, 2) := by decide +kernel
theorem dX12_next_276 : decode cX12_next 276 = .ok (.if_icmp .ge 7, 3) := by decide +kernel
theorem dX12_next_279 : decode cX12_next 279 = .ok (.iconst 1, 1) := by decide +kernel
theorem dX12_next_280 : decode cX12_next 280 = .ok (.goto 17, 3) := by decide +kernel
theorem dX12_next_283 : decode cX12_next 283 = .ok (.iload_n 2, 1) := by decide +kernel
theorem dX12_next_284 : decode cX12_next 284 = .ok (.ifCond .ne 12, 3) := by decide +kernel
theorem dX12_next_287 : decode cX12_next 287 = .ok (.iload_n 3, 1) := by decide +kernel
theorem dX12_next_288 : decode cX12_next 288 = .ok (.iconst 3, 1) := by decide +kernel
theorem dX12_next_289 : decode cX12_next 289 = .ok (.if_icmp .ge 7, 3) := by decide +kernel
theorem dX12_next_292 : decode cX12_next 292 = .ok (.iconst 2, 1) := by decide +kernel
theorem dX12_next_293 : decode cX12_next 293 = .ok (.goto 4, 3) := by decide +kernel
theorem dX12_next_296 : decode cX12_next 296 = .ok (.iconst 4, 1) := by decide +kernel
theorem dX12_next_297 : decode cX12_next 297 = .ok (.putfield 113, 3) := by decide +kernel
theorem dX12_next_300 : decode cX12_next 300 = .ok (.return_, 1) := by decide +kernel
theorem dX12_isKnown_0 : decode cX12_isKnown 0 = .ok (.aload_n 0, 1) := by decide +kernel
theorem dX12_isKnown_1 : decode cX12_isKnown 1 = .ok (.getfield 113, 3) := by decide +kernel
theorem dX12_isKnown_4 : decode cX12_isKnown 4 = .ok (.iconst 1, 1) := by decide +kernel
theorem dX12_isKnown_5 : decode cX12_isKnown 5 = .ok (.if_icmp .ne 24, 3) := by decide +kernel
theorem dX12_isKnown_8 : decode cX12_isKnown 8 = .ok (.aload_n 0, 1) := by decide +kernel
theorem dX12_isKnown_9 : decode cX12_isKnown 9 = .ok (.getfield 123, 3) := by decide +kernel
theorem dX12_isKnown_12 : decode cX12_isKnown 12 = .ok (.iload_n 1, 1) := by decide +kernel
theorem dX12_isKnown_13 : decode cX12_isKnown 13 = .ok (.iconst 3, 1) := by decide +kernel
theorem dX12_isKnown_14 : decode cX12_isKnown 14 = .ok (.if_icmp .ne 7, 3) := by decide +kernel
theorem dX12_isKnown_17 : decode cX12_isKnown 17 = .ok (.iconst 5, 1) := by decide +kernel
theorem dX12_isKnown_18 : decode cX12_isKnown 18 = .ok (.goto 4, 3) := by decide +kernel
theorem dX12_isKnown_21 : decode cX12_isKnown 21 = .ok (.iconst 4, 1) := by decide +kernel
theorem dX12_isKnown_22 : decode cX12_isKnown 22 = .ok (.if_icmp .ne 7, 3) := by decide +kernel
theorem dX12_isKnown_25 : decode cX12_isKnown 25 = .ok (.iconst 1, 1) := by decide +kernel
theorem dX12_isKnown_26 : decode cX12_isKnown 26 = .ok (.goto 4, 3) := by decide +kernel
theorem dX12_isKnown_29 : decode cX12_isKnown 29 = .ok (.iconst 0, 1) := by decide +kernel
theorem dX12_isKnown_30 : decode cX12_isKnown 30 = .ok (.istore_n 2, 1) := by decide +kernel
theorem dX12_isKnown_31 : decode cX12_isKnown 31 = .ok (.iconst 0, 1) := by decide +kernel
theorem dX12_isKnown_32 : decode cX12_isKnown 32 = .ok (.istore_n 3, 1) := by decide +kernel
theorem dX12_isKnown_33 : decode cX12_isKnown 33 = .ok (.iload_n 3, 1) := by decide +kernel
theorem dX12_isKnown_34 : decode cX12_isKnown 34 = .ok (.aload_n 0, 1) := by decide +kernel
theorem dX12_isKnown_35 : decode cX12_isKnown 35 = .ok (.getfield 123, 3) := by decide +kernel
theorem dX12_isKnown_38 : decode cX12_isKnown 38 = .ok (.if_icmp .ge 37, 3) := by decide +kernel
theorem dX12_isKnown_41 : decode cX12_isKnown 41 = .ok (.iload_n 2, 1) := by decide +kernel
theorem dX12_isKnown_42 : decode cX12_isKnown 42 = .ok (.ifCond .eq 33, 3) := by decide +kernel
theorem dX12_isKnown_45 : decode cX12_isKnown 45 = .ok (.aload_n 0, 1) := by decide +kernel
theorem dX12_isKnown_46 : decode cX12_isKnown 46 = .ok (.getfield 30, 3) := by decide +kernel
theorem dX12_isKnown_49 : decode cX12_isKnown 49 = .ok (.iload_n 3, 1) := by decide +kernel
theorem dX12_isKnown_50 : decode cX12_isKnown 50 = .ok (.baload, 1) := by decide +kernel
theorem dX12_isKnown_51 : decode cX12_isKnown 51 = .ok (.getstatic 126, 3) := by decide +kernel
theorem dX12_isKnown_54 : decode cX12_isKnown 54 = .ok (.iconst 5, 1) := by decide +kernel
theorem dX12_isKnown_55 : decode cX12_isKnown 55 = .ok (.iload_n 1, 1) := by decide +kernel
theorem dX12_isKnown_56 : decode cX12_isKnown 56 = .ok (.imul, 1) := by decide +kernel
theorem dX12_isKnown_57 : decode cX12_isKnown 57 = .ok (.iload_n 3, 1) := by decide +kernel
theorem dX12_isKnown_58 : decode cX12_isKnown 58 = .ok (.iadd, 1) := by decide +kernel
theorem dX12_isKnown_59 : decode cX12_isKnown 59 = .ok (.baload, 1) := by decide +kernel
theorem dX12_isKnown_60 : decode cX12_isKnown 60 = .ok (.if_icmp .ne 7, 3) := by decide +kernel
theorem dX12_isKnown_63 : decode cX12_isKnown 63 = .ok (.iconst 1, 1) := by decide +kernel
theorem dX12_isKnown_64 : decode cX12_isKnown 64 = .ok (.goto 4, 3) := by decide +kernel

theorem dX8_begin_17 : decode cX8_begin 17 = .ok (.putfield 32, 3) := by decide +kernel
theorem dX8_begin_20 : decode cX8_begin 20 = .ok (.iconst 0, 1) := by decide +kernel
theorem dX8_begin_21 : decode cX8_begin 21 = .ok (.istore_n 3, 1) := by decide +kernel
theorem dX8_begin_22 : decode cX8_begin 22 = .ok (.iload_n 3, 1) := by decide +kernel
theorem dX8_begin_23 : decode cX8_begin 23 = .ok (.bipush 8, 2) := by decide +kernel
theorem dX8_begin_25 : decode cX8_begin 25 = .ok (.if_icmp .ge 30, 3) := by decide +kernel
theorem dX8_begin_28 : decode cX8_begin 28 = .ok (.aload_n 0, 1) := by decide +kernel
theorem dX8_begin_29 : decode cX8_begin 29 = .ok (.getfield 18, 3) := by decide +kernel
theorem dX8_begin_32 : decode cX8_begin 32 = .ok (.iload_n 3, 1) := by decide +kernel
theorem dX8_begin_33 : decode cX8_begin 33 = .ok (.iconst 0, 1) := by decide +kernel
theorem dX8_begin_34 : decode cX8_begin 34 = .ok (.iastore, 1) := by decide +kernel
theorem dX8_begin_35 : decode cX8_begin 35 = .ok (.aload_n 0, 1) := by decide +kernel
theorem dX8_begin_36 : decode cX8_begin 36 = .ok (.getfield 22, 3) := by decide +kernel
theorem dX8_begin_39 : decode cX8_begin 39 = .ok (.iload_n 3, 1) := by decide +kernel
theorem dX8_begin_40 : decode cX8_begin 40 = .ok (.iconst 0, 1) := by decide +kernel
theorem dX8_begin_41 : decode cX8_begin 41 = .ok (.iastore, 1) := by decide +kernel
theorem dX8_begin_42 : decode cX8_begin 42 = .ok (.aload_n 0, 1) := by decide +kernel
theorem dX8_begin_43 : decode cX8_begin 43 = .ok (.getfield 25, 3) := by decide +kernel
theorem dX8_begin_46 : decode cX8_begin 46 = .ok (.iload_n 3, 1) := by decide +kernel
theorem dX8_begin_47 : decode cX8_begin 47 = .ok (.fconst 0, 1) := by decide +kernel
theorem dX8_begin_48 : decode cX8_begin 48 = .ok (.fastore, 1) := by decide +kernel
theorem dX8_begin_49 : decode cX8_begin 49 = .ok (.iinc 3 1, 3) := by decide +kernel
theorem dX8_begin_52 : decode cX8_begin 52 = .ok (.goto (-30), 3) := by decide +kernel
theorem dX8_begin_55 : decode cX8_begin 55 = .ok (.return_, 1) := by decide +kernel
theorem dX8_copyFrom_0 : decode cX8_copyFrom 0 = .ok (.aload_n 0, 1) := by decide +kernel
theorem dX8_copyFrom_1 : decode cX8_copyFrom 1 = .ok (.aload_n 1, 1) := by decide +kernel
theorem dX8_copyFrom_2 : decode cX8_copyFrom 2 = .ok (.getfield 9, 3) := by decide +kernel
theorem dX8_copyFrom_5 : decode cX8_copyFrom 5 = .ok (.putfield 9, 3) := by decide +kernel
theorem dX8_copyFrom_8 : decode cX8_copyFrom 8 = .ok (.aload_n 0, 1) := by decide +kernel
theorem dX8_copyFrom_9 : decode cX8_copyFrom 9 = .ok (.aload_n 1, 1) := by decide +kernel
theorem dX8_copyFrom_10 : decode cX8_copyFrom 10 = .ok (.getfield 15, 3) := by decide +kernel
theorem dX8_copyFrom_13 : decode cX8_copyFrom 13 = .ok (.putfield 15, 3) := by decide +kernel
theorem dX8_copyFrom_16 : decode cX8_copyFrom 16 = .ok (.aload_n 0, 1) := by decide +kernel
theorem dX8_copyFrom_17 : decode cX8_copyFrom 17 = .ok (.aload_n 1, 1) := by decide +kernel
theorem dX8_copyFrom_18 : decode cX8_copyFrom 18 = .ok (.getfield 29, 3) := by decide +kernel
theorem dX8_copyFrom_21 : decode cX8_copyFrom 21 = .ok (.putfield 29, 3) := by decide +kernel
theorem dX8_copyFrom_24 : decode cX8_copyFrom 24 = .ok (.aload_n 0, 1) := by decide +kernel
theorem dX8_copyFrom_25 : decode cX8_copyFrom 25 = .ok (.aload_n 1, 1) := by decide +kernel
theorem dX8_copyFrom_26 : decode cX8_copyFrom 26 = .ok (.getfield 32, 3) := by decide +kernel
theorem dX8_copyFrom_29 : decode cX8_copyFrom 29 = .ok (.putfield 32, 3) := by decide +kernel
theorem dX8_copyFrom_32 : decode cX8_copyFrom 32 = .ok (.aload_n 1, 1) := by decide +kernel
theorem dX8_copyFrom_33 : decode cX8_copyFrom 33 = .ok (.getfield 18, 3) := by decide +kernel
theorem dX8_copyFrom_36 : decode cX8_copyFrom 36 = .ok (.iconst 0, 1) := by decide +kernel
theorem dX8_copyFrom_37 : decode cX8_copyFrom 37 = .ok (.aload_n 0, 1) := by decide +kernel
theorem dX8_copyFrom_38 : decode cX8_copyFrom 38 = .ok (.getfield 18, 3) := by decide +kernel
theorem dX8_copyFrom_41 : decode cX8_copyFrom 41 = .ok (.iconst 0, 1) := by decide +kernel
theorem dX8_copyFrom_42 : decode cX8_copyFrom 42 = .ok (.bipush 8, 2) := by decide +kernel
theorem dX8_copyFrom_44 : decode cX8_copyFrom 44 = .ok (.invokestatic 35, 3) := by decide +kernel
theorem dX8_copyFrom_47 : decode cX8_copyFrom 47 = .ok (.aload_n 1, 1) := by decide +kernel
theorem dX8_copyFrom_48 : decode cX8_copyFrom 48 = .ok (.getfield 22, 3) := by decide +kernel
theorem dX8_copyFrom_51 : decode cX8_copyFrom 51 = .ok (.iconst 0, 1) := by decide +kernel
theorem dX8_copyFrom_52 : decode cX8_copyFrom 52 = .ok (.aload_n 0, 1) := by decide +kernel
theorem dX8_copyFrom_53 : decode cX8_copyFrom 53 = .ok (.getfield 22, 3) := by decide +kernel
theorem dX8_copyFrom_56 : decode cX8_copyFrom 56 = .ok (.iconst 0, 1) := by decide +kernel
theorem dX8_copyFrom_57 : decode cX8_copyFrom 57 = .ok (.bipush 8, 2) := by decide +kernel
theorem dX8_copyFrom_59 : decode cX8_copyFrom 59 = .ok (.invokestatic 35, 3) := by decide +kernel
theorem dX8_copyFrom_62 : decode cX8_copyFrom 62 = .ok (.aload_n 1, 1) := by decide +kernel
theorem dX8_copyFrom_63 : decode cX8_copyFrom 63 = .ok (.getfield 25, 3) := by decide +kernel
theorem dX8_copyFrom_66 : decode cX8_copyFrom 66 = .ok (.iconst 0, 1) := by decide +kernel
theorem dX8_copyFrom_67 : decode cX8_copyFrom 67 = .ok (.aload_n 0, 1) := by decide +kernel
theorem dX8_copyFrom_68 : decode cX8_copyFrom 68 = .ok (.getfield 25, 3) := by decide +kernel
theorem dX8_copyFrom_71 : decode cX8_copyFrom 71 = .ok (.iconst 0, 1) := by decide +kernel
theorem dX8_copyFrom_72 : decode cX8_copyFrom 72 = .ok (.bipush 8, 2) := by decide +kernel
theorem dX8_copyFrom_74 : decode cX8_copyFrom 74 = .ok (.invokestatic 35, 3) := by decide +kernel
theorem dX8_copyFrom_77 : decode cX8_copyFrom 77 = .ok (.return_, 1) := by decide +kernel
theorem dX8_holds_0 : decode cX8_holds 0 = .ok (.aload_n 0, 1) := by decide +kernel
theorem dX8_holds_1 : decode cX8_holds 1 = .ok (.getfield 29, 3) := by decide +kernel
theorem dX8_holds_4 : decode cX8_holds 4 = .ok (.iload_n 1, 1) := by decide +kernel
theorem dX8_holds_5 : decode cX8_holds 5 = .ok (.ishr, 1) := by decide +kernel
theorem dX8_holds_6 : decode cX8_holds 6 = .ok (.iconst 1, 1) := by decide +kernel
theorem dX8_holds_7 : decode cX8_holds 7 = .ok (.iand, 1) := by decide +kernel
theorem dX8_holds_8 : decode cX8_holds 8 = .ok (.iconst 1, 1) := by decide +kernel
theorem dX8_holds_9 : decode cX8_holds 9 = .ok (.if_icmp .ne 7, 3) := by decide +kernel
theorem dX8_holds_12 : decode cX8_holds 12 = .ok (.iconst 1, 1) := by decide +kernel
theorem dX8_holds_13 : decode cX8_holds 13 = .ok (.goto 4, 3) := by decide +kernel
theorem dX8_holds_16 : decode cX8_holds 16 = .ok (.iconst 0, 1) := by decide +kernel
theorem dX8_holds_17 : decode cX8_holds 17 = .ok (.ireturn, 1) := by decide +kernel
theorem dX8_free_0 : decode cX8_free 0 = .ok (.aload_n 0, 1) := by decide +kernel
theorem dX8_free_1 : decode cX8_free 1 = .ok (.getfield 9, 3) := by decide +kernel
theorem dX8_free_4 : decode cX8_free 4 = .ok (.aload_n 0, 1) := by decide +kernel
theorem dX8_free_5 : decode cX8_free 5 = .ok (.getfield 32, 3) := by decide +kernel
theorem dX8_free_8 : decode cX8_free 8 = .ok (.isub, 1) := by decide +kernel
theorem dX8_free_9 : decode cX8_free 9 = .ok (.ireturn, 1) := by decide +kernel
set_option maxRecDepth 20000 in
theorem ggX8_serve_X8_warm : GoodIn wsX8_serve wsX8_warm := goodIn_r _ [11, 12, 13, 66, 67, 68, 69, 70, 71, 72] (by decide +kernel) (by decide +kernel)
set_option maxRecDepth 20000 in
theorem gX8_serve_X8_warm : GoodIn wsX8_serve (wsV RX8 41 RX8 yX8_warm wsX8_warm) := goodIn_app (goodIn_of _ (by decide +kernel)) ggX8_serve_X8_warm
set_option maxRecDepth 20000 in
theorem ggX8_serve_X8_holds : GoodIn wsX8_serve wsX8_holds := goodIn_r _ [17, 18, 66, 67, 68, 69, 70, 71, 72] (by decide +kernel) (by decide +kernel)
set_option maxRecDepth 20000 in
theorem gX8_serve_X8_holds : GoodIn wsX8_serve (wsV RX8 45 RX8 yX8_holds wsX8_holds) := goodIn_app (goodIn_of _ (by decide +kernel)) ggX8_serve_X8_holds
set_option maxRecDepth 20000 in
theorem ggX8_serve_X10_fullDensity : GoodIn wsX8_serve wsX10_fullDensity := goodIn_r _ [23, 24, 25, 73, 74, 75, 76, 77] (by decide +kernel) (by decide +kernel)
set_option maxRecDepth 20000 in
theorem gX8_serve_X10_fullDensity : GoodIn wsX8_serve (wsV RX8 49 RX10 yX10_fullDensity wsX10_fullDensity) := goodIn_app (goodIn_of _ (by decide +kernel)) ggX8_serve_X10_fullDensity
set_option maxRecDepth 20000 in
theorem ggX8_serve_X1_add : GoodIn wsX8_serve wsX1_add := goodIn_r _ [30, 31, 32, 33, 34, 78, 79, 80, 81] (by decide +kernel) (by decide +kernel)
set_option maxRecDepth 20000 in
theorem gX8_serve_X1_add : GoodIn wsX8_serve (wsV RX8 55 RX1 yX1_add wsX1_add) := goodIn_app (goodIn_of _ (by decide +kernel)) ggX8_serve_X1_add
set_option maxRecDepth 20000 in
theorem ggX8_serve_X8_isRipe : GoodIn wsX8_serve wsX8_isRipe := goodIn_r _ [38, 4, 12, 5, 6, 39, 66, 67, 68, 69, 70, 71, 72, 73, 74, 75, 76, 77] (by decide +kernel) (by decide +kernel)
set_option maxRecDepth 20000 in
theorem gX8_serve_X8_isRipe : GoodIn wsX8_serve (wsV RX8 67 RX8 yX8_isRipe wsX8_isRipe) := goodIn_app (goodIn_of _ (by decide +kernel)) ggX8_serve_X8_isRipe
set_option maxRecDepth 20000 in
theorem ggX8_serve_X8_makeWay : GoodIn wsX8_serve wsX8_makeWay := goodIn_r _ [43, 1, 44, 45, 46, 10, 47, 3, 48, 49, 50, 51, 52, 53, 14, 15, 16, 17, 18, 54, 55, 56, 57, 2, 26, 27, 28, 29, 30, 31, 32, 33, 34, 58, 59, 60, 61, 66, 67, 68, 69, 70, 71, 72, 73, 74, 75, 76, 77, 78, 79, 80, 81] (by decide +kernel) (by decide +kernel)
set_option maxRecDepth 20000 in
theorem gX8_serve_X8_makeWay : GoodIn wsX8_serve (wsV RX8 71 RX8 yX8_makeWay wsX8_makeWay) := goodIn_app (goodIn_of _ (by decide +kernel)) ggX8_serve_X8_makeWay
set_option maxRecDepth 20000 in
theorem ggX8_serve_X8_raise : GoodIn wsX8_serve wsX8_raise := goodIn_r _ [65, 18, 48, 2, 1, 39, 6, 19, 20, 21, 22, 23, 24, 25, 26, 27, 28, 29, 30, 31, 32, 33, 34, 66, 67, 68, 69, 70, 71, 72, 73, 74, 75, 76, 77, 78, 79, 80, 81] (by decide +kernel) (by decide +kernel)
set_option maxRecDepth 20000 in
theorem gX8_serve_X8_raise : GoodIn wsX8_serve (wsV RX8 75 RX8 yX8_raise wsX8_raise) := goodIn_app (goodIn_of _ (by decide +kernel)) ggX8_serve_X8_raise
theorem dX8_serve_0 : decode cX8_serve 0 = .ok (.aload_n 0, 1) := by decide +kernel
theorem dX8_serve_1 : decode cX8_serve 1 = .ok (.iload_n 2, 1) := by decide +kernel
theorem dX8_serve_2 : decode cX8_serve 2 = .ok (.invokevirtual 41, 3) := by decide +kernel
theorem dX8_serve_5 : decode cX8_serve 5 = .ok (.aload_n 0, 1) := by decide +kernel
theorem dX8_serve_6 : decode cX8_serve 6 = .ok (.iload_n 2, 1) := by decide +kernel
theorem dX8_serve_7 : decode cX8_serve 7 = .ok (.invokevirtual 45, 3) := by decide +kernel
theorem dX8_serve_10 : decode cX8_serve 10 = .ok (.ifCond .eq 23, 3) := by decide +kernel
theorem dX8_serve_13 : decode cX8_serve 13 = .ok (.aload_n 0, 1) := by decide +kernel
theorem dX8_serve_14 : decode cX8_serve 14 = .ok (.getfield 18, 3) := by decide +kernel
theorem dX8_serve_17 : decode cX8_serve 17 = .ok (.iload_n 2, 1) := by decide +kernel
theorem dX8_serve_18 : decode cX8_serve 18 = .ok (.aload_n 1, 1) := by decide +kernel
theorem dX8_serve_19 : decode cX8_serve 19 = .ok (.iload_n 2, 1) := by decide +kernel
theorem dX8_serve_20 : decode cX8_serve 20 = .ok (.invokevirtual 49, 3) := by decide +kernel
theorem dX8_serve_23 : decode cX8_serve 23 = .ok (.iastore, 1) := by decide +kernel
theorem dX8_serve_24 : decode cX8_serve 24 = .ok (.aload_n 3, 1) := by decide +kernel
theorem dX8_serve_25 : decode cX8_serve 25 = .ok (.iconst 0, 1) := by decide +kernel
theorem dX8_serve_26 : decode cX8_serve 26 = .ok (.iload_n 2, 1) := by decide +kernel
theorem dX8_serve_27 : decode cX8_serve 27 = .ok (.iconst 0, 1) := by decide +kernel
theorem dX8_serve_28 : decode cX8_serve 28 = .ok (.invokevirtual 55, 3) := by decide +kernel
theorem dX8_serve_31 : decode cX8_serve 31 = .ok (.iconst 0, 1) := by decide +kernel
theorem dX8_serve_32 : decode cX8_serve 32 = .ok (.ireturn, 1) := by decide +kernel
theorem dX8_serve_33 : decode cX8_serve 33 = .ok (.aload_n 1, 1) := by decide +kernel
theorem dX8_serve_34 : decode cX8_serve 34 = .ok (.getfield 61, 3) := by decide +kernel
theorem dX8_serve_37 : decode cX8_serve 37 = .ok (.iload_n 2, 1) := by decide +kernel
theorem dX8_serve_38 : decode cX8_serve 38 = .ok (.iaload, 1) := by decide +kernel
theorem dX8_serve_39 : decode cX8_serve 39 = .ok (.aload_n 0, 1) := by decide +kernel
theorem dX8_serve_40 : decode cX8_serve 40 = .ok (.getfield 9, 3) := by decide +kernel
theorem dX8_serve_43 : decode cX8_serve 43 = .ok (.if_icmp .le 7, 3) := by decide +kernel
theorem dX8_serve_46 : decode cX8_serve 46 = .ok (.iconst 1, 1) := by decide +kernel
theorem dX8_serve_47 : decode cX8_serve 47 = .ok (.goto 4, 3) := by decide +kernel
theorem dX8_serve_50 : decode cX8_serve 50 = .ok (.iconst 0, 1) := by decide +kernel
theorem dX8_serve_51 : decode cX8_serve 51 = .ok (.istore 4, 2) := by decide +kernel
theorem dX8_serve_53 : decode cX8_serve 53 = .ok (.iconst 0, 1) := by decide +kernel
theorem dX8_serve_54 : decode cX8_serve 54 = .ok (.istore 5, 2) := by decide +kernel
theorem dX8_serve_56 : decode cX8_serve 56 = .ok (.iload 4, 2) := by decide +kernel
theorem dX8_serve_58 : decode cX8_serve 58 = .ok (.ifCond .ne 10, 3) := by decide +kernel
theorem dX8_serve_61 : decode cX8_serve 61 = .ok (.aload_n 0, 1) := by decide +kernel
theorem dX8_serve_62 : decode cX8_serve 62 = .ok (.getfield 15, 3) := by decide +kernel
theorem dX8_serve_65 : decode cX8_serve 65 = .ok (.ifCond .eq 19, 3) := by decide +kernel
theorem dX8_serve_68 : decode cX8_serve 68 = .ok (.aload_n 1, 1) := by decide +kernel
theorem dX8_serve_69 : decode cX8_serve 69 = .ok (.getfield 64, 3) := by decide +kernel
theorem dX8_serve_72 : decode cX8_serve 72 = .ok (.iload_n 2, 1) := by decide +kernel
theorem dX8_serve_73 : decode cX8_serve 73 = .ok (.iaload, 1) := by decide +kernel
theorem dX8_serve_74 : decode cX8_serve 74 = .ok (.istore 5, 2) := by decide +kernel
theorem dX8_serve_76 : decode cX8_serve 76 = .ok (.aload_n 3, 1) := by decide +kernel
theorem dX8_serve_77 : decode cX8_serve 77 = .ok (.iconst 1, 1) := by decide +kernel
theorem dX8_serve_78 : decode cX8_serve 78 = .ok (.iload_n 2, 1) := by decide +kernel
theorem dX8_serve_79 : decode cX8_serve 79 = .ok (.iload 5, 2) := by decide +kernel
theorem dX8_serve_81 : decode cX8_serve 81 = .ok (.invokevirtual 55, 3) := by decide +kernel
theorem dX8_serve_84 : decode cX8_serve 84 = .ok (.iload 4, 2) := by decide +kernel
theorem dX8_serve_86 : decode cX8_serve 86 = .ok (.ifCond .ne 42, 3) := by decide +kernel
theorem dX8_serve_89 : decode cX8_serve 89 = .ok (.aload_n 0, 1) := by decide +kernel
theorem dX8_serve_90 : decode cX8_serve 90 = .ok (.aload_n 1, 1) := by decide +kernel
theorem dX8_serve_91 : decode cX8_serve 91 = .ok (.iload_n 2, 1) := by decide +kernel
theorem dX8_serve_92 : decode cX8_serve 92 = .ok (.invokevirtual 67, 3) := by decide +kernel
theorem dX8_serve_95 : decode cX8_serve 95 = .ok (.ifCond .eq 33, 3) := by decide +kernel
theorem dX8_serve_98 : decode cX8_serve 98 = .ok (.aload_n 0, 1) := by decide +kernel
theorem dX8_serve_99 : decode cX8_serve 99 = .ok (.aload_n 1, 1) := by decide +kernel
theorem dX8_serve_100 : decode cX8_serve 100 = .ok (.aload_n 1, 1) := by decide +kernel
theorem dX8_serve_101 : decode cX8_serve 101 = .ok (.getfield 61, 3) := by decide +kernel
theorem dX8_serve_104 : decode cX8_serve 104 = .ok (.iload_n 2, 1) := by decide +kernel
theorem dX8_serve_105 : decode cX8_serve 105 = .ok (.iaload, 1) := by decide +kernel
theorem dX8_serve_106 : decode cX8_serve 106 = .ok (.aload_n 3, 1) := by decide +kernel
theorem dX8_serve_107 : decode cX8_serve 107 = .ok (.invokevirtual 71, 3) := by decide +kernel
theorem dX8_serve_110 : decode cX8_serve 110 = .ok (.aload_n 0, 1) := by decide +kernel
theorem dX8_serve_111 : decode cX8_serve 111 = .ok (.aload_n 1, 1) := by decide +kernel
theorem dX8_serve_112 : decode cX8_serve 112 = .ok (.iload_n 2, 1) := by decide +kernel
theorem dX8_serve_113 : decode cX8_serve 113 = .ok (.aload_n 3, 1) := by decide +kernel
theorem dX8_serve_114 : decode cX8_serve 114 = .ok (.invokevirtual 75, 3) := by decide +kernel
theorem dX8_serve_117 : decode cX8_serve 117 = .ok (.iload 5, 2) := by decide +kernel
theorem dX8_serve_119 : decode cX8_serve 119 = .ok (.aload_n 1, 1) := by decide +kernel
theorem dX8_serve_120 : decode cX8_serve 120 = .ok (.getfield 78, 3) := by decide +kernel
theorem dX8_serve_123 : decode cX8_serve 123 = .ok (.iload_n 2, 1) := by decide +kernel
theorem dX8_serve_124 : decode cX8_serve 124 = .ok (.iaload, 1) := by decide +kernel
theorem dX8_serve_125 : decode cX8_serve 125 = .ok (.iadd, 1) := by decide +kernel
theorem dX8_serve_126 : decode cX8_serve 126 = .ok (.istore 5, 2) := by decide +kernel
theorem dX8_serve_128 : decode cX8_serve 128 = .ok (.iload 5, 2) := by decide +kernel
theorem dX8_serve_130 : decode cX8_serve 130 = .ok (.ireturn, 1) := by decide +kernel
theorem dX8_warm_0 : decode cX8_warm 0 = .ok (.iconst 0, 1) := by decide +kernel
theorem dX8_warm_1 : decode cX8_warm 1 = .ok (.istore_n 2, 1) := by decide +kernel
theorem dX8_warm_2 : decode cX8_warm 2 = .ok (.iload_n 2, 1) := by decide +kernel
theorem dX8_warm_3 : decode cX8_warm 3 = .ok (.bipush 8, 2) := by decide +kernel
theorem dX8_warm_5 : decode cX8_warm 5 = .ok (.if_icmp .ge 24, 3) := by decide +kernel
theorem dX8_warm_8 : decode cX8_warm 8 = .ok (.aload_n 0, 1) := by decide +kernel
theorem dX8_warm_9 : decode cX8_warm 9 = .ok (.getfield 25, 3) := by decide +kernel
theorem dX8_warm_12 : decode cX8_warm 12 = .ok (.iload_n 2, 1) := by decide +kernel
theorem dX8_warm_13 : decode cX8_warm 13 = .ok (.aload_n 0, 1) := by decide +kernel
theorem dX8_warm_14 : decode cX8_warm 14 = .ok (.getfield 25, 3) := by decide +kernel
theorem dX8_warm_17 : decode cX8_warm 17 = .ok (.iload_n 2, 1) := by decide +kernel
theorem dX8_warm_18 : decode cX8_warm 18 = .ok (.faload, 1) := by decide +kernel
theorem dX8_warm_19 : decode cX8_warm 19 = .ok (.ldc 81, 2) := by decide +kernel
theorem dX8_warm_21 : decode cX8_warm 21 = .ok (.fmul, 1) := by decide +kernel
theorem dX8_warm_22 : decode cX8_warm 22 = .ok (.fastore, 1) := by decide +kernel
theorem dX8_warm_23 : decode cX8_warm 23 = .ok (.iinc 2 1, 3) := by decide +kernel
theorem dX8_warm_26 : decode cX8_warm 26 = .ok (.goto (-24), 3) := by decide +kernel
theorem dX8_warm_29 : decode cX8_warm 29 = .ok (.aload_n 0, 1) := by decide +kernel
theorem dX8_warm_30 : decode cX8_warm 30 = .ok (.getfield 25, 3) := by decide +kernel
theorem dX8_warm_33 : decode cX8_warm 33 = .ok (.iload_n 1, 1) := by decide +kernel
theorem dX8_warm_34 : decode cX8_warm 34 = .ok (.aload_n 0, 1) := by decide +kernel
theorem dX8_warm_35 : decode cX8_warm 35 = .ok (.getfield 25, 3) := by decide +kernel
theorem dX8_warm_38 : decode cX8_warm 38 = .ok (.iload_n 1, 1) := by decide +kernel
theorem dX8_warm_39 : decode cX8_warm 39 = .ok (.faload, 1) := by decide +kernel
theorem dX8_warm_40 : decode cX8_warm 40 = .ok (.fconst 1, 1) := by decide +kernel
theorem dX8_warm_41 : decode cX8_warm 41 = .ok (.fadd, 1) := by decide +kernel
theorem dX8_warm_42 : decode cX8_warm 42 = .ok (.fastore, 1) := by decide +kernel
theorem dX8_warm_43 : decode cX8_warm 43 = .ok (.return_, 1) := by decide +kernel
theorem dX8_isRipe_0 : decode cX8_isRipe 0 = .ok (.aload_n 0, 1) := by decide +kernel
theorem dX8_isRipe_1 : decode cX8_isRipe 1 = .ok (.getfield 15, 3) := by decide +kernel
theorem dX8_isRipe_4 : decode cX8_isRipe 4 = .ok (.ifCond .ne 5, 3) := by decide +kernel
theorem dX8_isRipe_7 : decode cX8_isRipe 7 = .ok (.iconst 1, 1) := by decide +kernel
theorem dX8_isRipe_8 : decode cX8_isRipe 8 = .ok (.ireturn, 1) := by decide +kernel
theorem dX8_isRipe_9 : decode cX8_isRipe 9 = .ok (.aload_n 0, 1) := by decide +kernel
theorem dX8_isRipe_10 : decode cX8_isRipe 10 = .ok (.getfield 15, 3) := by decide +kernel
theorem dX8_isRipe_13 : decode cX8_isRipe 13 = .ok (.iconst 2, 1) := by decide +kernel
theorem dX8_isRipe_14 : decode cX8_isRipe 14 = .ok (.if_icmp .ne 34, 3) := by decide +kernel
theorem dX8_isRipe_17 : decode cX8_isRipe 17 = .ok (.aload_n 0, 1) := by decide +kernel
theorem dX8_isRipe_18 : decode cX8_isRipe 18 = .ok (.getfield 25, 3) := by decide +kernel
theorem dX8_isRipe_21 : decode cX8_isRipe 21 = .ok (.iload_n 2, 1) := by decide +kernel
theorem dX8_isRipe_22 : decode cX8_isRipe 22 = .ok (.faload, 1) := by decide +kernel
theorem dX8_isRipe_23 : decode cX8_isRipe 23 = .ok (.aload_n 1, 1) := by decide +kernel
theorem dX8_isRipe_24 : decode cX8_isRipe 24 = .ok (.getfield 64, 3) := by decide +kernel
theorem dX8_isRipe_27 : decode cX8_isRipe 27 = .ok (.iload_n 2, 1) := by decide +kernel
theorem dX8_isRipe_28 : decode cX8_isRipe 28 = .ok (.iaload, 1) := by decide +kernel
theorem dX8_isRipe_29 : decode cX8_isRipe 29 = .ok (.i2f, 1) := by decide +kernel
theorem dX8_isRipe_30 : decode cX8_isRipe 30 = .ok (.fmul, 1) := by decide +kernel
theorem dX8_isRipe_31 : decode cX8_isRipe 31 = .ok (.aload_n 1, 1) := by decide +kernel
theorem dX8_isRipe_32 : decode cX8_isRipe 32 = .ok (.getfield 78, 3) := by decide +kernel
theorem dX8_isRipe_35 : decode cX8_isRipe 35 = .ok (.iload_n 2, 1) := by decide +kernel
theorem dX8_isRipe_36 : decode cX8_isRipe 36 = .ok (.iaload, 1) := by decide +kernel
theorem dX8_isRipe_37 : decode cX8_isRipe 37 = .ok (.i2f, 1) := by decide +kernel
theorem dX8_isRipe_38 : decode cX8_isRipe 38 = .ok (.fcmp .l, 1) := by decide +kernel
theorem dX8_isRipe_39 : decode cX8_isRipe 39 = .ok (.ifCond .lt 7, 3) := by decide +kernel
theorem dX8_isRipe_42 : decode cX8_isRipe 42 = .ok (.iconst 1, 1) := by decide +kernel
theorem dX8_isRipe_43 : decode cX8_isRipe 43 = .ok (.goto 4, 3) := by decide +kernel
theorem dX8_isRipe_46 : decode cX8_isRipe 46 = .ok (.iconst 0, 1) := by decide +kernel
theorem dX8_isRipe_47 : decode cX8_isRipe 47 = .ok (.ireturn, 1) := by decide +kernel
theorem dX8_isRipe_48 : decode cX8_isRipe 48 = .ok (.aload_n 0, 1) := by decide +kernel
theorem dX8_isRipe_49 : decode cX8_isRipe 49 = .ok (.getfield 22, 3) := by decide +kernel
theorem dX8_isRipe_52 : decode cX8_isRipe 52 = .ok (.iload_n 2, 1) := by decide +kernel
theorem dX8_isRipe_53 : decode cX8_isRipe 53 = .ok (.dup2, 1) := by decide +kernel
theorem dX8_isRipe_54 : decode cX8_isRipe 54 = .ok (.iaload, 1) := by decide +kernel
theorem dX8_isRipe_55 : decode cX8_isRipe 55 = .ok (.aload_n 1, 1) := by decide +kernel
theorem dX8_isRipe_56 : decode cX8_isRipe 56 = .ok (.getfield 64, 3) := by decide +kernel
theorem dX8_isRipe_59 : decode cX8_isRipe 59 = .ok (.iload_n 2, 1) := by decide +kernel
theorem dX8_isRipe_60 : decode cX8_isRipe 60 = .ok (.iaload, 1) := by decide +kernel
theorem dX8_isRipe_61 : decode cX8_isRipe 61 = .ok (.iadd, 1) := by decide +kernel
theorem dX8_isRipe_62 : decode cX8_isRipe 62 = .ok (.iastore, 1) := by decide +kernel
theorem dX8_isRipe_63 : decode cX8_isRipe 63 = .ok (.aload_n 0, 1) := by decide +kernel
theorem dX8_isRipe_64 : decode cX8_isRipe 64 = .ok (.getfield 22, 3) := by decide +kernel
theorem dX8_isRipe_67 : decode cX8_isRipe 67 = .ok (.iload_n 2, 1) := by decide +kernel
theorem dX8_isRipe_68 : decode cX8_isRipe 68 = .ok (.iaload, 1) := by decide +kernel
theorem dX8_isRipe_69 : decode cX8_isRipe 69 = .ok (.aload_n 1, 1) := by decide +kernel
theorem dX8_isRipe_70 : decode cX8_isRipe 70 = .ok (.getfield 78, 3) := by decide +kernel
theorem dX8_isRipe_73 : decode cX8_isRipe 73 = .ok (.iload_n 2, 1) := by decide +kernel
theorem dX8_isRipe_74 : decode cX8_isRipe 74 = .ok (.iaload, 1) := by decide +kernel
theorem dX8_isRipe_75 : decode cX8_isRipe 75 = .ok (.if_icmp .lt 7, 3) := by decide +kernel
theorem dX8_isRipe_78 : decode cX8_isRipe 78 = .ok (.iconst 1, 1) := by decide +kernel
theorem dX8_isRipe_79 : decode cX8_isRipe 79 = .ok (.goto 4, 3) := by decide +kernel
theorem dX8_isRipe_82 : decode cX8_isRipe 82 = .ok (.iconst 0, 1) := by decide +kernel
theorem dX8_isRipe_83 : decode cX8_isRipe 83 = .ok (.ireturn, 1) := by decide +kernel
set_option maxRecDepth 20000 in
theorem ggX8_makeWay_X8_free : GoodIn wsX8_makeWay wsX8_free := goodIn_r _ [6, 7, 8, 37, 38, 39, 40, 41, 42, 43] (by decide +kernel) (by decide +kernel)
set_option maxRecDepth 20000 in
theorem gX8_makeWay_X8_free : GoodIn wsX8_makeWay (wsV RX8 82 RX8 yX8_free wsX8_free) := goodIn_app (goodIn_of _ (by decide +kernel)) ggX8_makeWay_X8_free
set_option maxRecDepth 20000 in
theorem ggX8_makeWay_X8_poorestOnFast : GoodIn wsX8_makeWay wsX8_poorestOnFast := goodIn_r _ [12, 13, 1, 14, 15, 16, 5, 17, 18, 44, 45, 46, 47, 48, 37, 38, 39, 40, 41, 42, 43] (by decide +kernel) (by decide +kernel)
set_option maxRecDepth 20000 in
theorem gX8_makeWay_X8_poorestOnFast : GoodIn wsX8_makeWay (wsV RX8 86 RX8 yX8_poorestOnFast wsX8_poorestOnFast) := goodIn_app (goodIn_of _ (by decide +kernel)) ggX8_makeWay_X8_poorestOnFast
set_option maxRecDepth 20000 in
theorem ggX8_makeWay_X8_lower : GoodIn wsX8_makeWay wsX8_lower := goodIn_r _ [22, 18, 8, 23, 1, 24, 25, 26, 27, 28, 29, 30, 31, 32, 37, 38, 39, 40, 41, 42, 43, 44, 45, 46, 47, 48, 49, 50, 51, 52] (by decide +kernel) (by decide +kernel)
set_option maxRecDepth 20000 in
theorem gX8_makeWay_X8_lower : GoodIn wsX8_makeWay (wsV RX8 90 RX8 yX8_lower wsX8_lower) := goodIn_app (goodIn_of _ (by decide +kernel)) ggX8_makeWay_X8_lower
set_option maxRecDepth 20000 in
theorem ggX8_makeWay_X8_sinkAll : GoodIn wsX8_makeWay wsX8_sinkAll := goodIn_r _ [36, 13, 1, 14, 15, 16, 5, 17, 18, 44, 45, 46, 47, 48, 37, 38, 39, 40, 41, 42, 43] (by decide +kernel) (by decide +kernel)
set_option maxRecDepth 20000 in
theorem gX8_makeWay_X8_sinkAll : GoodIn wsX8_makeWay (wsV RX8 93 RX8 yX8_sinkAll wsX8_sinkAll) := goodIn_app (goodIn_of _ (by decide +kernel)) ggX8_makeWay_X8_sinkAll
theorem dX8_makeWay_0 : decode cX8_makeWay 0 = .ok (.iconst 0, 1) := by decide +kernel
theorem dX8_makeWay_1 : decode cX8_makeWay 1 = .ok (.istore 4, 2) := by decide +kernel
theorem dX8_makeWay_3 : decode cX8_makeWay 3 = .ok (.iload 4, 2) := by decide +kernel
theorem dX8_makeWay_5 : decode cX8_makeWay 5 = .ok (.bipush 16, 2) := by decide +kernel
theorem dX8_makeWay_7 : decode cX8_makeWay 7 = .ok (.if_icmp .ge 64, 3) := by decide +kernel
theorem dX8_makeWay_10 : decode cX8_makeWay 10 = .ok (.aload_n 0, 1) := by decide +kernel
theorem dX8_makeWay_11 : decode cX8_makeWay 11 = .ok (.invokevirtual 82, 3) := by decide +kernel
theorem dX8_makeWay_14 : decode cX8_makeWay 14 = .ok (.iload_n 2, 1) := by decide +kernel
theorem dX8_makeWay_15 : decode cX8_makeWay 15 = .ok (.if_icmp .ge 56, 3) := by decide +kernel
theorem dX8_makeWay_18 : decode cX8_makeWay 18 = .ok (.aload_n 0, 1) := by decide +kernel
theorem dX8_makeWay_19 : decode cX8_makeWay 19 = .ok (.aload_n 1, 1) := by decide +kernel
theorem dX8_makeWay_20 : decode cX8_makeWay 20 = .ok (.invokevirtual 86, 3) := by decide +kernel
theorem dX8_makeWay_23 : decode cX8_makeWay 23 = .ok (.istore 5, 2) := by decide +kernel
theorem dX8_makeWay_25 : decode cX8_makeWay 25 = .ok (.iload 5, 2) := by decide +kernel
theorem dX8_makeWay_27 : decode cX8_makeWay 27 = .ok (.iconst (-1), 1) := by decide +kernel
theorem dX8_makeWay_28 : decode cX8_makeWay 28 = .ok (.if_icmp .ne 4, 3) := by decide +kernel
theorem dX8_makeWay_31 : decode cX8_makeWay 31 = .ok (.return_, 1) := by decide +kernel
theorem dX8_makeWay_32 : decode cX8_makeWay 32 = .ok (.aload_n 0, 1) := by decide +kernel
theorem dX8_makeWay_33 : decode cX8_makeWay 33 = .ok (.getfield 18, 3) := by decide +kernel
theorem dX8_makeWay_36 : decode cX8_makeWay 36 = .ok (.iload 5, 2) := by decide +kernel
theorem dX8_makeWay_38 : decode cX8_makeWay 38 = .ok (.iaload, 1) := by decide +kernel
theorem dX8_makeWay_39 : decode cX8_makeWay 39 = .ok (.ifCond .ne 14, 3) := by decide +kernel
theorem dX8_makeWay_42 : decode cX8_makeWay 42 = .ok (.aload_n 0, 1) := by decide +kernel
theorem dX8_makeWay_43 : decode cX8_makeWay 43 = .ok (.aload_n 1, 1) := by decide +kernel
theorem dX8_makeWay_44 : decode cX8_makeWay 44 = .ok (.iload 5, 2) := by decide +kernel
theorem dX8_makeWay_46 : decode cX8_makeWay 46 = .ok (.aload_n 3, 1) := by decide +kernel
theorem dX8_makeWay_47 : decode cX8_makeWay 47 = .ok (.invokevirtual 90, 3) := by decide +kernel
theorem dX8_makeWay_50 : decode cX8_makeWay 50 = .ok (.goto 15, 3) := by decide +kernel
theorem dX8_makeWay_53 : decode cX8_makeWay 53 = .ok (.aload_n 0, 1) := by decide +kernel
theorem dX8_makeWay_54 : decode cX8_makeWay 54 = .ok (.aload_n 1, 1) := by decide +kernel
theorem dX8_makeWay_55 : decode cX8_makeWay 55 = .ok (.aload_n 0, 1) := by decide +kernel
theorem dX8_makeWay_56 : decode cX8_makeWay 56 = .ok (.getfield 18, 3) := by decide +kernel
theorem dX8_makeWay_59 : decode cX8_makeWay 59 = .ok (.iload 5, 2) := by decide +kernel
theorem dX8_makeWay_61 : decode cX8_makeWay 61 = .ok (.iaload, 1) := by decide +kernel
theorem dX8_makeWay_62 : decode cX8_makeWay 62 = .ok (.invokevirtual 93, 3) := by decide +kernel
theorem dX8_makeWay_65 : decode cX8_makeWay 65 = .ok (.iinc 4 1, 3) := by decide +kernel
theorem dX8_makeWay_68 : decode cX8_makeWay 68 = .ok (.goto (-65), 3) := by decide +kernel
theorem dX8_makeWay_71 : decode cX8_makeWay 71 = .ok (.return_, 1) := by decide +kernel
set_option maxRecDepth 20000 in
theorem ggX8_poorestOnFast_X8_holds : GoodIn wsX8_poorestOnFast wsX8_holds := goodIn_r _ [7, 8, 14, 15, 16, 17, 18, 19, 20] (by decide +kernel) (by decide +kernel)
set_option maxRecDepth 20000 in
theorem gX8_poorestOnFast_X8_holds : GoodIn wsX8_poorestOnFast (wsV RX8 45 RX8 yX8_holds wsX8_holds) := goodIn_app (goodIn_of _ (by decide +kernel)) ggX8_poorestOnFast_X8_holds
theorem dX8_poorestOnFast_0 : decode cX8_poorestOnFast 0 = .ok (.iconst (-1), 1) := by decide +kernel
theorem dX8_poorestOnFast_1 : decode cX8_poorestOnFast 1 = .ok (.istore_n 2, 1) := by decide +kernel
theorem dX8_poorestOnFast_2 : decode cX8_poorestOnFast 2 = .ok (.iconst 0, 1) := by decide +kernel
theorem dX8_poorestOnFast_3 : decode cX8_poorestOnFast 3 = .ok (.istore_n 3, 1) := by decide +kernel
theorem dX8_poorestOnFast_4 : decode cX8_poorestOnFast 4 = .ok (.iload_n 3, 1) := by decide +kernel
theorem dX8_poorestOnFast_5 : decode cX8_poorestOnFast 5 = .ok (.aload_n 1, 1) := by decide +kernel
theorem dX8_poorestOnFast_6 : decode cX8_poorestOnFast 6 = .ok (.getfield 97, 3) := by decide +kernel
theorem dX8_poorestOnFast_9 : decode cX8_poorestOnFast 9 = .ok (.if_icmp .ge 39, 3) := by decide +kernel
theorem dX8_poorestOnFast_12 : decode cX8_poorestOnFast 12 = .ok (.aload_n 0, 1) := by decide +kernel
theorem dX8_poorestOnFast_13 : decode cX8_poorestOnFast 13 = .ok (.iload_n 3, 1) := by decide +kernel
theorem dX8_poorestOnFast_14 : decode cX8_poorestOnFast 14 = .ok (.invokevirtual 45, 3) := by decide +kernel
theorem dX8_poorestOnFast_17 : decode cX8_poorestOnFast 17 = .ok (.ifCond .eq 25, 3) := by decide +kernel
theorem dX8_poorestOnFast_20 : decode cX8_poorestOnFast 20 = .ok (.iload_n 2, 1) := by decide +kernel
theorem dX8_poorestOnFast_21 : decode cX8_poorestOnFast 21 = .ok (.iconst (-1), 1) := by decide +kernel
theorem dX8_poorestOnFast_22 : decode cX8_poorestOnFast 22 = .ok (.if_icmp .eq 18, 3) := by decide +kernel
theorem dX8_poorestOnFast_25 : decode cX8_poorestOnFast 25 = .ok (.aload_n 0, 1) := by decide +kernel
theorem dX8_poorestOnFast_26 : decode cX8_poorestOnFast 26 = .ok (.getfield 18, 3) := by decide +kernel
theorem dX8_poorestOnFast_29 : decode cX8_poorestOnFast 29 = .ok (.iload_n 3, 1) := by decide +kernel
theorem dX8_poorestOnFast_30 : decode cX8_poorestOnFast 30 = .ok (.iaload, 1) := by decide +kernel
theorem dX8_poorestOnFast_31 : decode cX8_poorestOnFast 31 = .ok (.aload_n 0, 1) := by decide +kernel
theorem dX8_poorestOnFast_32 : decode cX8_poorestOnFast 32 = .ok (.getfield 18, 3) := by decide +kernel
theorem dX8_poorestOnFast_35 : decode cX8_poorestOnFast 35 = .ok (.iload_n 2, 1) := by decide +kernel
theorem dX8_poorestOnFast_36 : decode cX8_poorestOnFast 36 = .ok (.iaload, 1) := by decide +kernel
theorem dX8_poorestOnFast_37 : decode cX8_poorestOnFast 37 = .ok (.if_icmp .ge 5, 3) := by decide +kernel
theorem dX8_poorestOnFast_40 : decode cX8_poorestOnFast 40 = .ok (.iload_n 3, 1) := by decide +kernel
theorem dX8_poorestOnFast_41 : decode cX8_poorestOnFast 41 = .ok (.istore_n 2, 1) := by decide +kernel
theorem dX8_poorestOnFast_42 : decode cX8_poorestOnFast 42 = .ok (.iinc 3 1, 3) := by decide +kernel
theorem dX8_poorestOnFast_45 : decode cX8_poorestOnFast 45 = .ok (.goto (-41), 3) := by decide +kernel
theorem dX8_poorestOnFast_48 : decode cX8_poorestOnFast 48 = .ok (.iload_n 2, 1) := by decide +kernel
theorem dX8_poorestOnFast_49 : decode cX8_poorestOnFast 49 = .ok (.ireturn, 1) := by decide +kernel
set_option maxRecDepth 20000 in
theorem ggX8_sinkAll_X8_holds : GoodIn wsX8_sinkAll wsX8_holds := goodIn_r _ [7, 8, 14, 15, 16, 17, 18, 19, 20] (by decide +kernel) (by decide +kernel)
set_option maxRecDepth 20000 in
theorem gX8_sinkAll_X8_holds : GoodIn wsX8_sinkAll (wsV RX8 45 RX8 yX8_holds wsX8_holds) := goodIn_app (goodIn_of _ (by decide +kernel)) ggX8_sinkAll_X8_holds
theorem dX8_sinkAll_0 : decode cX8_sinkAll 0 = .ok (.iconst 0, 1) := by decide +kernel
theorem dX8_sinkAll_1 : decode cX8_sinkAll 1 = .ok (.istore_n 3, 1) := by decide +kernel
theorem dX8_sinkAll_2 : decode cX8_sinkAll 2 = .ok (.iload_n 3, 1) := by decide +kernel
theorem dX8_sinkAll_3 : decode cX8_sinkAll 3 = .ok (.aload_n 1, 1) := by decide +kernel
theorem dX8_sinkAll_4 : decode cX8_sinkAll 4 = .ok (.getfield 97, 3) := by decide +kernel
theorem dX8_sinkAll_7 : decode cX8_sinkAll 7 = .ok (.if_icmp .ge 27, 3) := by decide +kernel
theorem dX8_sinkAll_10 : decode cX8_sinkAll 10 = .ok (.aload_n 0, 1) := by decide +kernel
theorem dX8_sinkAll_11 : decode cX8_sinkAll 11 = .ok (.iload_n 3, 1) := by decide +kernel
theorem dX8_sinkAll_12 : decode cX8_sinkAll 12 = .ok (.invokevirtual 45, 3) := by decide +kernel
theorem dX8_sinkAll_15 : decode cX8_sinkAll 15 = .ok (.ifCond .eq 13, 3) := by decide +kernel
theorem dX8_sinkAll_18 : decode cX8_sinkAll 18 = .ok (.aload_n 0, 1) := by decide +kernel
theorem dX8_sinkAll_19 : decode cX8_sinkAll 19 = .ok (.getfield 18, 3) := by decide +kernel
theorem dX8_sinkAll_22 : decode cX8_sinkAll 22 = .ok (.iload_n 3, 1) := by decide +kernel
theorem dX8_sinkAll_23 : decode cX8_sinkAll 23 = .ok (.dup2, 1) := by decide +kernel
theorem dX8_sinkAll_24 : decode cX8_sinkAll 24 = .ok (.iaload, 1) := by decide +kernel
theorem dX8_sinkAll_25 : decode cX8_sinkAll 25 = .ok (.iload_n 2, 1) := by decide +kernel
theorem dX8_sinkAll_26 : decode cX8_sinkAll 26 = .ok (.isub, 1) := by decide +kernel
theorem dX8_sinkAll_27 : decode cX8_sinkAll 27 = .ok (.iastore, 1) := by decide +kernel
theorem dX8_sinkAll_28 : decode cX8_sinkAll 28 = .ok (.iinc 3 1, 3) := by decide +kernel
theorem dX8_sinkAll_31 : decode cX8_sinkAll 31 = .ok (.goto (-29), 3) := by decide +kernel
theorem dX8_sinkAll_34 : decode cX8_sinkAll 34 = .ok (.return_, 1) := by decide +kernel
set_option maxRecDepth 20000 in
theorem ggX8_lower_X1_add : GoodIn wsX8_lower wsX1_add := goodIn_r _ [9, 10, 11, 12, 13, 26, 27, 28, 29] (by decide +kernel) (by decide +kernel)
set_option maxRecDepth 20000 in
theorem gX8_lower_X1_add : GoodIn wsX8_lower (wsV RX8 55 RX1 yX1_add wsX1_add) := goodIn_app (goodIn_of _ (by decide +kernel)) ggX8_lower_X1_add
theorem dX8_lower_0 : decode cX8_lower 0 = .ok (.aload_n 0, 1) := by decide +kernel
theorem dX8_lower_1 : decode cX8_lower 1 = .ok (.dup, 1) := by decide +kernel
theorem dX8_lower_2 : decode cX8_lower 2 = .ok (.getfield 29, 3) := by decide +kernel
theorem dX8_lower_5 : decode cX8_lower 5 = .ok (.iconst 1, 1) := by decide +kernel
theorem dX8_lower_6 : decode cX8_lower 6 = .ok (.iload_n 2, 1) := by decide +kernel
theorem dX8_lower_7 : decode cX8_lower 7 = .ok (.ishl, 1) := by decide +kernel
theorem dX8_lower_8 : decode cX8_lower 8 = .ok (.iconst (-1), 1) := by decide +kernel
theorem dX8_lower_9 : decode cX8_lower 9 = .ok (.ixor, 1) := by decide +kernel
theorem dX8_lower_10 : decode cX8_lower 10 = .ok (.iand, 1) := by decide +kernel
theorem dX8_lower_11 : decode cX8_lower 11 = .ok (.putfield 29, 3) := by decide +kernel
theorem dX8_lower_14 : decode cX8_lower 14 = .ok (.aload_n 0, 1) := by decide +kernel
theorem dX8_lower_15 : decode cX8_lower 15 = .ok (.dup, 1) := by decide +kernel
theorem dX8_lower_16 : decode cX8_lower 16 = .ok (.getfield 32, 3) := by decide +kernel
theorem dX8_lower_19 : decode cX8_lower 19 = .ok (.aload_n 1, 1) := by decide +kernel
theorem dX8_lower_20 : decode cX8_lower 20 = .ok (.getfield 61, 3) := by decide +kernel
theorem dX8_lower_23 : decode cX8_lower 23 = .ok (.iload_n 2, 1) := by decide +kernel
theorem dX8_lower_24 : decode cX8_lower 24 = .ok (.iaload, 1) := by decide +kernel
theorem dX8_lower_25 : decode cX8_lower 25 = .ok (.isub, 1) := by decide +kernel
theorem dX8_lower_26 : decode cX8_lower 26 = .ok (.putfield 32, 3) := by decide +kernel
theorem dX8_lower_29 : decode cX8_lower 29 = .ok (.aload_n 0, 1) := by decide +kernel
theorem dX8_lower_30 : decode cX8_lower 30 = .ok (.getfield 18, 3) := by decide +kernel
theorem dX8_lower_33 : decode cX8_lower 33 = .ok (.iload_n 2, 1) := by decide +kernel
theorem dX8_lower_34 : decode cX8_lower 34 = .ok (.iconst 0, 1) := by decide +kernel
theorem dX8_lower_35 : decode cX8_lower 35 = .ok (.iastore, 1) := by decide +kernel
theorem dX8_lower_36 : decode cX8_lower 36 = .ok (.aload_n 3, 1) := by decide +kernel
theorem dX8_lower_37 : decode cX8_lower 37 = .ok (.iconst 2, 1) := by decide +kernel
theorem dX8_lower_38 : decode cX8_lower 38 = .ok (.iload_n 2, 1) := by decide +kernel
theorem dX8_lower_39 : decode cX8_lower 39 = .ok (.aload_n 1, 1) := by decide +kernel
theorem dX8_lower_40 : decode cX8_lower 40 = .ok (.getfield 61, 3) := by decide +kernel
theorem dX8_lower_43 : decode cX8_lower 43 = .ok (.iload_n 2, 1) := by decide +kernel
theorem dX8_lower_44 : decode cX8_lower 44 = .ok (.iaload, 1) := by decide +kernel
theorem dX8_lower_45 : decode cX8_lower 45 = .ok (.invokevirtual 55, 3) := by decide +kernel
theorem dX8_lower_48 : decode cX8_lower 48 = .ok (.return_, 1) := by decide +kernel
set_option maxRecDepth 20000 in
theorem ggX8_raise_X10_fullDensity : GoodIn wsX8_raise wsX10_fullDensity := goodIn_r _ [11, 12, 13, 30, 31, 32, 33, 34] (by decide +kernel) (by decide +kernel)
set_option maxRecDepth 20000 in
theorem gX8_raise_X10_fullDensity : GoodIn wsX8_raise (wsV RX8 49 RX10 yX10_fullDensity wsX10_fullDensity) := goodIn_app (goodIn_of _ (by decide +kernel)) ggX8_raise_X10_fullDensity
set_option maxRecDepth 20000 in
theorem ggX8_raise_X1_add : GoodIn wsX8_raise wsX1_add := goodIn_r _ [18, 19, 20, 21, 22, 35, 36, 37, 38] (by decide +kernel) (by decide +kernel)
set_option maxRecDepth 20000 in
theorem gX8_raise_X1_add : GoodIn wsX8_raise (wsV RX8 55 RX1 yX1_add wsX1_add) := goodIn_app (goodIn_of _ (by decide +kernel)) ggX8_raise_X1_add
theorem dX8_raise_0 : decode cX8_raise 0 = .ok (.aload_n 0, 1) := by decide +kernel
theorem dX8_raise_1 : decode cX8_raise 1 = .ok (.dup, 1) := by decide +kernel
theorem dX8_raise_2 : decode cX8_raise 2 = .ok (.getfield 29, 3) := by decide +kernel
theorem dX8_raise_5 : decode cX8_raise 5 = .ok (.iconst 1, 1) := by decide +kernel
theorem dX8_raise_6 : decode cX8_raise 6 = .ok (.iload_n 2, 1) := by decide +kernel
theorem dX8_raise_7 : decode cX8_raise 7 = .ok (.ishl, 1) := by decide +kernel
theorem dX8_raise_8 : decode cX8_raise 8 = .ok (.ior, 1) := by decide +kernel
theorem dX8_raise_9 : decode cX8_raise 9 = .ok (.putfield 29, 3) := by decide +kernel
theorem dX8_raise_12 : decode cX8_raise 12 = .ok (.aload_n 0, 1) := by decide +kernel
theorem dX8_raise_13 : decode cX8_raise 13 = .ok (.dup, 1) := by decide +kernel
theorem dX8_raise_14 : decode cX8_raise 14 = .ok (.getfield 32, 3) := by decide +kernel
theorem dX8_raise_17 : decode cX8_raise 17 = .ok (.aload_n 1, 1) := by decide +kernel
theorem dX8_raise_18 : decode cX8_raise 18 = .ok (.getfield 61, 3) := by decide +kernel
theorem dX8_raise_21 : decode cX8_raise 21 = .ok (.iload_n 2, 1) := by decide +kernel
theorem dX8_raise_22 : decode cX8_raise 22 = .ok (.iaload, 1) := by decide +kernel
theorem dX8_raise_23 : decode cX8_raise 23 = .ok (.iadd, 1) := by decide +kernel
theorem dX8_raise_24 : decode cX8_raise 24 = .ok (.putfield 32, 3) := by decide +kernel
theorem dX8_raise_27 : decode cX8_raise 27 = .ok (.aload_n 0, 1) := by decide +kernel
theorem dX8_raise_28 : decode cX8_raise 28 = .ok (.getfield 18, 3) := by decide +kernel
theorem dX8_raise_31 : decode cX8_raise 31 = .ok (.iload_n 2, 1) := by decide +kernel
theorem dX8_raise_32 : decode cX8_raise 32 = .ok (.aload_n 1, 1) := by decide +kernel
theorem dX8_raise_33 : decode cX8_raise 33 = .ok (.iload_n 2, 1) := by decide +kernel
theorem dX8_raise_34 : decode cX8_raise 34 = .ok (.invokevirtual 49, 3) := by decide +kernel
theorem dX8_raise_37 : decode cX8_raise 37 = .ok (.iastore, 1) := by decide +kernel
theorem dX8_raise_38 : decode cX8_raise 38 = .ok (.aload_n 0, 1) := by decide +kernel
theorem dX8_raise_39 : decode cX8_raise 39 = .ok (.getfield 22, 3) := by decide +kernel
theorem dX8_raise_42 : decode cX8_raise 42 = .ok (.iload_n 2, 1) := by decide +kernel
theorem dX8_raise_43 : decode cX8_raise 43 = .ok (.iconst 0, 1) := by decide +kernel
theorem dX8_raise_44 : decode cX8_raise 44 = .ok (.iastore, 1) := by decide +kernel
theorem dX8_raise_45 : decode cX8_raise 45 = .ok (.aload_n 3, 1) := by decide +kernel
theorem dX8_raise_46 : decode cX8_raise 46 = .ok (.iconst 3, 1) := by decide +kernel
theorem dX8_raise_47 : decode cX8_raise 47 = .ok (.iload_n 2, 1) := by decide +kernel
theorem dX8_raise_48 : decode cX8_raise 48 = .ok (.aload_n 1, 1) := by decide +kernel
theorem dX8_raise_49 : decode cX8_raise 49 = .ok (.getfield 78, 3) := by decide +kernel
theorem dX8_raise_52 : decode cX8_raise 52 = .ok (.iload_n 2, 1) := by decide +kernel
theorem dX8_raise_53 : decode cX8_raise 53 = .ok (.iaload, 1) := by decide +kernel
theorem dX8_raise_54 : decode cX8_raise 54 = .ok (.invokevirtual 55, 3) := by decide +kernel
theorem dX8_raise_57 : decode cX8_raise 57 = .ok (.return_, 1) := by decide +kernel
set_option maxRecDepth 20000 in
theorem ggX9_init_X10_init : GoodIn wsX9_init wsX10_init := goodIn_r _ [21, 22, 2, 3, 23, 24, 25, 26, 27, 50, 51, 52, 53, 54] (by decide +kernel) (by decide +kernel)
set_option maxRecDepth 20000 in
theorem gX9_init_X10_init_n11 : GoodIn wsX9_init (wsX10_init) := ggX9_init_X10_init
set_option maxRecDepth 20000 in
theorem ggX9_init_X8_init : GoodIn wsX9_init wsX8_init := goodIn_r _ [29, 30, 2, 3, 31, 32, 23, 33, 34, 35, 36, 62, 63, 64, 65, 66, 67, 68] (by decide +kernel) (by decide +kernel)
set_option maxRecDepth 20000 in
theorem gX9_init_X8_init_n20 : GoodIn wsX9_init (wsX8_init) := ggX9_init_X8_init
set_option maxRecDepth 20000 in
theorem ggX9_init_X4_init : GoodIn wsX9_init wsX4_init := goodIn_r _ [38, 39, 2, 3, 23, 40, 41, 42, 43, 69, 70, 71, 72, 73] (by decide +kernel) (by decide +kernel)
set_option maxRecDepth 20000 in
theorem gX9_init_X4_init_n27 : GoodIn wsX9_init (wsX4_init) := ggX9_init_X4_init
set_option maxRecDepth 20000 in
theorem ggX9_init_X0_init : GoodIn wsX9_init wsX0_init := goodIn_r _ [45, 46, 2, 3, 23, 47, 48, 49, 74, 75, 76, 77, 78, 79, 80, 81, 82, 83] (by decide +kernel) (by decide +kernel)
set_option maxRecDepth 20000 in
theorem gX9_init_X0_init_n38 : GoodIn wsX9_init (wsX0_init) := ggX9_init_X0_init
theorem dX9_init_0 : decode cX9_init 0 = .ok (.aload_n 0, 1) := by decide +kernel
theorem dX9_init_1 : decode cX9_init 1 = .ok (.invokespecial 3, 3) := by decide +kernel
theorem dX9_init_4 : decode cX9_init 4 = .ok (.aload_n 0, 1) := by decide +kernel
theorem dX9_init_5 : decode cX9_init 5 = .ok (.new 9, 3) := by decide +kernel
theorem dX9_init_8 : decode cX9_init 8 = .ok (.dup, 1) := by decide +kernel
theorem dX9_init_9 : decode cX9_init 9 = .ok (.invokespecial 11, 3) := by decide +kernel
theorem dX9_init_12 : decode cX9_init 12 = .ok (.putfield 12, 3) := by decide +kernel
theorem dX9_init_15 : decode cX9_init 15 = .ok (.aload_n 0, 1) := by decide +kernel
theorem dX9_init_16 : decode cX9_init 16 = .ok (.new 18, 3) := by decide +kernel
theorem dX9_init_19 : decode cX9_init 19 = .ok (.dup, 1) := by decide +kernel
theorem dX9_init_20 : decode cX9_init 20 = .ok (.invokespecial 20, 3) := by decide +kernel
theorem dX9_init_23 : decode cX9_init 23 = .ok (.putfield 21, 3) := by decide +kernel
theorem dX9_init_26 : decode cX9_init 26 = .ok (.aload_n 0, 1) := by decide +kernel
theorem dX9_init_27 : decode cX9_init 27 = .ok (.new 25, 3) := by decide +kernel
theorem dX9_init_30 : decode cX9_init 30 = .ok (.dup, 1) := by decide +kernel
theorem dX9_init_31 : decode cX9_init 31 = .ok (.invokespecial 27, 3) := by decide +kernel
theorem dX9_init_34 : decode cX9_init 34 = .ok (.putfield 28, 3) := by decide +kernel
theorem dX9_init_37 : decode cX9_init 37 = .ok (.aload_n 0, 1) := by decide +kernel
theorem dX9_init_38 : decode cX9_init 38 = .ok (.iconst 3, 1) := by decide +kernel
theorem dX9_init_39 : decode cX9_init 39 = .ok (.anewarray 32, 3) := by decide +kernel
theorem dX9_init_42 : decode cX9_init 42 = .ok (.putfield 34, 3) := by decide +kernel
theorem dX9_init_45 : decode cX9_init 45 = .ok (.iconst 0, 1) := by decide +kernel
theorem dX9_init_46 : decode cX9_init 46 = .ok (.istore_n 1, 1) := by decide +kernel
theorem dX9_init_47 : decode cX9_init 47 = .ok (.iload_n 1, 1) := by decide +kernel
theorem dX9_init_48 : decode cX9_init 48 = .ok (.iconst 3, 1) := by decide +kernel
theorem dX9_init_49 : decode cX9_init 49 = .ok (.if_icmp .ge 22, 3) := by decide +kernel
theorem dX9_init_52 : decode cX9_init 52 = .ok (.aload_n 0, 1) := by decide +kernel
theorem dX9_init_53 : decode cX9_init 53 = .ok (.getfield 34, 3) := by decide +kernel
theorem dX9_init_56 : decode cX9_init 56 = .ok (.iload_n 1, 1) := by decide +kernel
theorem dX9_init_57 : decode cX9_init 57 = .ok (.new 32, 3) := by decide +kernel
theorem dX9_init_60 : decode cX9_init 60 = .ok (.dup, 1) := by decide +kernel
theorem dX9_init_61 : decode cX9_init 61 = .ok (.invokespecial 38, 3) := by decide +kernel
theorem dX9_init_64 : decode cX9_init 64 = .ok (.aastore, 1) := by decide +kernel
theorem dX9_init_65 : decode cX9_init 65 = .ok (.iinc 1 1, 3) := by decide +kernel
theorem dX9_init_68 : decode cX9_init 68 = .ok (.goto (-21), 3) := by decide +kernel
theorem dX9_init_71 : decode cX9_init 71 = .ok (.return_, 1) := by decide +kernel
set_option maxRecDepth 20000 in
theorem ggX9_begin_X10_copyFrom : GoodIn wsX9_begin wsX10_copyFrom := goodIn_r _ [13, 14, 15, 16, 17, 18, 19, 20, 21, 22, 54, 55, 56, 57, 58] (by decide +kernel) (by decide +kernel)
set_option maxRecDepth 20000 in
theorem gX9_begin_X10_copyFrom : GoodIn wsX9_begin (wsV RX9 39 RX10 yX10_copyFrom wsX10_copyFrom) := goodIn_app (goodIn_of _ (by decide +kernel)) ggX9_begin_X10_copyFrom
set_option maxRecDepth 20000 in
theorem ggX9_begin_X8_begin : GoodIn wsX9_begin wsX8_begin := goodIn_r _ [27, 28, 29, 30, 31, 32, 33, 34, 59, 60, 61, 62, 63, 64, 65] (by decide +kernel) (by decide +kernel)
set_option maxRecDepth 20000 in
theorem gX9_begin_X8_begin : GoodIn wsX9_begin (wsV RX9 43 RX8 yX8_begin wsX8_begin) := goodIn_app (goodIn_of _ (by decide +kernel)) ggX9_begin_X8_begin
set_option maxRecDepth 20000 in
theorem ggX9_begin_X0_close : GoodIn wsX9_begin wsX0_close := goodIn_r _ [39, 40, 41, 66, 67, 68, 69, 70, 71, 72, 73, 74, 75] (by decide +kernel) (by decide +kernel)
set_option maxRecDepth 20000 in
theorem gX9_begin_X0_close : GoodIn wsX9_begin (wsV RX9 60 RX0 yX0_close wsX0_close) := goodIn_app (goodIn_of _ (by decide +kernel)) ggX9_begin_X0_close
theorem dX9_begin_0 : decode cX9_begin 0 = .ok (.aload_n 0, 1) := by decide +kernel
theorem dX9_begin_1 : decode cX9_begin 1 = .ok (.getfield 12, 3) := by decide +kernel
theorem dX9_begin_4 : decode cX9_begin 4 = .ok (.aload_n 1, 1) := by decide +kernel
theorem dX9_begin_5 : decode cX9_begin 5 = .ok (.invokevirtual 39, 3) := by decide +kernel
theorem dX9_begin_8 : decode cX9_begin 8 = .ok (.aload_n 0, 1) := by decide +kernel
theorem dX9_begin_9 : decode cX9_begin 9 = .ok (.getfield 21, 3) := by decide +kernel
theorem dX9_begin_12 : decode cX9_begin 12 = .ok (.iload_n 2, 1) := by decide +kernel
theorem dX9_begin_13 : decode cX9_begin 13 = .ok (.iload_n 3, 1) := by decide +kernel
theorem dX9_begin_14 : decode cX9_begin 14 = .ok (.invokevirtual 43, 3) := by decide +kernel
theorem dX9_begin_17 : decode cX9_begin 17 = .ok (.aload_n 0, 1) := by decide +kernel
theorem dX9_begin_18 : decode cX9_begin 18 = .ok (.getfield 28, 3) := by decide +kernel
theorem dX9_begin_21 : decode cX9_begin 21 = .ok (.iconst 0, 1) := by decide +kernel
theorem dX9_begin_22 : decode cX9_begin 22 = .ok (.putfield 47, 3) := by decide +kernel
theorem dX9_begin_25 : decode cX9_begin 25 = .ok (.aload_n 0, 1) := by decide +kernel
theorem dX9_begin_26 : decode cX9_begin 26 = .ok (.iconst 0, 1) := by decide +kernel
theorem dX9_begin_27 : decode cX9_begin 27 = .ok (.putfield 51, 3) := by decide +kernel
theorem dX9_begin_30 : decode cX9_begin 30 = .ok (.aload_n 0, 1) := by decide +kernel
theorem dX9_begin_31 : decode cX9_begin 31 = .ok (.iconst 0, 1) := by decide +kernel
theorem dX9_begin_32 : decode cX9_begin 32 = .ok (.putfield 54, 3) := by decide +kernel
theorem dX9_begin_35 : decode cX9_begin 35 = .ok (.aload_n 0, 1) := by decide +kernel
theorem dX9_begin_36 : decode cX9_begin 36 = .ok (.iconst 0, 1) := by decide +kernel
theorem dX9_begin_37 : decode cX9_begin 37 = .ok (.putfield 57, 3) := by decide +kernel
theorem dX9_begin_40 : decode cX9_begin 40 = .ok (.iconst 0, 1) := by decide +kernel
theorem dX9_begin_41 : decode cX9_begin 41 = .ok (.istore 4, 2) := by decide +kernel
theorem dX9_begin_43 : decode cX9_begin 43 = .ok (.iload 4, 2) := by decide +kernel
theorem dX9_begin_45 : decode cX9_begin 45 = .ok (.iconst 3, 1) := by decide +kernel
theorem dX9_begin_46 : decode cX9_begin 46 = .ok (.if_icmp .ge 19, 3) := by decide +kernel
theorem dX9_begin_49 : decode cX9_begin 49 = .ok (.aload_n 0, 1) := by decide +kernel
theorem dX9_begin_50 : decode cX9_begin 50 = .ok (.getfield 34, 3) := by decide +kernel
theorem dX9_begin_53 : decode cX9_begin 53 = .ok (.iload 4, 2) := by decide +kernel
theorem dX9_begin_55 : decode cX9_begin 55 = .ok (.aaload, 1) := by decide +kernel
theorem dX9_begin_56 : decode cX9_begin 56 = .ok (.invokevirtual 60, 3) := by decide +kernel
theorem dX9_begin_59 : decode cX9_begin 59 = .ok (.iinc 4 1, 3) := by decide +kernel
theorem dX9_begin_62 : decode cX9_begin 62 = .ok (.goto (-19), 3) := by decide +kernel
theorem dX9_begin_65 : decode cX9_begin 65 = .ok (.return_, 1) := by decide +kernel
set_option maxRecDepth 20000 in
theorem ggX9_copyFrom_X10_copyFrom : GoodIn wsX9_copyFrom wsX10_copyFrom := goodIn_r _ [12, 13, 14, 15, 16, 17, 18, 19, 20, 21, 69, 70, 71, 72, 73] (by decide +kernel) (by decide +kernel)
set_option maxRecDepth 20000 in
theorem gX9_copyFrom_X10_copyFrom : GoodIn wsX9_copyFrom (wsV RX9 39 RX10 yX10_copyFrom wsX10_copyFrom) := goodIn_app (goodIn_of _ (by decide +kernel)) ggX9_copyFrom_X10_copyFrom
set_option maxRecDepth 20000 in
theorem ggX9_copyFrom_X8_copyFrom : GoodIn wsX9_copyFrom wsX8_copyFrom := goodIn_r _ [26, 27, 28, 29, 30, 31, 32, 16, 17, 18, 33, 34, 74, 75, 76, 77, 78, 79, 80] (by decide +kernel) (by decide +kernel)
set_option maxRecDepth 20000 in
theorem gX9_copyFrom_X8_copyFrom : GoodIn wsX9_copyFrom (wsV RX9 63 RX8 yX8_copyFrom wsX8_copyFrom) := goodIn_app (goodIn_of _ (by decide +kernel)) ggX9_copyFrom_X8_copyFrom
set_option maxRecDepth 20000 in
theorem ggX9_copyFrom_X4_copyFrom : GoodIn wsX9_copyFrom wsX4_copyFrom := goodIn_r _ [39, 40, 41, 42, 16, 17, 18, 43, 44, 45, 81, 82, 83, 84, 85] (by decide +kernel) (by decide +kernel)
set_option maxRecDepth 20000 in
theorem gX9_copyFrom_X4_copyFrom : GoodIn wsX9_copyFrom (wsV RX9 66 RX4 yX4_copyFrom wsX4_copyFrom) := goodIn_app (goodIn_of _ (by decide +kernel)) ggX9_copyFrom_X4_copyFrom
set_option maxRecDepth 20000 in
theorem ggX9_copyFrom_X0_copyFrom : GoodIn wsX9_copyFrom wsX0_copyFrom := goodIn_r _ [50, 51, 52, 53, 54, 55, 56, 57, 58, 59, 16, 17, 18, 60, 61, 86, 87, 88, 89, 90, 91, 92, 93, 94, 95] (by decide +kernel) (by decide +kernel)
set_option maxRecDepth 20000 in
theorem gX9_copyFrom_X0_copyFrom : GoodIn wsX9_copyFrom (wsV RX9 69 RX0 yX0_copyFrom wsX0_copyFrom) := goodIn_app (goodIn_of _ (by decide +kernel)) ggX9_copyFrom_X0_copyFrom
theorem dX9_copyFrom_0 : decode cX9_copyFrom 0 = .ok (.aload_n 0, 1) := by decide +kernel
theorem dX9_copyFrom_1 : decode cX9_copyFrom 1 = .ok (.getfield 12, 3) := by decide +kernel
theorem dX9_copyFrom_4 : decode cX9_copyFrom 4 = .ok (.aload_n 1, 1) := by decide +kernel
theorem dX9_copyFrom_5 : decode cX9_copyFrom 5 = .ok (.getfield 12, 3) := by decide +kernel
theorem dX9_copyFrom_8 : decode cX9_copyFrom 8 = .ok (.invokevirtual 39, 3) := by decide +kernel
theorem dX9_copyFrom_11 : decode cX9_copyFrom 11 = .ok (.aload_n 0, 1) := by decide +kernel
theorem dX9_copyFrom_12 : decode cX9_copyFrom 12 = .ok (.getfield 21, 3) := by decide +kernel
theorem dX9_copyFrom_15 : decode cX9_copyFrom 15 = .ok (.aload_n 1, 1) := by decide +kernel
theorem dX9_copyFrom_16 : decode cX9_copyFrom 16 = .ok (.getfield 21, 3) := by decide +kernel
theorem dX9_copyFrom_19 : decode cX9_copyFrom 19 = .ok (.invokevirtual 63, 3) := by decide +kernel
theorem dX9_copyFrom_22 : decode cX9_copyFrom 22 = .ok (.aload_n 0, 1) := by decide +kernel
theorem dX9_copyFrom_23 : decode cX9_copyFrom 23 = .ok (.getfield 28, 3) := by decide +kernel
theorem dX9_copyFrom_26 : decode cX9_copyFrom 26 = .ok (.aload_n 1, 1) := by decide +kernel
theorem dX9_copyFrom_27 : decode cX9_copyFrom 27 = .ok (.getfield 28, 3) := by decide +kernel
theorem dX9_copyFrom_30 : decode cX9_copyFrom 30 = .ok (.invokevirtual 66, 3) := by decide +kernel
theorem dX9_copyFrom_33 : decode cX9_copyFrom 33 = .ok (.aload_n 0, 1) := by decide +kernel
theorem dX9_copyFrom_34 : decode cX9_copyFrom 34 = .ok (.aload_n 1, 1) := by decide +kernel
theorem dX9_copyFrom_35 : decode cX9_copyFrom 35 = .ok (.getfield 51, 3) := by decide +kernel
theorem dX9_copyFrom_38 : decode cX9_copyFrom 38 = .ok (.putfield 51, 3) := by decide +kernel
theorem dX9_copyFrom_41 : decode cX9_copyFrom 41 = .ok (.aload_n 0, 1) := by decide +kernel
theorem dX9_copyFrom_42 : decode cX9_copyFrom 42 = .ok (.aload_n 1, 1) := by decide +kernel
theorem dX9_copyFrom_43 : decode cX9_copyFrom 43 = .ok (.getfield 54, 3) := by decide +kernel
theorem dX9_copyFrom_46 : decode cX9_copyFrom 46 = .ok (.putfield 54, 3) := by decide +kernel
theorem dX9_copyFrom_49 : decode cX9_copyFrom 49 = .ok (.aload_n 0, 1) := by decide +kernel
theorem dX9_copyFrom_50 : decode cX9_copyFrom 50 = .ok (.aload_n 1, 1) := by decide +kernel
theorem dX9_copyFrom_51 : decode cX9_copyFrom 51 = .ok (.getfield 57, 3) := by decide +kernel
theorem dX9_copyFrom_54 : decode cX9_copyFrom 54 = .ok (.putfield 57, 3) := by decide +kernel
theorem dX9_copyFrom_57 : decode cX9_copyFrom 57 = .ok (.iconst 0, 1) := by decide +kernel
theorem dX9_copyFrom_58 : decode cX9_copyFrom 58 = .ok (.istore_n 2, 1) := by decide +kernel
theorem dX9_copyFrom_59 : decode cX9_copyFrom 59 = .ok (.iload_n 2, 1) := by decide +kernel
theorem dX9_copyFrom_60 : decode cX9_copyFrom 60 = .ok (.iconst 3, 1) := by decide +kernel
theorem dX9_copyFrom_61 : decode cX9_copyFrom 61 = .ok (.if_icmp .ge 24, 3) := by decide +kernel
theorem dX9_copyFrom_64 : decode cX9_copyFrom 64 = .ok (.aload_n 0, 1) := by decide +kernel
theorem dX9_copyFrom_65 : decode cX9_copyFrom 65 = .ok (.getfield 34, 3) := by decide +kernel
theorem dX9_copyFrom_68 : decode cX9_copyFrom 68 = .ok (.iload_n 2, 1) := by decide +kernel
theorem dX9_copyFrom_69 : decode cX9_copyFrom 69 = .ok (.aaload, 1) := by decide +kernel
theorem dX9_copyFrom_70 : decode cX9_copyFrom 70 = .ok (.aload_n 1, 1) := by decide +kernel
theorem dX9_copyFrom_71 : decode cX9_copyFrom 71 = .ok (.getfield 34, 3) := by decide +kernel
theorem dX9_copyFrom_74 : decode cX9_copyFrom 74 = .ok (.iload_n 2, 1) := by decide +kernel
theorem dX9_copyFrom_75 : decode cX9_copyFrom 75 = .ok (.aaload, 1) := by decide +kernel
theorem dX9_copyFrom_76 : decode cX9_copyFrom 76 = .ok (.invokevirtual 69, 3) := by decide +kernel
theorem dX9_copyFrom_79 : decode cX9_copyFrom 79 = .ok (.iinc 2 1, 3) := by decide +kernel
theorem dX9_copyFrom_82 : decode cX9_copyFrom 82 = .ok (.goto (-23), 3) := by decide +kernel
theorem dX9_copyFrom_85 : decode cX9_copyFrom 85 = .ok (.return_, 1) := by decide +kernel
set_option maxRecDepth 20000 in
theorem ggX9_ask_X8_serve : GoodIn wsX9_ask wsX8_serve := goodIn_r _ [10, 11, 12, 13, 14, 15, 16, 17, 18, 19, 9, 20, 21, 22, 23, 24, 25, 26, 27, 28, 29, 30, 31, 32, 33, 34, 35, 36, 37, 38, 39, 40, 41, 42, 43, 44, 45, 46, 47, 48, 49, 50, 51, 52, 53, 54, 55, 56, 57, 58, 59, 60, 61, 62, 63, 64, 65, 66, 67, 68, 69, 70, 71, 72, 73, 74, 144, 145, 146, 147, 148, 149, 150, 151, 152, 153, 154, 155, 133, 134, 135, 136] (by decide +kernel) (by decide +kernel)
set_option maxRecDepth 20000 in
theorem gX9_ask_X8_serve : GoodIn wsX9_ask (wsV RX9 75 RX8 yX8_serve wsX8_serve) := goodIn_app (goodIn_of _ (by decide +kernel)) ggX9_ask_X8_serve
set_option maxRecDepth 20000 in
theorem ggX9_ask_X4_add : GoodIn wsX9_ask wsX4_add := goodIn_r _ [79, 80, 81, 82, 83, 84, 85, 86, 87, 88, 89, 90, 91, 92, 93, 78, 94, 156, 157, 158, 159, 160, 144, 145, 146, 147, 148, 149, 150] (by decide +kernel) (by decide +kernel)
set_option maxRecDepth 20000 in
theorem gX9_ask_X4_add : GoodIn wsX9_ask (wsV RX9 79 RX4 yX4_add wsX4_add) := goodIn_app (goodIn_of _ (by decide +kernel)) ggX9_ask_X4_add
set_option maxRecDepth 20000 in
theorem ggX9_ask_X9_post : GoodIn wsX9_ask wsX9_post := goodIn_r _ [99, 1, 100, 101, 102, 103, 104, 105, 106, 107, 108, 109, 110, 111, 112, 113, 114, 115, 116, 117, 118, 119, 120, 121, 122, 123, 124, 125, 126, 127, 128, 129, 130, 131, 132, 133, 134, 135, 136, 137, 138, 139, 140, 141, 142, 143, 161, 162, 163, 164, 165, 166, 167, 168, 169, 170, 171, 172, 173] (by decide +kernel) (by decide +kernel)
set_option maxRecDepth 20000 in
theorem gX9_ask_X9_post : GoodIn wsX9_ask (wsV RX9 83 RX9 yX9_post wsX9_post) := goodIn_app (goodIn_of _ (by decide +kernel)) ggX9_ask_X9_post
theorem dX9_ask_0 : decode cX9_ask 0 = .ok (.aload_n 2, 1) := by decide +kernel
theorem dX9_ask_1 : decode cX9_ask 1 = .ok (.iconst 0, 1) := by decide +kernel
theorem dX9_ask_2 : decode cX9_ask 2 = .ok (.putfield 72, 3) := by decide +kernel
theorem dX9_ask_5 : decode cX9_ask 5 = .ok (.aload_n 0, 1) := by decide +kernel
theorem dX9_ask_6 : decode cX9_ask 6 = .ok (.getfield 21, 3) := by decide +kernel
theorem dX9_ask_9 : decode cX9_ask 9 = .ok (.aload_n 0, 1) := by decide +kernel
theorem dX9_ask_10 : decode cX9_ask 10 = .ok (.getfield 12, 3) := by decide +kernel
theorem dX9_ask_13 : decode cX9_ask 13 = .ok (.iload_n 1, 1) := by decide +kernel
theorem dX9_ask_14 : decode cX9_ask 14 = .ok (.aload_n 2, 1) := by decide +kernel
theorem dX9_ask_15 : decode cX9_ask 15 = .ok (.invokevirtual 75, 3) := by decide +kernel
theorem dX9_ask_18 : decode cX9_ask 18 = .ok (.istore 4, 2) := by decide +kernel
theorem dX9_ask_20 : decode cX9_ask 20 = .ok (.aload_n 0, 1) := by decide +kernel
theorem dX9_ask_21 : decode cX9_ask 21 = .ok (.dup, 1) := by decide +kernel
theorem dX9_ask_22 : decode cX9_ask 22 = .ok (.getfield 51, 3) := by decide +kernel
theorem dX9_ask_25 : decode cX9_ask 25 = .ok (.iload 4, 2) := by decide +kernel
theorem dX9_ask_27 : decode cX9_ask 27 = .ok (.iadd, 1) := by decide +kernel
theorem dX9_ask_28 : decode cX9_ask 28 = .ok (.putfield 51, 3) := by decide +kernel
theorem dX9_ask_31 : decode cX9_ask 31 = .ok (.aload_n 0, 1) := by decide +kernel
theorem dX9_ask_32 : decode cX9_ask 32 = .ok (.getfield 28, 3) := by decide +kernel
theorem dX9_ask_35 : decode cX9_ask 35 = .ok (.iload_n 1, 1) := by decide +kernel
theorem dX9_ask_36 : decode cX9_ask 36 = .ok (.iload 4, 2) := by decide +kernel
theorem dX9_ask_38 : decode cX9_ask 38 = .ok (.aload_n 0, 1) := by decide +kernel
theorem dX9_ask_39 : decode cX9_ask 39 = .ok (.getfield 21, 3) := by decide +kernel
theorem dX9_ask_42 : decode cX9_ask 42 = .ok (.invokevirtual 79, 3) := by decide +kernel
theorem dX9_ask_45 : decode cX9_ask 45 = .ok (.aload_n 0, 1) := by decide +kernel
theorem dX9_ask_46 : decode cX9_ask 46 = .ok (.aload_n 2, 1) := by decide +kernel
theorem dX9_ask_47 : decode cX9_ask 47 = .ok (.aload_n 3, 1) := by decide +kernel
theorem dX9_ask_48 : decode cX9_ask 48 = .ok (.invokevirtual 83, 3) := by decide +kernel
theorem dX9_ask_51 : decode cX9_ask 51 = .ok (.iload 4, 2) := by decide +kernel
theorem dX9_ask_53 : decode cX9_ask 53 = .ok (.ireturn, 1) := by decide +kernel
set_option maxRecDepth 20000 in
theorem ggX9_move_X8_holds : GoodIn wsX9_move wsX8_holds := goodIn_r _ [10, 11, 95, 96, 97, 98, 99, 100, 101] (by decide +kernel) (by decide +kernel)
set_option maxRecDepth 20000 in
theorem gX9_move_X8_holds : GoodIn wsX9_move (wsV RX9 87 RX8 yX8_holds wsX8_holds) := goodIn_app (goodIn_of _ (by decide +kernel)) ggX9_move_X8_holds
set_option maxRecDepth 20000 in
theorem ggX9_move_X8_lower : GoodIn wsX9_move wsX8_lower := goodIn_r _ [15, 11, 16, 17, 18, 19, 20, 21, 22, 23, 24, 25, 26, 27, 95, 96, 97, 98, 99, 100, 101, 90, 91, 92, 93, 94, 79, 80, 81, 82] (by decide +kernel) (by decide +kernel)
set_option maxRecDepth 20000 in
theorem gX9_move_X8_lower : GoodIn wsX9_move (wsV RX9 91 RX8 yX8_lower wsX8_lower) := goodIn_app (goodIn_of _ (by decide +kernel)) ggX9_move_X8_lower
set_option maxRecDepth 20000 in
theorem ggX9_move_X8_raise : GoodIn wsX9_move wsX8_raise := goodIn_r _ [31, 11, 16, 17, 18, 32, 33, 34, 35, 36, 37, 38, 39, 40, 19, 20, 21, 22, 23, 24, 25, 26, 27, 95, 96, 97, 98, 99, 100, 101, 90, 91, 92, 93, 94, 79, 80, 81, 82] (by decide +kernel) (by decide +kernel)
set_option maxRecDepth 20000 in
theorem gX9_move_X8_raise : GoodIn wsX9_move (wsV RX9 95 RX8 yX8_raise wsX8_raise) := goodIn_app (goodIn_of _ (by decide +kernel)) ggX9_move_X8_raise
set_option maxRecDepth 20000 in
theorem ggX9_move_X9_post : GoodIn wsX9_move wsX9_post := goodIn_r _ [45, 1, 46, 47, 48, 49, 50, 51, 52, 53, 54, 55, 56, 57, 58, 59, 60, 61, 62, 63, 64, 65, 66, 67, 68, 69, 70, 71, 72, 73, 74, 75, 76, 77, 78, 79, 80, 81, 82, 83, 84, 85, 86, 87, 88, 89, 102, 103, 104, 105, 106, 107, 108, 109, 110, 111, 112, 113, 114] (by decide +kernel) (by decide +kernel)
set_option maxRecDepth 20000 in
theorem gX9_move_X9_post : GoodIn wsX9_move (wsV RX9 83 RX9 yX9_post wsX9_post) := goodIn_app (goodIn_of _ (by decide +kernel)) ggX9_move_X9_post
theorem dX9_move_0 : decode cX9_move 0 = .ok (.aload_n 2, 1) := by decide +kernel
theorem dX9_move_1 : decode cX9_move 1 = .ok (.iconst 0, 1) := by decide +kernel
theorem dX9_move_2 : decode cX9_move 2 = .ok (.putfield 72, 3) := by decide +kernel
theorem dX9_move_5 : decode cX9_move 5 = .ok (.aload_n 0, 1) := by decide +kernel
theorem dX9_move_6 : decode cX9_move 6 = .ok (.getfield 21, 3) := by decide +kernel
theorem dX9_move_9 : decode cX9_move 9 = .ok (.iload_n 1, 1) := by decide +kernel
theorem dX9_move_10 : decode cX9_move 10 = .ok (.invokevirtual 87, 3) := by decide +kernel
theorem dX9_move_13 : decode cX9_move 13 = .ok (.ifCond .eq 19, 3) := by decide +kernel
theorem dX9_move_16 : decode cX9_move 16 = .ok (.aload_n 0, 1) := by decide +kernel
theorem dX9_move_17 : decode cX9_move 17 = .ok (.getfield 21, 3) := by decide +kernel
theorem dX9_move_20 : decode cX9_move 20 = .ok (.aload_n 0, 1) := by decide +kernel
theorem dX9_move_21 : decode cX9_move 21 = .ok (.getfield 12, 3) := by decide +kernel
theorem dX9_move_24 : decode cX9_move 24 = .ok (.iload_n 1, 1) := by decide +kernel
theorem dX9_move_25 : decode cX9_move 25 = .ok (.aload_n 2, 1) := by decide +kernel
theorem dX9_move_26 : decode cX9_move 26 = .ok (.invokevirtual 91, 3) := by decide +kernel
theorem dX9_move_29 : decode cX9_move 29 = .ok (.goto 34, 3) := by decide +kernel
theorem dX9_move_32 : decode cX9_move 32 = .ok (.aload_n 0, 1) := by decide +kernel
theorem dX9_move_33 : decode cX9_move 33 = .ok (.getfield 21, 3) := by decide +kernel
theorem dX9_move_36 : decode cX9_move 36 = .ok (.aload_n 0, 1) := by decide +kernel
theorem dX9_move_37 : decode cX9_move 37 = .ok (.getfield 12, 3) := by decide +kernel
theorem dX9_move_40 : decode cX9_move 40 = .ok (.iload_n 1, 1) := by decide +kernel
theorem dX9_move_41 : decode cX9_move 41 = .ok (.aload_n 2, 1) := by decide +kernel
theorem dX9_move_42 : decode cX9_move 42 = .ok (.invokevirtual 95, 3) := by decide +kernel
theorem dX9_move_45 : decode cX9_move 45 = .ok (.aload_n 0, 1) := by decide +kernel
theorem dX9_move_46 : decode cX9_move 46 = .ok (.dup, 1) := by decide +kernel
theorem dX9_move_47 : decode cX9_move 47 = .ok (.getfield 51, 3) := by decide +kernel
theorem dX9_move_50 : decode cX9_move 50 = .ok (.aload_n 0, 1) := by decide +kernel
theorem dX9_move_51 : decode cX9_move 51 = .ok (.getfield 12, 3) := by decide +kernel
theorem dX9_move_54 : decode cX9_move 54 = .ok (.getfield 98, 3) := by decide +kernel
theorem dX9_move_57 : decode cX9_move 57 = .ok (.iload_n 1, 1) := by decide +kernel
theorem dX9_move_58 : decode cX9_move 58 = .ok (.iaload, 1) := by decide +kernel
theorem dX9_move_59 : decode cX9_move 59 = .ok (.iadd, 1) := by decide +kernel
theorem dX9_move_60 : decode cX9_move 60 = .ok (.putfield 51, 3) := by decide +kernel
theorem dX9_move_63 : decode cX9_move 63 = .ok (.aload_n 0, 1) := by decide +kernel
theorem dX9_move_64 : decode cX9_move 64 = .ok (.aload_n 2, 1) := by decide +kernel
theorem dX9_move_65 : decode cX9_move 65 = .ok (.aload_n 3, 1) := by decide +kernel
theorem dX9_move_66 : decode cX9_move 66 = .ok (.invokevirtual 83, 3) := by decide +kernel
theorem dX9_move_69 : decode cX9_move 69 = .ok (.return_, 1) := by decide +kernel
set_option maxRecDepth 20000 in
theorem ggX9_post_X2_pass : GoodIn wsX9_post wsX2_pass := goodIn_r _ [12, 13, 14, 15, 46, 47, 48] (by decide +kernel) (by decide +kernel)
set_option maxRecDepth 20000 in
theorem gX9_post_X2_pass : GoodIn wsX9_post (wsV RX9 105 RX2 yX2_pass wsX2_pass) := goodIn_app (goodIn_of _ (by decide +kernel)) ggX9_post_X2_pass
set_option maxRecDepth 20000 in
theorem ggX9_post_X0_write : GoodIn wsX9_post wsX0_write := goodIn_r _ [20, 21, 22, 23, 24, 25, 26, 27, 28, 29, 30, 31, 32, 19, 33, 34, 49, 50, 51, 52, 53, 54, 55, 56, 57, 58] (by decide +kernel) (by decide +kernel)
set_option maxRecDepth 20000 in
theorem gX9_post_X0_write : GoodIn wsX9_post (wsV RX9 116 RX0 yX0_write wsX0_write) := goodIn_app (goodIn_of _ (by decide +kernel)) ggX9_post_X0_write
theorem dX9_post_0 : decode cX9_post 0 = .ok (.iconst 0, 1) := by decide +kernel
theorem dX9_post_1 : decode cX9_post 1 = .ok (.istore_n 3, 1) := by decide +kernel
theorem dX9_post_2 : decode cX9_post 2 = .ok (.iload_n 3, 1) := by decide +kernel
theorem dX9_post_3 : decode cX9_post 3 = .ok (.aload_n 1, 1) := by decide +kernel
theorem dX9_post_4 : decode cX9_post 4 = .ok (.getfield 72, 3) := by decide +kernel
theorem dX9_post_7 : decode cX9_post 7 = .ok (.if_icmp .ge 112, 3) := by decide +kernel
theorem dX9_post_10 : decode cX9_post 10 = .ok (.aload_n 1, 1) := by decide +kernel
theorem dX9_post_11 : decode cX9_post 11 = .ok (.getfield 102, 3) := by decide +kernel
theorem dX9_post_14 : decode cX9_post 14 = .ok (.iload_n 3, 1) := by decide +kernel
theorem dX9_post_15 : decode cX9_post 15 = .ok (.iaload, 1) := by decide +kernel
theorem dX9_post_16 : decode cX9_post 16 = .ok (.istore 4, 2) := by decide +kernel
theorem dX9_post_18 : decode cX9_post 18 = .ok (.aload_n 0, 1) := by decide +kernel
theorem dX9_post_19 : decode cX9_post 19 = .ok (.dup, 1) := by decide +kernel
theorem dX9_post_20 : decode cX9_post 20 = .ok (.getfield 54, 3) := by decide +kernel
theorem dX9_post_23 : decode cX9_post 23 = .ok (.iload 4, 2) := by decide +kernel
theorem dX9_post_25 : decode cX9_post 25 = .ok (.iconst 2, 1) := by decide +kernel
theorem dX9_post_26 : decode cX9_post 26 = .ok (.if_icmp .ne 7, 3) := by decide +kernel
theorem dX9_post_29 : decode cX9_post 29 = .ok (.iconst 1, 1) := by decide +kernel
theorem dX9_post_30 : decode cX9_post 30 = .ok (.goto 4, 3) := by decide +kernel
theorem dX9_post_33 : decode cX9_post 33 = .ok (.iconst 0, 1) := by decide +kernel
theorem dX9_post_34 : decode cX9_post 34 = .ok (.iadd, 1) := by decide +kernel
theorem dX9_post_35 : decode cX9_post 35 = .ok (.putfield 54, 3) := by decide +kernel
theorem dX9_post_38 : decode cX9_post 38 = .ok (.aload_n 0, 1) := by decide +kernel
theorem dX9_post_39 : decode cX9_post 39 = .ok (.dup, 1) := by decide +kernel
theorem dX9_post_40 : decode cX9_post 40 = .ok (.getfield 57, 3) := by decide +kernel
theorem dX9_post_43 : decode cX9_post 43 = .ok (.iload 4, 2) := by decide +kernel
theorem dX9_post_45 : decode cX9_post 45 = .ok (.iconst 3, 1) := by decide +kernel
theorem dX9_post_46 : decode cX9_post 46 = .ok (.if_icmp .ne 7, 3) := by decide +kernel
theorem dX9_post_49 : decode cX9_post 49 = .ok (.iconst 1, 1) := by decide +kernel
theorem dX9_post_50 : decode cX9_post 50 = .ok (.goto 4, 3) := by decide +kernel
theorem dX9_post_53 : decode cX9_post 53 = .ok (.iconst 0, 1) := by decide +kernel
theorem dX9_post_54 : decode cX9_post 54 = .ok (.iadd, 1) := by decide +kernel
theorem dX9_post_55 : decode cX9_post 55 = .ok (.putfield 57, 3) := by decide +kernel
theorem dX9_post_58 : decode cX9_post 58 = .ok (.iload 4, 2) := by decide +kernel
theorem dX9_post_60 : decode cX9_post 60 = .ok (.iconst 2, 1) := by decide +kernel
theorem dX9_post_61 : decode cX9_post 61 = .ok (.if_icmp .eq 9, 3) := by decide +kernel
theorem dX9_post_64 : decode cX9_post 64 = .ok (.iload 4, 2) := by decide +kernel
theorem dX9_post_66 : decode cX9_post 66 = .ok (.iconst 3, 1) := by decide +kernel
theorem dX9_post_67 : decode cX9_post 67 = .ok (.if_icmp .ne 7, 3) := by decide +kernel
theorem dX9_post_70 : decode cX9_post 70 = .ok (.aload_n 2, 1) := by decide +kernel
theorem dX9_post_71 : decode cX9_post 71 = .ok (.invokevirtual 105, 3) := by decide +kernel
theorem dX9_post_74 : decode cX9_post 74 = .ok (.iconst 0, 1) := by decide +kernel
theorem dX9_post_75 : decode cX9_post 75 = .ok (.istore 5, 2) := by decide +kernel
theorem dX9_post_77 : decode cX9_post 77 = .ok (.iload 5, 2) := by decide +kernel
theorem dX9_post_79 : decode cX9_post 79 = .ok (.iconst 3, 1) := by decide +kernel
theorem dX9_post_80 : decode cX9_post 80 = .ok (.if_icmp .ge 33, 3) := by decide +kernel
theorem dX9_post_83 : decode cX9_post 83 = .ok (.aload_n 0, 1) := by decide +kernel
theorem dX9_post_84 : decode cX9_post 84 = .ok (.getfield 34, 3) := by decide +kernel
theorem dX9_post_87 : decode cX9_post 87 = .ok (.iload 5, 2) := by decide +kernel
theorem dX9_post_89 : decode cX9_post 89 = .ok (.aaload, 1) := by decide +kernel
theorem dX9_post_90 : decode cX9_post 90 = .ok (.iload 4, 2) := by decide +kernel
theorem dX9_post_92 : decode cX9_post 92 = .ok (.aload_n 1, 1) := by decide +kernel
theorem dX9_post_93 : decode cX9_post 93 = .ok (.getfield 110, 3) := by decide +kernel
theorem dX9_post_96 : decode cX9_post 96 = .ok (.iload_n 3, 1) := by decide +kernel
theorem dX9_post_97 : decode cX9_post 97 = .ok (.iaload, 1) := by decide +kernel
theorem dX9_post_98 : decode cX9_post 98 = .ok (.aload_n 1, 1) := by decide +kernel
theorem dX9_post_99 : decode cX9_post 99 = .ok (.getfield 113, 3) := by decide +kernel
theorem dX9_post_102 : decode cX9_post 102 = .ok (.iload_n 3, 1) := by decide +kernel
theorem dX9_post_103 : decode cX9_post 103 = .ok (.iaload, 1) := by decide +kernel
theorem dX9_post_104 : decode cX9_post 104 = .ok (.invokevirtual 116, 3) := by decide +kernel
theorem dX9_post_107 : decode cX9_post 107 = .ok (.iinc 5 1, 3) := by decide +kernel
theorem dX9_post_110 : decode cX9_post 110 = .ok (.goto (-33), 3) := by decide +kernel
theorem dX9_post_113 : decode cX9_post 113 = .ok (.iinc 3 1, 3) := by decide +kernel
theorem dX9_post_116 : decode cX9_post 116 = .ok (.goto (-114), 3) := by decide +kernel
theorem dX9_post_119 : decode cX9_post 119 = .ok (.return_, 1) := by decide +kernel
theorem dX10_init_0 : decode cX10_init 0 = .ok (.aload_n 0, 1) := by decide +kernel
theorem dX10_init_1 : decode cX10_init 1 = .ok (.invokespecial 3, 3) := by decide +kernel
theorem dX10_init_4 : decode cX10_init 4 = .ok (.aload_n 0, 1) := by decide +kernel
theorem dX10_init_5 : decode cX10_init 5 = .ok (.bipush 8, 2) := by decide +kernel
theorem dX10_init_7 : decode cX10_init 7 = .ok (.newarray .int, 2) := by decide +kernel
theorem dX10_init_9 : decode cX10_init 9 = .ok (.putfield 9, 3) := by decide +kernel
theorem dX10_init_12 : decode cX10_init 12 = .ok (.aload_n 0, 1) := by decide +kernel
theorem dX10_init_13 : decode cX10_init 13 = .ok (.bipush 8, 2) := by decide +kernel
theorem dX10_init_15 : decode cX10_init 15 = .ok (.newarray .int, 2) := by decide +kernel
theorem dX10_init_17 : decode cX10_init 17 = .ok (.putfield 15, 3) := by decide +kernel
theorem dX10_init_20 : decode cX10_init 20 = .ok (.aload_n 0, 1) := by decide +kernel
theorem dX10_init_21 : decode cX10_init 21 = .ok (.bipush 8, 2) := by decide +kernel
theorem dX10_init_23 : decode cX10_init 23 = .ok (.newarray .int, 2) := by decide +kernel
theorem dX10_init_25 : decode cX10_init 25 = .ok (.putfield 18, 3) := by decide +kernel
theorem dX10_init_28 : decode cX10_init 28 = .ok (.aload_n 0, 1) := by decide +kernel
theorem dX10_init_29 : decode cX10_init 29 = .ok (.bipush 8, 2) := by decide +kernel
theorem dX10_init_31 : decode cX10_init 31 = .ok (.newarray .int, 2) := by decide +kernel
theorem dX10_init_33 : decode cX10_init 33 = .ok (.putfield 21, 3) := by decide +kernel
theorem dX10_init_36 : decode cX10_init 36 = .ok (.return_, 1) := by decide +kernel
theorem dX10_has_0 : decode cX10_has 0 = .ok (.iload_n 1, 1) := by decide +kernel
theorem dX10_has_1 : decode cX10_has 1 = .ok (.ifCond .lt 15, 3) := by decide +kernel
theorem dX10_has_4 : decode cX10_has 4 = .ok (.iload_n 1, 1) := by decide +kernel
theorem dX10_has_5 : decode cX10_has 5 = .ok (.aload_n 0, 1) := by decide +kernel
theorem dX10_has_6 : decode cX10_has 6 = .ok (.getfield 24, 3) := by decide +kernel
theorem dX10_has_9 : decode cX10_has 9 = .ok (.if_icmp .ge 7, 3) := by decide +kernel
theorem dX10_has_12 : decode cX10_has 12 = .ok (.iconst 1, 1) := by decide +kernel
theorem dX10_has_13 : decode cX10_has 13 = .ok (.goto 4, 3) := by decide +kernel
theorem dX10_has_16 : decode cX10_has 16 = .ok (.iconst 0, 1) := by decide +kernel
theorem dX10_has_17 : decode cX10_has 17 = .ok (.ireturn, 1) := by decide +kernel
theorem dX10_numberOf_0 : decode cX10_numberOf 0 = .ok (.iconst 0, 1) := by decide +kernel
theorem dX10_numberOf_1 : decode cX10_numberOf 1 = .ok (.istore_n 2, 1) := by decide +kernel
theorem dX10_numberOf_2 : decode cX10_numberOf 2 = .ok (.iload_n 2, 1) := by decide +kernel
theorem dX10_numberOf_3 : decode cX10_numberOf 3 = .ok (.aload_n 0, 1) := by decide +kernel
theorem dX10_numberOf_4 : decode cX10_numberOf 4 = .ok (.getfield 24, 3) := by decide +kernel
theorem dX10_numberOf_7 : decode cX10_numberOf 7 = .ok (.if_icmp .ge 21, 3) := by decide +kernel
theorem dX10_numberOf_10 : decode cX10_numberOf 10 = .ok (.aload_n 0, 1) := by decide +kernel
theorem dX10_numberOf_11 : decode cX10_numberOf 11 = .ok (.getfield 21, 3) := by decide +kernel
theorem dX10_numberOf_14 : decode cX10_numberOf 14 = .ok (.iload_n 2, 1) := by decide +kernel
theorem dX10_numberOf_15 : decode cX10_numberOf 15 = .ok (.iaload, 1) := by decide +kernel
theorem dX10_numberOf_16 : decode cX10_numberOf 16 = .ok (.iload_n 1, 1) := by decide +kernel
theorem dX10_numberOf_17 : decode cX10_numberOf 17 = .ok (.if_icmp .ne 5, 3) := by decide +kernel
theorem dX10_numberOf_20 : decode cX10_numberOf 20 = .ok (.iload_n 2, 1) := by decide +kernel
theorem dX10_numberOf_21 : decode cX10_numberOf 21 = .ok (.ireturn, 1) := by decide +kernel
theorem dX10_numberOf_22 : decode cX10_numberOf 22 = .ok (.iinc 2 1, 3) := by decide +kernel
theorem dX10_numberOf_25 : decode cX10_numberOf 25 = .ok (.goto (-23), 3) := by decide +kernel
theorem dX10_numberOf_28 : decode cX10_numberOf 28 = .ok (.iconst (-1), 1) := by decide +kernel
theorem dX10_numberOf_29 : decode cX10_numberOf 29 = .ok (.ireturn, 1) := by decide +kernel
theorem dX10_firstLetter_0 : decode cX10_firstLetter 0 = .ok (.aload_n 0, 1) := by decide +kernel
theorem dX10_firstLetter_1 : decode cX10_firstLetter 1 = .ok (.getfield 21, 3) := by decide +kernel
theorem dX10_firstLetter_4 : decode cX10_firstLetter 4 = .ok (.iload_n 1, 1) := by decide +kernel
theorem dX10_firstLetter_5 : decode cX10_firstLetter 5 = .ok (.iaload, 1) := by decide +kernel
theorem dX10_firstLetter_6 : decode cX10_firstLetter 6 = .ok (.bipush 31, 2) := by decide +kernel
theorem dX10_firstLetter_8 : decode cX10_firstLetter 8 = .ok (.iand, 1) := by decide +kernel
theorem dX10_firstLetter_9 : decode cX10_firstLetter 9 = .ok (.bipush 97, 2) := by decide +kernel
theorem dX10_firstLetter_11 : decode cX10_firstLetter 11 = .ok (.iadd, 1) := by decide +kernel
theorem dX10_firstLetter_12 : decode cX10_firstLetter 12 = .ok (.iconst 1, 1) := by decide +kernel
theorem dX10_firstLetter_13 : decode cX10_firstLetter 13 = .ok (.isub, 1) := by decide +kernel
theorem dX10_firstLetter_14 : decode cX10_firstLetter 14 = .ok (.ireturn, 1) := by decide +kernel
theorem dX10_fullDensity_0 : decode cX10_fullDensity 0 = .ok (.aload_n 0, 1) := by decide +kernel
theorem dX10_fullDensity_1 : decode cX10_fullDensity 1 = .ok (.getfield 9, 3) := by decide +kernel
theorem dX10_fullDensity_4 : decode cX10_fullDensity 4 = .ok (.iload_n 1, 1) := by decide +kernel
theorem dX10_fullDensity_5 : decode cX10_fullDensity 5 = .ok (.iaload, 1) := by decide +kernel
theorem dX10_fullDensity_6 : decode cX10_fullDensity 6 = .ok (.iconst 1, 1) := by decide +kernel
theorem dX10_fullDensity_7 : decode cX10_fullDensity 7 = .ok (.if_icmp .ge 7, 3) := by decide +kernel
theorem dX10_fullDensity_10 : decode cX10_fullDensity 10 = .ok (.iconst 0, 1) := by decide +kernel
theorem dX10_fullDensity_11 : decode cX10_fullDensity 11 = .ok (.goto 19, 3) := by decide +kernel
theorem dX10_fullDensity_14 : decode cX10_fullDensity 14 = .ok (.bipush 60, 2) := by decide +kernel
theorem dX10_fullDensity_16 : decode cX10_fullDensity 16 = .ok (.aload_n 0, 1) := by decide +kernel
theorem dX10_fullDensity_17 : decode cX10_fullDensity 17 = .ok (.getfield 15, 3) := by decide +kernel
theorem dX10_fullDensity_20 : decode cX10_fullDensity 20 = .ok (.iload_n 1, 1) := by decide +kernel
theorem dX10_fullDensity_21 : decode cX10_fullDensity 21 = .ok (.iaload, 1) := by decide +kernel
theorem dX10_fullDensity_22 : decode cX10_fullDensity 22 = .ok (.imul, 1) := by decide +kernel
theorem dX10_fullDensity_23 : decode cX10_fullDensity 23 = .ok (.aload_n 0, 1) := by decide +kernel
theorem dX10_fullDensity_24 : decode cX10_fullDensity 24 = .ok (.getfield 9, 3) := by decide +kernel
theorem dX10_fullDensity_27 : decode cX10_fullDensity 27 = .ok (.iload_n 1, 1) := by decide +kernel
theorem dX10_fullDensity_28 : decode cX10_fullDensity 28 = .ok (.iaload, 1) := by decide +kernel
theorem dX10_fullDensity_29 : decode cX10_fullDensity 29 = .ok (.idiv, 1) := by decide +kernel
theorem dX10_fullDensity_30 : decode cX10_fullDensity 30 = .ok (.ireturn, 1) := by decide +kernel
theorem dX10_sumSets_0 : decode cX10_sumSets 0 = .ok (.aload_n 2, 1) := by decide +kernel
theorem dX10_sumSets_1 : decode cX10_sumSets 1 = .ok (.iconst 0, 1) := by decide +kernel
theorem dX10_sumSets_2 : decode cX10_sumSets 2 = .ok (.iconst 0, 1) := by decide +kernel
theorem dX10_sumSets_3 : decode cX10_sumSets 3 = .ok (.iastore, 1) := by decide +kernel
theorem dX10_sumSets_4 : decode cX10_sumSets 4 = .ok (.iconst 0, 1) := by decide +kernel
theorem dX10_sumSets_5 : decode cX10_sumSets 5 = .ok (.istore_n 3, 1) := by decide +kernel
theorem dX10_sumSets_6 : decode cX10_sumSets 6 = .ok (.iload_n 3, 1) := by decide +kernel
theorem dX10_sumSets_7 : decode cX10_sumSets 7 = .ok (.aload_n 0, 1) := by decide +kernel
theorem dX10_sumSets_8 : decode cX10_sumSets 8 = .ok (.getfield 24, 3) := by decide +kernel
theorem dX10_sumSets_11 : decode cX10_sumSets 11 = .ok (.if_icmp .ge 45, 3) := by decide +kernel
theorem dX10_sumSets_14 : decode cX10_sumSets 14 = .ok (.iconst 1, 1) := by decide +kernel
theorem dX10_sumSets_15 : decode cX10_sumSets 15 = .ok (.iload_n 3, 1) := by decide +kernel
theorem dX10_sumSets_16 : decode cX10_sumSets 16 = .ok (.ishl, 1) := by decide +kernel
theorem dX10_sumSets_17 : decode cX10_sumSets 17 = .ok (.istore 4, 2) := by decide +kernel
theorem dX10_sumSets_19 : decode cX10_sumSets 19 = .ok (.iconst 0, 1) := by decide +kernel
theorem dX10_sumSets_20 : decode cX10_sumSets 20 = .ok (.istore 5, 2) := by decide +kernel
theorem dX10_sumSets_22 : decode cX10_sumSets 22 = .ok (.iload 5, 2) := by decide +kernel
theorem dX10_sumSets_24 : decode cX10_sumSets 24 = .ok (.iload 4, 2) := by decide +kernel
theorem dX10_sumSets_26 : decode cX10_sumSets 26 = .ok (.if_icmp .ge 24, 3) := by decide +kernel
theorem dX10_sumSets_29 : decode cX10_sumSets 29 = .ok (.aload_n 2, 1) := by decide +kernel
theorem dX10_sumSets_30 : decode cX10_sumSets 30 = .ok (.iload 4, 2) := by decide +kernel
theorem dX10_sumSets_32 : decode cX10_sumSets 32 = .ok (.iload 5, 2) := by decide +kernel
theorem dX10_sumSets_34 : decode cX10_sumSets 34 = .ok (.iadd, 1) := by decide +kernel
theorem dX10_sumSets_35 : decode cX10_sumSets 35 = .ok (.aload_n 2, 1) := by decide +kernel
theorem dX10_sumSets_36 : decode cX10_sumSets 36 = .ok (.iload 5, 2) := by decide +kernel
theorem dX10_sumSets_38 : decode cX10_sumSets 38 = .ok (.iaload, 1) := by decide +kernel
theorem dX10_sumSets_39 : decode cX10_sumSets 39 = .ok (.aload_n 1, 1) := by decide +kernel
theorem dX10_sumSets_40 : decode cX10_sumSets 40 = .ok (.iload_n 3, 1) := by decide +kernel
theorem dX10_sumSets_41 : decode cX10_sumSets 41 = .ok (.iaload, 1) := by decide +kernel
theorem dX10_sumSets_42 : decode cX10_sumSets 42 = .ok (.iadd, 1) := by decide +kernel
theorem dX10_sumSets_43 : decode cX10_sumSets 43 = .ok (.iastore, 1) := by decide +kernel
theorem dX10_sumSets_44 : decode cX10_sumSets 44 = .ok (.iinc 5 1, 3) := by decide +kernel
theorem dX10_sumSets_47 : decode cX10_sumSets 47 = .ok (.goto (-25), 3) := by decide +kernel
theorem dX10_sumSets_50 : decode cX10_sumSets 50 = .ok (.iinc 3 1, 3) := by decide +kernel
theorem dX10_sumSets_53 : decode cX10_sumSets 53 = .ok (.goto (-47), 3) := by decide +kernel
theorem dX10_sumSets_56 : decode cX10_sumSets 56 = .ok (.return_, 1) := by decide +kernel
theorem dX10_copyFrom_0 : decode cX10_copyFrom 0 = .ok (.aload_n 0, 1) := by decide +kernel
theorem dX10_copyFrom_1 : decode cX10_copyFrom 1 = .ok (.aload_n 1, 1) := by decide +kernel
theorem dX10_copyFrom_2 : decode cX10_copyFrom 2 = .ok (.getfield 24, 3) := by decide +kernel
theorem dX10_copyFrom_5 : decode cX10_copyFrom 5 = .ok (.putfield 24, 3) := by decide +kernel
theorem dX10_copyFrom_8 : decode cX10_copyFrom 8 = .ok (.aload_n 1, 1) := by decide +kernel
theorem dX10_copyFrom_9 : decode cX10_copyFrom 9 = .ok (.getfield 9, 3) := by decide +kernel
theorem dX10_copyFrom_12 : decode cX10_copyFrom 12 = .ok (.iconst 0, 1) := by decide +kernel
theorem dX10_copyFrom_13 : decode cX10_copyFrom 13 = .ok (.aload_n 0, 1) := by decide +kernel
theorem dX10_copyFrom_14 : decode cX10_copyFrom 14 = .ok (.getfield 9, 3) := by decide +kernel
theorem dX10_copyFrom_17 : decode cX10_copyFrom 17 = .ok (.iconst 0, 1) := by decide +kernel
theorem dX10_copyFrom_18 : decode cX10_copyFrom 18 = .ok (.bipush 8, 2) := by decide +kernel
theorem dX10_copyFrom_20 : decode cX10_copyFrom 20 = .ok (.invokestatic 28, 3) := by decide +kernel
theorem dX10_copyFrom_23 : decode cX10_copyFrom 23 = .ok (.aload_n 1, 1) := by decide +kernel
theorem dX10_copyFrom_24 : decode cX10_copyFrom 24 = .ok (.getfield 15, 3) := by decide +kernel
theorem dX10_copyFrom_27 : decode cX10_copyFrom 27 = .ok (.iconst 0, 1) := by decide +kernel
theorem dX10_copyFrom_28 : decode cX10_copyFrom 28 = .ok (.aload_n 0, 1) := by decide +kernel
theorem dX10_copyFrom_29 : decode cX10_copyFrom 29 = .ok (.getfield 15, 3) := by decide +kernel
theorem dX10_copyFrom_32 : decode cX10_copyFrom 32 = .ok (.iconst 0, 1) := by decide +kernel
theorem dX10_copyFrom_33 : decode cX10_copyFrom 33 = .ok (.bipush 8, 2) := by decide +kernel
theorem dX10_copyFrom_35 : decode cX10_copyFrom 35 = .ok (.invokestatic 28, 3) := by decide +kernel
theorem dX10_copyFrom_38 : decode cX10_copyFrom 38 = .ok (.aload_n 1, 1) := by decide +kernel
theorem dX10_copyFrom_39 : decode cX10_copyFrom 39 = .ok (.getfield 18, 3) := by decide +kernel
theorem dX10_copyFrom_42 : decode cX10_copyFrom 42 = .ok (.iconst 0, 1) := by decide +kernel
theorem dX10_copyFrom_43 : decode cX10_copyFrom 43 = .ok (.aload_n 0, 1) := by decide +kernel
theorem dX10_copyFrom_44 : decode cX10_copyFrom 44 = .ok (.getfield 18, 3) := by decide +kernel
theorem dX10_copyFrom_47 : decode cX10_copyFrom 47 = .ok (.iconst 0, 1) := by decide +kernel
theorem dX10_copyFrom_48 : decode cX10_copyFrom 48 = .ok (.bipush 8, 2) := by decide +kernel
theorem dX10_copyFrom_50 : decode cX10_copyFrom 50 = .ok (.invokestatic 28, 3) := by decide +kernel
theorem dX10_copyFrom_53 : decode cX10_copyFrom 53 = .ok (.aload_n 1, 1) := by decide +kernel
theorem dX10_copyFrom_54 : decode cX10_copyFrom 54 = .ok (.getfield 21, 3) := by decide +kernel
theorem dX10_copyFrom_57 : decode cX10_copyFrom 57 = .ok (.iconst 0, 1) := by decide +kernel
theorem dX10_copyFrom_58 : decode cX10_copyFrom 58 = .ok (.aload_n 0, 1) := by decide +kernel
theorem dX10_copyFrom_59 : decode cX10_copyFrom 59 = .ok (.getfield 21, 3) := by decide +kernel
theorem dX10_copyFrom_62 : decode cX10_copyFrom 62 = .ok (.iconst 0, 1) := by decide +kernel
theorem dX10_copyFrom_63 : decode cX10_copyFrom 63 = .ok (.bipush 8, 2) := by decide +kernel
theorem dX10_copyFrom_65 : decode cX10_copyFrom 65 = .ok (.invokestatic 28, 3) := by decide +kernel
theorem dX10_copyFrom_68 : decode cX10_copyFrom 68 = .ok (.return_, 1) := by decide +kernel
set_option maxRecDepth 20000 in
theorem ggX11_init_X6_init : GoodIn wsX11_init wsX6_init := goodIn_r _ [46, 47, 2, 3, 43, 48, 49, 50, 51, 130, 131, 132, 133, 134, 135, 136, 137, 138, 139, 140, 141, 142, 143, 144, 145, 146] (by decide +kernel) (by decide +kernel)
set_option maxRecDepth 20000 in
theorem gX11_init_X6_init_n9 : GoodIn wsX11_init (wsX6_init) := ggX11_init_X6_init
set_option maxRecDepth 20000 in
theorem ggX11_init_X10_init : GoodIn wsX11_init wsX10_init := goodIn_r _ [53, 54, 2, 3, 43, 55, 56, 57, 58, 162, 163, 164, 165, 166] (by decide +kernel) (by decide +kernel)
set_option maxRecDepth 20000 in
theorem gX11_init_X10_init_n18 : GoodIn wsX11_init (wsX10_init) := ggX11_init_X10_init
set_option maxRecDepth 20000 in
theorem ggX11_init_X9_init : GoodIn wsX11_init wsX9_init := goodIn_r _ [61, 62, 2, 3, 63, 9, 10, 64, 65, 30, 31, 66, 67, 68, 69, 70, 71, 72, 73, 74, 52, 53, 54, 43, 55, 56, 57, 58, 75, 76, 77, 78, 79, 80, 81, 82, 83, 84, 85, 86, 87, 88, 89, 90, 91, 92, 93, 94, 95, 96, 162, 163, 164, 165, 166, 167, 168, 169, 170, 171, 172, 173, 184, 185, 186, 187, 188, 189, 190, 208, 209, 210, 211, 212, 213, 214, 215, 216, 217, 218, 219, 220, 221, 222] (by decide +kernel) (by decide +kernel)
set_option maxRecDepth 20000 in
theorem gX11_init_X9_init : GoodIn wsX11_init (wsX9_init) := ggX11_init_X9_init
set_option maxRecDepth 20000 in
theorem ggX11_init_X3_init : GoodIn wsX11_init wsX3_init := goodIn_r _ [98, 99, 2, 3, 100, 101, 174, 175, 176] (by decide +kernel) (by decide +kernel)
set_option maxRecDepth 20000 in
theorem gX11_init_X3_init_n32 : GoodIn wsX11_init (wsX3_init) := ggX11_init_X3_init
set_option maxRecDepth 20000 in
theorem ggX11_init_X2_init : GoodIn wsX11_init wsX2_init := goodIn_r _ [103, 104, 2, 3, 43, 105, 177, 178, 179] (by decide +kernel) (by decide +kernel)
set_option maxRecDepth 20000 in
theorem gX11_init_X2_init_n43 : GoodIn wsX11_init (wsX2_init) := ggX11_init_X2_init
set_option maxRecDepth 20000 in
theorem ggX11_init_X1_init : GoodIn wsX11_init wsX1_init := goodIn_r _ [107, 108, 2, 3, 43, 109, 110, 111, 180, 181, 182, 183] (by decide +kernel) (by decide +kernel)
set_option maxRecDepth 20000 in
theorem gX11_init_X1_init_n50 : GoodIn wsX11_init (wsX1_init) := ggX11_init_X1_init
set_option maxRecDepth 20000 in
theorem ggX11_init_X8_init : GoodIn wsX11_init wsX8_init := goodIn_r _ [76, 77, 2, 3, 78, 79, 43, 80, 81, 82, 83, 184, 185, 186, 187, 188, 189, 190] (by decide +kernel) (by decide +kernel)
set_option maxRecDepth 20000 in
theorem gX11_init_X8_init_n57 : GoodIn wsX11_init (wsX8_init) := ggX11_init_X8_init
set_option maxRecDepth 20000 in
theorem ggX11_init_X5_init : GoodIn wsX11_init wsX5_init := goodIn_r _ [114, 115, 2, 3, 43, 116, 117, 118, 119, 120, 121, 122, 123, 191, 192, 193, 194, 195, 196, 197, 198, 199, 200] (by decide +kernel) (by decide +kernel)
set_option maxRecDepth 20000 in
theorem gX11_init_X5_init : GoodIn wsX11_init (wsX5_init) := ggX11_init_X5_init
set_option maxRecDepth 20000 in
theorem ggX11_init_X7_init : GoodIn wsX11_init wsX7_init := goodIn_r _ [125, 126, 2, 3, 43, 127, 128, 129, 201, 202, 203, 204, 205, 206, 207] (by decide +kernel) (by decide +kernel)
set_option maxRecDepth 20000 in
theorem gX11_init_X7_init_n76 : GoodIn wsX11_init (wsX7_init) := ggX11_init_X7_init
theorem dX11_init_0 : decode cX11_init 0 = .ok (.aload_n 0, 1) := by decide +kernel
theorem dX11_init_1 : decode cX11_init 1 = .ok (.invokespecial 1, 3) := by decide +kernel
theorem dX11_init_4 : decode cX11_init 4 = .ok (.aload_n 0, 1) := by decide +kernel
theorem dX11_init_5 : decode cX11_init 5 = .ok (.new 7, 3) := by decide +kernel
theorem dX11_init_8 : decode cX11_init 8 = .ok (.dup, 1) := by decide +kernel
theorem dX11_init_9 : decode cX11_init 9 = .ok (.invokespecial 9, 3) := by decide +kernel
theorem dX11_init_12 : decode cX11_init 12 = .ok (.putfield 10, 3) := by decide +kernel
theorem dX11_init_15 : decode cX11_init 15 = .ok (.aload_n 0, 1) := by decide +kernel
theorem dX11_init_16 : decode cX11_init 16 = .ok (.new 16, 3) := by decide +kernel
theorem dX11_init_19 : decode cX11_init 19 = .ok (.dup, 1) := by decide +kernel
theorem dX11_init_20 : decode cX11_init 20 = .ok (.invokespecial 18, 3) := by decide +kernel
theorem dX11_init_23 : decode cX11_init 23 = .ok (.putfield 19, 3) := by decide +kernel
theorem dX11_init_26 : decode cX11_init 26 = .ok (.aload_n 0, 1) := by decide +kernel
theorem dX11_init_27 : decode cX11_init 27 = .ok (.new 23, 3) := by decide +kernel
theorem dX11_init_30 : decode cX11_init 30 = .ok (.dup, 1) := by decide +kernel
theorem dX11_init_31 : decode cX11_init 31 = .ok (.invokespecial 25, 3) := by decide +kernel
theorem dX11_init_34 : decode cX11_init 34 = .ok (.putfield 26, 3) := by decide +kernel
theorem dX11_init_37 : decode cX11_init 37 = .ok (.aload_n 0, 1) := by decide +kernel
theorem dX11_init_38 : decode cX11_init 38 = .ok (.new 30, 3) := by decide +kernel
theorem dX11_init_41 : decode cX11_init 41 = .ok (.dup, 1) := by decide +kernel
theorem dX11_init_42 : decode cX11_init 42 = .ok (.invokespecial 32, 3) := by decide +kernel
theorem dX11_init_45 : decode cX11_init 45 = .ok (.putfield 33, 3) := by decide +kernel
theorem dX11_init_48 : decode cX11_init 48 = .ok (.aload_n 0, 1) := by decide +kernel
theorem dX11_init_49 : decode cX11_init 49 = .ok (.iconst 2, 1) := by decide +kernel
theorem dX11_init_50 : decode cX11_init 50 = .ok (.anewarray 23, 3) := by decide +kernel
theorem dX11_init_53 : decode cX11_init 53 = .ok (.putfield 37, 3) := by decide +kernel
theorem dX11_init_56 : decode cX11_init 56 = .ok (.aload_n 0, 1) := by decide +kernel
theorem dX11_init_57 : decode cX11_init 57 = .ok (.new 41, 3) := by decide +kernel
theorem dX11_init_60 : decode cX11_init 60 = .ok (.dup, 1) := by decide +kernel
theorem dX11_init_61 : decode cX11_init 61 = .ok (.invokespecial 43, 3) := by decide +kernel
theorem dX11_init_64 : decode cX11_init 64 = .ok (.putfield 44, 3) := by decide +kernel
theorem dX11_init_67 : decode cX11_init 67 = .ok (.aload_n 0, 1) := by decide +kernel
theorem dX11_init_68 : decode cX11_init 68 = .ok (.new 48, 3) := by decide +kernel
theorem dX11_init_71 : decode cX11_init 71 = .ok (.dup, 1) := by decide +kernel
theorem dX11_init_72 : decode cX11_init 72 = .ok (.invokespecial 50, 3) := by decide +kernel
theorem dX11_init_75 : decode cX11_init 75 = .ok (.putfield 51, 3) := by decide +kernel
theorem dX11_init_78 : decode cX11_init 78 = .ok (.aload_n 0, 1) := by decide +kernel
theorem dX11_init_79 : decode cX11_init 79 = .ok (.new 55, 3) := by decide +kernel
theorem dX11_init_82 : decode cX11_init 82 = .ok (.dup, 1) := by decide +kernel
theorem dX11_init_83 : decode cX11_init 83 = .ok (.invokespecial 57, 3) := by decide +kernel
theorem dX11_init_86 : decode cX11_init 86 = .ok (.putfield 58, 3) := by decide +kernel
theorem dX11_init_89 : decode cX11_init 89 = .ok (.aload_n 0, 1) := by decide +kernel
theorem dX11_init_90 : decode cX11_init 90 = .ok (.new 62, 3) := by decide +kernel
theorem dX11_init_93 : decode cX11_init 93 = .ok (.dup, 1) := by decide +kernel
theorem dX11_init_94 : decode cX11_init 94 = .ok (.iconst 1, 1) := by decide +kernel
theorem dX11_init_95 : decode cX11_init 95 = .ok (.invokespecial 64, 3) := by decide +kernel
theorem dX11_init_98 : decode cX11_init 98 = .ok (.putfield 67, 3) := by decide +kernel
theorem dX11_init_101 : decode cX11_init 101 = .ok (.aload_n 0, 1) := by decide +kernel
theorem dX11_init_102 : decode cX11_init 102 = .ok (.new 62, 3) := by decide +kernel
theorem dX11_init_105 : decode cX11_init 105 = .ok (.dup, 1) := by decide +kernel
theorem dX11_init_106 : decode cX11_init 106 = .ok (.iconst 0, 1) := by decide +kernel
theorem dX11_init_107 : decode cX11_init 107 = .ok (.invokespecial 64, 3) := by decide +kernel
theorem dX11_init_110 : decode cX11_init 110 = .ok (.putfield 71, 3) := by decide +kernel
theorem dX11_init_113 : decode cX11_init 113 = .ok (.aload_n 0, 1) := by decide +kernel
theorem dX11_init_114 : decode cX11_init 114 = .ok (.new 74, 3) := by decide +kernel
theorem dX11_init_117 : decode cX11_init 117 = .ok (.dup, 1) := by decide +kernel
theorem dX11_init_118 : decode cX11_init 118 = .ok (.invokespecial 76, 3) := by decide +kernel
theorem dX11_init_121 : decode cX11_init 121 = .ok (.putfield 77, 3) := by decide +kernel
theorem dX11_init_124 : decode cX11_init 124 = .ok (.aload_n 0, 1) := by decide +kernel
theorem dX11_init_125 : decode cX11_init 125 = .ok (.new 74, 3) := by decide +kernel
theorem dX11_init_128 : decode cX11_init 128 = .ok (.dup, 1) := by decide +kernel
theorem dX11_init_129 : decode cX11_init 129 = .ok (.invokespecial 76, 3) := by decide +kernel
theorem dX11_init_132 : decode cX11_init 132 = .ok (.putfield 81, 3) := by decide +kernel
theorem dX11_init_135 : decode cX11_init 135 = .ok (.aload_n 0, 1) := by decide +kernel
theorem dX11_init_136 : decode cX11_init 136 = .ok (.bipush 20, 2) := by decide +kernel
theorem dX11_init_138 : decode cX11_init 138 = .ok (.newarray .int, 2) := by decide +kernel
theorem dX11_init_140 : decode cX11_init 140 = .ok (.putfield 84, 3) := by decide +kernel
theorem dX11_init_143 : decode cX11_init 143 = .ok (.return_, 1) := by decide +kernel
set_option maxRecDepth 20000 in
theorem ggX11_feed_X6_hasPlaceFor : GoodIn wsX11_feed wsX6_hasPlaceFor := goodIn_r _ [7, 8, 29, 30, 31, 32, 33, 34, 35, 36, 37, 38, 39, 40, 41, 42, 43, 44, 45] (by decide +kernel) (by decide +kernel)
set_option maxRecDepth 20000 in
theorem gX11_feed_X6_hasPlaceFor : GoodIn wsX11_feed (wsV RX11 88 RX6 yX6_hasPlaceFor wsX6_hasPlaceFor) := goodIn_app (goodIn_of _ (by decide +kernel)) ggX11_feed_X6_hasPlaceFor
set_option maxRecDepth 20000 in
theorem ggX11_feed_X6_addNumber : GoodIn wsX11_feed wsX6_addNumber := goodIn_r _ [12, 8, 13, 29, 30, 31, 32, 33, 34, 35, 36, 37, 38, 39, 40, 41, 42, 43, 44, 45] (by decide +kernel) (by decide +kernel)
set_option maxRecDepth 20000 in
theorem gX11_feed_X6_addNumber : GoodIn wsX11_feed (wsV RX11 92 RX6 yX6_addNumber wsX6_addNumber) := goodIn_app (goodIn_of _ (by decide +kernel)) ggX11_feed_X6_addNumber
theorem dX11_feed_0 : decode cX11_feed 0 = .ok (.aload_n 0, 1) := by decide +kernel
theorem dX11_feed_1 : decode cX11_feed 1 = .ok (.getfield 10, 3) := by decide +kernel
theorem dX11_feed_4 : decode cX11_feed 4 = .ok (.bipush 20, 2) := by decide +kernel
theorem dX11_feed_6 : decode cX11_feed 6 = .ok (.invokevirtual 88, 3) := by decide +kernel
theorem dX11_feed_9 : decode cX11_feed 9 = .ok (.ifCond .ne 5, 3) := by decide +kernel
theorem dX11_feed_12 : decode cX11_feed 12 = .ok (.iconst (-1), 1) := by decide +kernel
theorem dX11_feed_13 : decode cX11_feed 13 = .ok (.ireturn, 1) := by decide +kernel
theorem dX11_feed_14 : decode cX11_feed 14 = .ok (.aload_n 0, 1) := by decide +kernel
theorem dX11_feed_15 : decode cX11_feed 15 = .ok (.getfield 10, 3) := by decide +kernel
theorem dX11_feed_18 : decode cX11_feed 18 = .ok (.iload_n 1, 1) := by decide +kernel
theorem dX11_feed_19 : decode cX11_feed 19 = .ok (.invokevirtual 92, 3) := by decide +kernel
theorem dX11_feed_22 : decode cX11_feed 22 = .ok (.aload_n 0, 1) := by decide +kernel
theorem dX11_feed_23 : decode cX11_feed 23 = .ok (.getfield 10, 3) := by decide +kernel
theorem dX11_feed_26 : decode cX11_feed 26 = .ok (.iload_n 2, 1) := by decide +kernel
theorem dX11_feed_27 : decode cX11_feed 27 = .ok (.invokevirtual 92, 3) := by decide +kernel
theorem dX11_feed_30 : decode cX11_feed 30 = .ok (.aload_n 0, 1) := by decide +kernel
theorem dX11_feed_31 : decode cX11_feed 31 = .ok (.getfield 10, 3) := by decide +kernel
theorem dX11_feed_34 : decode cX11_feed 34 = .ok (.iload_n 3, 1) := by decide +kernel
theorem dX11_feed_35 : decode cX11_feed 35 = .ok (.invokevirtual 92, 3) := by decide +kernel
theorem dX11_feed_38 : decode cX11_feed 38 = .ok (.aload_n 0, 1) := by decide +kernel
theorem dX11_feed_39 : decode cX11_feed 39 = .ok (.getfield 10, 3) := by decide +kernel
theorem dX11_feed_42 : decode cX11_feed 42 = .ok (.iload 4, 2) := by decide +kernel
theorem dX11_feed_44 : decode cX11_feed 44 = .ok (.invokevirtual 92, 3) := by decide +kernel
theorem dX11_feed_47 : decode cX11_feed 47 = .ok (.aload_n 0, 1) := by decide +kernel
theorem dX11_feed_48 : decode cX11_feed 48 = .ok (.getfield 10, 3) := by decide +kernel
theorem dX11_feed_51 : decode cX11_feed 51 = .ok (.iload 5, 2) := by decide +kernel
theorem dX11_feed_53 : decode cX11_feed 53 = .ok (.invokevirtual 92, 3) := by decide +kernel
theorem dX11_feed_56 : decode cX11_feed 56 = .ok (.aload_n 0, 1) := by decide +kernel
theorem dX11_feed_57 : decode cX11_feed 57 = .ok (.getfield 10, 3) := by decide +kernel
theorem dX11_feed_60 : decode cX11_feed 60 = .ok (.getfield 96, 3) := by decide +kernel
theorem dX11_feed_63 : decode cX11_feed 63 = .ok (.ireturn, 1) := by decide +kernel
theorem dX11_end_0 : decode cX11_end 0 = .ok (.iload_n 1, 1) := by decide +kernel
theorem dX11_end_1 : decode cX11_end 1 = .ok (.ifCond .lt 14, 3) := by decide +kernel
theorem dX11_end_4 : decode cX11_end 4 = .ok (.iload_n 1, 1) := by decide +kernel
theorem dX11_end_5 : decode cX11_end 5 = .ok (.aload_n 0, 1) := by decide +kernel
theorem dX11_end_6 : decode cX11_end 6 = .ok (.getfield 10, 3) := by decide +kernel
theorem dX11_end_9 : decode cX11_end 9 = .ok (.getfield 96, 3) := by decide +kernel
theorem dX11_end_12 : decode cX11_end 12 = .ok (.if_icmp .le 5, 3) := by decide +kernel
theorem dX11_end_15 : decode cX11_end 15 = .ok (.iconst 0, 1) := by decide +kernel
theorem dX11_end_16 : decode cX11_end 16 = .ok (.ireturn, 1) := by decide +kernel
theorem dX11_end_17 : decode cX11_end 17 = .ok (.aload_n 0, 1) := by decide +kernel
theorem dX11_end_18 : decode cX11_end 18 = .ok (.getfield 10, 3) := by decide +kernel
theorem dX11_end_21 : decode cX11_end 21 = .ok (.iload_n 1, 1) := by decide +kernel
theorem dX11_end_22 : decode cX11_end 22 = .ok (.putfield 96, 3) := by decide +kernel
theorem dX11_end_25 : decode cX11_end 25 = .ok (.iconst 1, 1) := by decide +kernel
theorem dX11_end_26 : decode cX11_end 26 = .ok (.ireturn, 1) := by decide +kernel
set_option maxRecDepth 20000 in
theorem ggX11_store_X6_readStore : GoodIn wsX11_store wsX6_readStore := goodIn_r _ [15, 16, 17, 18, 19, 20, 21, 22, 23, 24, 14, 25, 26, 27, 28, 29, 30, 31, 32, 33, 34, 35, 36, 37, 38, 39, 40, 41, 42, 43, 44, 45, 46, 47, 48, 49, 50, 51, 52, 53, 54, 55, 56, 57, 58, 59, 60, 61, 62, 63, 64, 65, 66, 67, 68, 69, 70, 71, 72, 73, 74, 75, 76, 77, 78, 79, 80, 81, 82, 83, 84, 85, 86, 87, 88, 89, 90, 91, 92, 93, 94, 95, 96, 97, 98, 99, 100, 101, 102, 103, 104, 105, 106, 107, 108, 109, 110, 111, 112, 113, 114, 115, 116, 117, 118, 119, 120, 121, 122, 123, 124, 125, 126, 127, 128, 129, 130, 131, 132, 133, 134, 135, 136, 137, 138, 139, 228, 229, 230, 231, 232, 211, 212, 213, 214, 215, 216, 217, 218, 219, 220, 221, 222, 223, 224, 225, 226, 227] (by decide +kernel) (by decide +kernel)
set_option maxRecDepth 20000 in
theorem gX11_store_X6_readStore : GoodIn wsX11_store (wsV RX11 100 RX6 yX6_readStore wsX6_readStore) := goodIn_app (goodIn_of _ (by decide +kernel)) ggX11_store_X6_readStore
set_option maxRecDepth 20000 in
theorem ggX11_store_X9_begin : GoodIn wsX11_store wsX9_begin := goodIn_r _ [144, 145, 146, 147, 148, 149, 150, 151, 152, 153, 154, 155, 132, 156, 134, 157, 158, 159, 160, 161, 162, 163, 135, 164, 165, 166, 167, 168, 169, 170, 171, 172, 173, 174, 175, 176, 177, 178, 179, 180, 181, 182, 233, 234, 235, 236, 237, 238, 239, 240, 241, 242, 243, 244, 228, 229, 230, 231, 232, 245, 246, 247, 248, 249, 250, 251, 252, 253, 254, 255, 256, 257, 258, 259, 260, 261] (by decide +kernel) (by decide +kernel)
set_option maxRecDepth 20000 in
theorem gX11_store_X9_begin : GoodIn wsX11_store (wsV RX11 113 RX9 yX9_begin wsX9_begin) := goodIn_app (goodIn_of _ (by decide +kernel)) ggX11_store_X9_begin
set_option maxRecDepth 20000 in
theorem ggX11_store_X3_forget : GoodIn wsX11_store wsX3_forget := goodIn_r _ [187, 188, 262, 263, 264] (by decide +kernel) (by decide +kernel)
set_option maxRecDepth 20000 in
theorem gX11_store_X3_forget : GoodIn wsX11_store (wsV RX11 117 RX3 yX3_forget wsX3_forget) := goodIn_app (goodIn_of _ (by decide +kernel)) ggX11_store_X3_forget
set_option maxRecDepth 20000 in
theorem ggX11_store_X5_forget : GoodIn wsX11_store wsX5_forget := goodIn_r _ [193, 194, 195, 265, 266, 267, 268, 269, 270, 271, 272, 273, 274] (by decide +kernel) (by decide +kernel)
set_option maxRecDepth 20000 in
theorem gX11_store_X5_forget : GoodIn wsX11_store (wsV RX11 120 RX5 yX5_forget wsX5_forget) := goodIn_app (goodIn_of _ (by decide +kernel)) ggX11_store_X5_forget
theorem dX11_store_0 : decode cX11_store 0 = .ok (.aload_n 0, 1) := by decide +kernel
theorem dX11_store_1 : decode cX11_store 1 = .ok (.getfield 10, 3) := by decide +kernel
theorem dX11_store_4 : decode cX11_store 4 = .ok (.aload_n 0, 1) := by decide +kernel
theorem dX11_store_5 : decode cX11_store 5 = .ok (.getfield 19, 3) := by decide +kernel
theorem dX11_store_8 : decode cX11_store 8 = .ok (.invokevirtual 100, 3) := by decide +kernel
theorem dX11_store_11 : decode cX11_store 11 = .ok (.istore_n 1, 1) := by decide +kernel
theorem dX11_store_12 : decode cX11_store 12 = .ok (.aload_n 0, 1) := by decide +kernel
theorem dX11_store_13 : decode cX11_store 13 = .ok (.getfield 10, 3) := by decide +kernel
theorem dX11_store_16 : decode cX11_store 16 = .ok (.iconst 0, 1) := by decide +kernel
theorem dX11_store_17 : decode cX11_store 17 = .ok (.putfield 96, 3) := by decide +kernel
theorem dX11_store_20 : decode cX11_store 20 = .ok (.iload_n 1, 1) := by decide +kernel
theorem dX11_store_21 : decode cX11_store 21 = .ok (.ifCond .ne 15, 3) := by decide +kernel
theorem dX11_store_24 : decode cX11_store 24 = .ok (.sipush (-1000), 3) := by decide +kernel
theorem dX11_store_27 : decode cX11_store 27 = .ok (.aload_n 0, 1) := by decide +kernel
theorem dX11_store_28 : decode cX11_store 28 = .ok (.getfield 10, 3) := by decide +kernel
theorem dX11_store_31 : decode cX11_store 31 = .ok (.getfield 104, 3) := by decide +kernel
theorem dX11_store_34 : decode cX11_store 34 = .ok (.isub, 1) := by decide +kernel
theorem dX11_store_35 : decode cX11_store 35 = .ok (.ireturn, 1) := by decide +kernel
theorem dX11_store_36 : decode cX11_store 36 = .ok (.aload_n 0, 1) := by decide +kernel
theorem dX11_store_37 : decode cX11_store 37 = .ok (.getfield 26, 3) := by decide +kernel
theorem dX11_store_40 : decode cX11_store 40 = .ok (.aload_n 0, 1) := by decide +kernel
theorem dX11_store_41 : decode cX11_store 41 = .ok (.getfield 19, 3) := by decide +kernel
theorem dX11_store_44 : decode cX11_store 44 = .ok (.aload_n 0, 1) := by decide +kernel
theorem dX11_store_45 : decode cX11_store 45 = .ok (.getfield 10, 3) := by decide +kernel
theorem dX11_store_48 : decode cX11_store 48 = .ok (.getfield 107, 3) := by decide +kernel
theorem dX11_store_51 : decode cX11_store 51 = .ok (.aload_n 0, 1) := by decide +kernel
theorem dX11_store_52 : decode cX11_store 52 = .ok (.getfield 10, 3) := by decide +kernel
theorem dX11_store_55 : decode cX11_store 55 = .ok (.getfield 110, 3) := by decide +kernel
theorem dX11_store_58 : decode cX11_store 58 = .ok (.invokevirtual 113, 3) := by decide +kernel
theorem dX11_store_61 : decode cX11_store 61 = .ok (.aload_n 0, 1) := by decide +kernel
theorem dX11_store_62 : decode cX11_store 62 = .ok (.getfield 33, 3) := by decide +kernel
theorem dX11_store_65 : decode cX11_store 65 = .ok (.invokevirtual 117, 3) := by decide +kernel
theorem dX11_store_68 : decode cX11_store 68 = .ok (.aload_n 0, 1) := by decide +kernel
theorem dX11_store_69 : decode cX11_store 69 = .ok (.getfield 67, 3) := by decide +kernel
theorem dX11_store_72 : decode cX11_store 72 = .ok (.invokevirtual 120, 3) := by decide +kernel
theorem dX11_store_75 : decode cX11_store 75 = .ok (.aload_n 0, 1) := by decide +kernel
theorem dX11_store_76 : decode cX11_store 76 = .ok (.getfield 19, 3) := by decide +kernel
theorem dX11_store_79 : decode cX11_store 79 = .ok (.getfield 121, 3) := by decide +kernel
theorem dX11_store_82 : decode cX11_store 82 = .ok (.ireturn, 1) := by decide +kernel
theorem dX11_fault_0 : decode cX11_fault 0 = .ok (.aload_n 0, 1) := by decide +kernel
theorem dX11_fault_1 : decode cX11_fault 1 = .ok (.getfield 10, 3) := by decide +kernel
theorem dX11_fault_4 : decode cX11_fault 4 = .ok (.getfield 124, 3) := by decide +kernel
theorem dX11_fault_7 : decode cX11_fault 7 = .ok (.ireturn, 1) := by decide +kernel
set_option maxRecDepth 20000 in
theorem ggX11_names_X6_readSteps : GoodIn wsX11_names wsX6_readSteps := goodIn_r _ [16, 17, 18, 19, 20, 21, 22, 15, 23, 24, 25, 26, 27, 28, 29, 30, 31, 32, 33, 34, 35, 36, 37, 38, 39, 40, 41, 42, 43, 44, 45, 46, 47, 48, 49, 50, 51, 52, 53, 54, 55, 56, 57, 58, 59, 60, 61, 62, 63, 64, 65, 66, 67, 68, 69, 70, 71, 72, 73, 74, 75, 76, 77, 78, 79, 80, 81, 82, 83, 84, 85, 86, 87, 88, 89, 90, 91, 92, 93, 94, 95, 96, 97, 98, 99, 100, 101, 102, 103, 104, 105, 106, 107, 108, 109, 110, 111, 112, 113, 114, 115, 116, 117, 118, 119, 120, 121, 122, 123, 124, 125, 126, 127, 128, 129, 130, 131, 132, 133, 134, 135, 136, 365, 366, 367, 368, 369, 370, 371, 372, 373, 374, 375, 376, 377, 378, 379, 380, 381, 382, 383, 384, 385, 386] (by decide +kernel) (by decide +kernel)
set_option maxRecDepth 20000 in
theorem gX11_names_X6_readSteps : GoodIn wsX11_names (wsV RX11 130 RX6 yX6_readSteps wsX6_readSteps) := goodIn_app (goodIn_of _ (by decide +kernel)) ggX11_names_X6_readSteps
set_option maxRecDepth 20000 in
theorem ggX11_names_X3_keep : GoodIn wsX11_names wsX3_keep := goodIn_r _ [141, 142, 143, 144, 145, 146, 147, 148, 149, 150, 140, 151, 152, 153, 154, 155, 156, 157, 158, 159, 133, 160, 161, 162, 163, 164, 165, 166, 167, 168, 169, 170, 171, 172, 173, 174, 175, 176, 177, 178, 179, 136, 180, 181, 182, 183, 184, 185, 186, 187, 188, 189, 190, 191, 192, 193, 194, 195, 196, 197, 198, 199, 200, 201, 202, 203, 204, 205, 206, 207, 208, 209, 210, 211, 212, 135, 213, 214, 215, 216, 217, 218, 219, 220, 221, 222, 223, 224, 225, 226, 227, 228, 229, 230, 231, 232, 233, 234, 235, 236, 237, 238, 239, 240, 241, 387, 388, 389, 358, 359, 360, 361, 362, 363, 364, 382, 383, 384, 385, 386, 390, 391, 392, 393, 394, 395, 396, 397, 398, 399, 400, 401, 402, 403, 404, 405, 406, 407, 408, 409, 410, 411] (by decide +kernel) (by decide +kernel)
set_option maxRecDepth 20000 in
theorem gX11_names_X3_keep : GoodIn wsX11_names (wsV RX11 133 RX3 yX3_keep wsX3_keep) := goodIn_app (goodIn_of _ (by decide +kernel)) ggX11_names_X3_keep
set_option maxRecDepth 20000 in
theorem ggX11_names_X2_newCall : GoodIn wsX11_names wsX2_newCall := goodIn_r _ [246, 247, 412, 413, 414] (by decide +kernel) (by decide +kernel)
set_option maxRecDepth 20000 in
theorem gX11_names_X2_newCall : GoodIn wsX11_names (wsV RX11 137 RX2 yX2_newCall wsX2_newCall) := goodIn_app (goodIn_of _ (by decide +kernel)) ggX11_names_X2_newCall
set_option maxRecDepth 20000 in
theorem ggX11_names_X4_isFull : GoodIn wsX11_names wsX4_isFull := goodIn_r _ [251, 228, 397, 398, 399, 400, 401] (by decide +kernel) (by decide +kernel)
set_option maxRecDepth 20000 in
theorem gX11_names_X4_isFull : GoodIn wsX11_names (wsV RX11 147 RX4 yX4_isFull wsX4_isFull) := goodIn_app (goodIn_of _ (by decide +kernel)) ggX11_names_X4_isFull
set_option maxRecDepth 20000 in
theorem ggX11_names_X9_ask : GoodIn wsX11_names wsX9_ask := goodIn_r _ [255, 256, 164, 160, 206, 168, 257, 258, 259, 163, 260, 185, 261, 183, 184, 262, 263, 264, 265, 266, 267, 188, 268, 269, 270, 271, 272, 221, 273, 274, 275, 133, 276, 177, 178, 277, 278, 279, 280, 281, 282, 283, 284, 285, 286, 287, 288, 289, 186, 290, 291, 292, 293, 294, 295, 296, 297, 222, 298, 299, 300, 301, 302, 303, 304, 305, 306, 307, 308, 309, 310, 311, 312, 313, 314, 315, 316, 317, 167, 318, 192, 228, 193, 194, 319, 320, 195, 229, 214, 215, 216, 321, 249, 250, 251, 322, 323, 324, 147, 325, 326, 207, 208, 170, 327, 328, 329, 330, 331, 245, 332, 247, 333, 334, 335, 336, 337, 172, 338, 234, 237, 236, 239, 238, 199, 200, 201, 240, 339, 340, 341, 342, 235, 415, 416, 417, 418, 358, 359, 360, 361, 362, 363, 364, 390, 391, 392, 393, 394, 395, 396, 382, 383, 384, 385, 386, 397, 398, 399, 400, 401, 412, 413, 414, 402, 403, 404, 405, 406, 407, 408, 409, 410, 411] (by decide +kernel) (by decide +kernel)
set_option maxRecDepth 20000 in
theorem gX11_names_X9_ask : GoodIn wsX11_names (wsV RX11 156 RX9 yX9_ask wsX9_ask) := goodIn_app (goodIn_of _ (by decide +kernel)) ggX11_names_X9_ask
theorem dX11_names_0 : decode cX11_names 0 = .ok (.aload_n 0, 1) := by decide +kernel
theorem dX11_names_1 : decode cX11_names 1 = .ok (.getfield 10, 3) := by decide +kernel
theorem dX11_names_4 : decode cX11_names 4 = .ok (.aload_n 0, 1) := by decide +kernel
theorem dX11_names_5 : decode cX11_names 5 = .ok (.getfield 26, 3) := by decide +kernel
theorem dX11_names_8 : decode cX11_names 8 = .ok (.getfield 127, 3) := by decide +kernel
theorem dX11_names_11 : decode cX11_names 11 = .ok (.invokevirtual 130, 3) := by decide +kernel
theorem dX11_names_14 : decode cX11_names 14 = .ok (.istore_n 1, 1) := by decide +kernel
theorem dX11_names_15 : decode cX11_names 15 = .ok (.aload_n 0, 1) := by decide +kernel
theorem dX11_names_16 : decode cX11_names 16 = .ok (.getfield 10, 3) := by decide +kernel
theorem dX11_names_19 : decode cX11_names 19 = .ok (.iconst 0, 1) := by decide +kernel
theorem dX11_names_20 : decode cX11_names 20 = .ok (.putfield 96, 3) := by decide +kernel
theorem dX11_names_23 : decode cX11_names 23 = .ok (.iload_n 1, 1) := by decide +kernel
theorem dX11_names_24 : decode cX11_names 24 = .ok (.ifCond .ne 15, 3) := by decide +kernel
theorem dX11_names_27 : decode cX11_names 27 = .ok (.sipush (-1000), 3) := by decide +kernel
theorem dX11_names_30 : decode cX11_names 30 = .ok (.aload_n 0, 1) := by decide +kernel
theorem dX11_names_31 : decode cX11_names 31 = .ok (.getfield 10, 3) := by decide +kernel
theorem dX11_names_34 : decode cX11_names 34 = .ok (.getfield 104, 3) := by decide +kernel

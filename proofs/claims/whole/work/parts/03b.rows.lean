theorem dX5_paysAt_33 : decode cX5_paysAt 33 = .ok (.aload_n 1, 1) := by decide +kernel
theorem dX5_paysAt_34 : decode cX5_paysAt 34 = .ok (.iload_n 2, 1) := by decide +kernel
theorem dX5_paysAt_35 : decode cX5_paysAt 35 = .ok (.invokevirtual 113, 3) := by decide +kernel
theorem dX5_paysAt_38 : decode cX5_paysAt 38 = .ok (.iadd, 1) := by decide +kernel
theorem dX5_paysAt_39 : decode cX5_paysAt 39 = .ok (.ireturn, 1) := by decide +kernel
theorem dX6_init_0 : decode cX6_init 0 = .ok (.aload_n 0, 1) := by decide +kernel
theorem dX6_init_1 : decode cX6_init 1 = .ok (.invokespecial 3, 3) := by decide +kernel
theorem dX6_init_4 : decode cX6_init 4 = .ok (.aload_n 0, 1) := by decide +kernel
theorem dX6_init_5 : decode cX6_init 5 = .ok (.sipush 440, 3) := by decide +kernel
theorem dX6_init_8 : decode cX6_init 8 = .ok (.newarray .int, 2) := by decide +kernel
theorem dX6_init_10 : decode cX6_init 10 = .ok (.putfield 11, 3) := by decide +kernel
theorem dX6_init_13 : decode cX6_init 13 = .ok (.aload_n 0, 1) := by decide +kernel
theorem dX6_init_14 : decode cX6_init 14 = .ok (.bipush 40, 2) := by decide +kernel
theorem dX6_init_16 : decode cX6_init 16 = .ok (.newarray .int, 2) := by decide +kernel
theorem dX6_init_18 : decode cX6_init 18 = .ok (.putfield 15, 3) := by decide +kernel
theorem dX6_init_21 : decode cX6_init 21 = .ok (.aload_n 0, 1) := by decide +kernel
theorem dX6_init_22 : decode cX6_init 22 = .ok (.iconst 2, 1) := by decide +kernel
theorem dX6_init_23 : decode cX6_init 23 = .ok (.newarray .int, 2) := by decide +kernel
theorem dX6_init_25 : decode cX6_init 25 = .ok (.putfield 18, 3) := by decide +kernel
theorem dX6_init_28 : decode cX6_init 28 = .ok (.aload_n 0, 1) := by decide +kernel
theorem dX6_init_29 : decode cX6_init 29 = .ok (.iconst 2, 1) := by decide +kernel
theorem dX6_init_30 : decode cX6_init 30 = .ok (.newarray .int, 2) := by decide +kernel
theorem dX6_init_32 : decode cX6_init 32 = .ok (.putfield 21, 3) := by decide +kernel
theorem dX6_init_35 : decode cX6_init 35 = .ok (.return_, 1) := by decide +kernel
theorem dX6_hasPlaceFor_0 : decode cX6_hasPlaceFor 0 = .ok (.aload_n 0, 1) := by decide +kernel
theorem dX6_hasPlaceFor_1 : decode cX6_hasPlaceFor 1 = .ok (.getfield 24, 3) := by decide +kernel
theorem dX6_hasPlaceFor_4 : decode cX6_hasPlaceFor 4 = .ok (.iload_n 1, 1) := by decide +kernel
theorem dX6_hasPlaceFor_5 : decode cX6_hasPlaceFor 5 = .ok (.iadd, 1) := by decide +kernel
theorem dX6_hasPlaceFor_6 : decode cX6_hasPlaceFor 6 = .ok (.sipush 440, 3) := by decide +kernel
theorem dX6_hasPlaceFor_9 : decode cX6_hasPlaceFor 9 = .ok (.if_icmp .gt 7, 3) := by decide +kernel
theorem dX6_hasPlaceFor_12 : decode cX6_hasPlaceFor 12 = .ok (.iconst 1, 1) := by decide +kernel
theorem dX6_hasPlaceFor_13 : decode cX6_hasPlaceFor 13 = .ok (.goto 4, 3) := by decide +kernel
theorem dX6_hasPlaceFor_16 : decode cX6_hasPlaceFor 16 = .ok (.iconst 0, 1) := by decide +kernel
theorem dX6_hasPlaceFor_17 : decode cX6_hasPlaceFor 17 = .ok (.ireturn, 1) := by decide +kernel
theorem dX6_addNumber_0 : decode cX6_addNumber 0 = .ok (.bipush 24, 2) := by decide +kernel
theorem dX6_addNumber_2 : decode cX6_addNumber 2 = .ok (.istore_n 2, 1) := by decide +kernel
theorem dX6_addNumber_3 : decode cX6_addNumber 3 = .ok (.iload_n 2, 1) := by decide +kernel
theorem dX6_addNumber_4 : decode cX6_addNumber 4 = .ok (.ifCond .lt 42, 3) := by decide +kernel
theorem dX6_addNumber_7 : decode cX6_addNumber 7 = .ok (.aload_n 0, 1) := by decide +kernel
theorem dX6_addNumber_8 : decode cX6_addNumber 8 = .ok (.getfield 24, 3) := by decide +kernel
theorem dX6_addNumber_11 : decode cX6_addNumber 11 = .ok (.sipush 440, 3) := by decide +kernel
theorem dX6_addNumber_14 : decode cX6_addNumber 14 = .ok (.if_icmp .ge 32, 3) := by decide +kernel
theorem dX6_addNumber_17 : decode cX6_addNumber 17 = .ok (.aload_n 0, 1) := by decide +kernel
theorem dX6_addNumber_18 : decode cX6_addNumber 18 = .ok (.getfield 11, 3) := by decide +kernel
theorem dX6_addNumber_21 : decode cX6_addNumber 21 = .ok (.aload_n 0, 1) := by decide +kernel
theorem dX6_addNumber_22 : decode cX6_addNumber 22 = .ok (.dup, 1) := by decide +kernel
theorem dX6_addNumber_23 : decode cX6_addNumber 23 = .ok (.getfield 24, 3) := by decide +kernel
theorem dX6_addNumber_26 : decode cX6_addNumber 26 = .ok (.dup_x1, 1) := by decide +kernel
theorem dX6_addNumber_27 : decode cX6_addNumber 27 = .ok (.iconst 1, 1) := by decide +kernel
theorem dX6_addNumber_28 : decode cX6_addNumber 28 = .ok (.iadd, 1) := by decide +kernel
theorem dX6_addNumber_29 : decode cX6_addNumber 29 = .ok (.putfield 24, 3) := by decide +kernel
theorem dX6_addNumber_32 : decode cX6_addNumber 32 = .ok (.iload_n 1, 1) := by decide +kernel
theorem dX6_addNumber_33 : decode cX6_addNumber 33 = .ok (.iload_n 2, 1) := by decide +kernel
theorem dX6_addNumber_34 : decode cX6_addNumber 34 = .ok (.ishr, 1) := by decide +kernel
theorem dX6_addNumber_35 : decode cX6_addNumber 35 = .ok (.sipush 255, 3) := by decide +kernel
theorem dX6_addNumber_38 : decode cX6_addNumber 38 = .ok (.iand, 1) := by decide +kernel
theorem dX6_addNumber_39 : decode cX6_addNumber 39 = .ok (.iastore, 1) := by decide +kernel
theorem dX6_addNumber_40 : decode cX6_addNumber 40 = .ok (.iinc 2 (-8), 3) := by decide +kernel
theorem dX6_addNumber_43 : decode cX6_addNumber 43 = .ok (.goto (-40), 3) := by decide +kernel
theorem dX6_addNumber_46 : decode cX6_addNumber 46 = .ok (.return_, 1) := by decide +kernel
set_option maxRecDepth 20000 in
theorem ggX6_readStore_X6_start : GoodIn wsX6_readStore wsX6_start := goodIn_r _ [11, 12, 13, 14, 15, 16, 17, 18, 10, 19, 20, 21, 22, 23, 24, 25, 6, 26, 27, 28, 29, 30, 31, 32, 33, 131, 132, 133, 134, 135, 136, 137, 138, 139, 140, 141, 142, 143, 144, 145, 146, 147] (by decide +kernel) (by decide +kernel)
set_option maxRecDepth 20000 in
theorem gX6_readStore_X6_start : GoodIn wsX6_readStore (wsV RX6 46 RX6 yX6_start wsX6_start) := goodIn_app (goodIn_of _ (by decide +kernel)) ggX6_readStore_X6_start
set_option maxRecDepth 20000 in
theorem ggX6_readStore_X6_readLine : GoodIn wsX6_readStore wsX6_readLine := goodIn_r _ [37, 38, 39, 40, 10, 41, 6, 13, 15, 25, 42, 43, 44, 45, 46, 47, 48, 49, 50, 51, 52, 53, 54, 55, 56, 57, 58, 59, 60, 61, 62, 63, 64, 65, 66, 67, 68, 69, 70, 71, 72, 73, 74, 75, 76, 77, 78, 79, 80, 81, 82, 83, 84, 85, 86, 87, 88, 89, 90, 91, 92, 93, 94, 4, 2, 16, 17, 18, 19, 12, 20, 21, 22, 23, 24, 14, 26, 27, 28, 29, 30, 31, 32, 33, 95, 96, 97, 98, 99, 100, 101, 102, 5, 3, 103, 104, 105, 106, 1, 107, 108, 109, 110, 111, 112, 113, 114, 115, 116, 117, 118, 119, 120, 121, 131, 132, 133, 134, 135, 136, 137, 138, 139, 140, 141, 142, 143, 144, 145, 146, 147, 126, 127, 128, 129, 130] (by decide +kernel) (by decide +kernel)
set_option maxRecDepth 20000 in
theorem gX6_readStore_X6_readLine : GoodIn wsX6_readStore (wsV RX6 53 RX6 yX6_readLine wsX6_readLine) := goodIn_app (goodIn_of _ (by decide +kernel)) ggX6_readStore_X6_readLine
set_option maxRecDepth 20000 in
theorem ggX6_readStore_X6_take : GoodIn wsX6_readStore wsX6_take := goodIn_r _ [125, 6, 16, 17, 18, 10, 19, 12, 15, 20, 21, 22, 23, 24, 13, 14, 25, 26, 27, 28, 29, 30, 31, 32, 33, 131, 132, 133, 134, 135, 136, 137, 138, 139, 140, 141, 142, 143, 144, 145, 146, 147] (by decide +kernel) (by decide +kernel)
set_option maxRecDepth 20000 in
theorem gX6_readStore_X6_take : GoodIn wsX6_readStore (wsV RX6 57 RX6 yX6_take wsX6_take) := goodIn_app (goodIn_of _ (by decide +kernel)) ggX6_readStore_X6_take
theorem dX6_readStore_0 : decode cX6_readStore 0 = .ok (.aload_n 1, 1) := by decide +kernel
theorem dX6_readStore_1 : decode cX6_readStore 1 = .ok (.iconst 0, 1) := by decide +kernel
theorem dX6_readStore_2 : decode cX6_readStore 2 = .ok (.putfield 28, 3) := by decide +kernel
theorem dX6_readStore_5 : decode cX6_readStore 5 = .ok (.aload_n 0, 1) := by decide +kernel
theorem dX6_readStore_6 : decode cX6_readStore 6 = .ok (.bipush 6, 2) := by decide +kernel
theorem dX6_readStore_8 : decode cX6_readStore 8 = .ok (.putfield 33, 3) := by decide +kernel
theorem dX6_readStore_11 : decode cX6_readStore 11 = .ok (.aload_n 0, 1) := by decide +kernel
theorem dX6_readStore_12 : decode cX6_readStore 12 = .ok (.iconst 1, 1) := by decide +kernel
theorem dX6_readStore_13 : decode cX6_readStore 13 = .ok (.putfield 36, 3) := by decide +kernel
theorem dX6_readStore_16 : decode cX6_readStore 16 = .ok (.aload_n 0, 1) := by decide +kernel
theorem dX6_readStore_17 : decode cX6_readStore 17 = .ok (.iconst 0, 1) := by decide +kernel
theorem dX6_readStore_18 : decode cX6_readStore 18 = .ok (.putfield 39, 3) := by decide +kernel
theorem dX6_readStore_21 : decode cX6_readStore 21 = .ok (.aload_n 0, 1) := by decide +kernel
theorem dX6_readStore_22 : decode cX6_readStore 22 = .ok (.iconst 0, 1) := by decide +kernel
theorem dX6_readStore_23 : decode cX6_readStore 23 = .ok (.putfield 43, 3) := by decide +kernel
theorem dX6_readStore_26 : decode cX6_readStore 26 = .ok (.aload_n 0, 1) := by decide +kernel
theorem dX6_readStore_27 : decode cX6_readStore 27 = .ok (.invokevirtual 46, 3) := by decide +kernel
theorem dX6_readStore_30 : decode cX6_readStore 30 = .ok (.ifCond .ne 5, 3) := by decide +kernel
theorem dX6_readStore_33 : decode cX6_readStore 33 = .ok (.iconst 0, 1) := by decide +kernel
theorem dX6_readStore_34 : decode cX6_readStore 34 = .ok (.ireturn, 1) := by decide +kernel
theorem dX6_readStore_35 : decode cX6_readStore 35 = .ok (.iconst 0, 1) := by decide +kernel
theorem dX6_readStore_36 : decode cX6_readStore 36 = .ok (.istore_n 2, 1) := by decide +kernel
theorem dX6_readStore_37 : decode cX6_readStore 37 = .ok (.iload_n 2, 1) := by decide +kernel
theorem dX6_readStore_38 : decode cX6_readStore 38 = .ok (.sipush 400, 3) := by decide +kernel
theorem dX6_readStore_41 : decode cX6_readStore 41 = .ok (.if_icmp .ge 36, 3) := by decide +kernel
theorem dX6_readStore_44 : decode cX6_readStore 44 = .ok (.aload_n 0, 1) := by decide +kernel
theorem dX6_readStore_45 : decode cX6_readStore 45 = .ok (.getfield 50, 3) := by decide +kernel
theorem dX6_readStore_48 : decode cX6_readStore 48 = .ok (.iconst 1, 1) := by decide +kernel
theorem dX6_readStore_49 : decode cX6_readStore 49 = .ok (.if_icmp .eq 28, 3) := by decide +kernel
theorem dX6_readStore_52 : decode cX6_readStore 52 = .ok (.aload_n 0, 1) := by decide +kernel
theorem dX6_readStore_53 : decode cX6_readStore 53 = .ok (.aload_n 1, 1) := by decide +kernel
theorem dX6_readStore_54 : decode cX6_readStore 54 = .ok (.invokevirtual 53, 3) := by decide +kernel
theorem dX6_readStore_57 : decode cX6_readStore 57 = .ok (.ifCond .eq 12, 3) := by decide +kernel
theorem dX6_readStore_60 : decode cX6_readStore 60 = .ok (.aload_n 0, 1) := by decide +kernel
theorem dX6_readStore_61 : decode cX6_readStore 61 = .ok (.bipush 59, 2) := by decide +kernel
theorem dX6_readStore_63 : decode cX6_readStore 63 = .ok (.invokevirtual 57, 3) := by decide +kernel
theorem dX6_readStore_66 : decode cX6_readStore 66 = .ok (.ifCond .ne 5, 3) := by decide +kernel
theorem dX6_readStore_69 : decode cX6_readStore 69 = .ok (.iconst 0, 1) := by decide +kernel
theorem dX6_readStore_70 : decode cX6_readStore 70 = .ok (.ireturn, 1) := by decide +kernel
theorem dX6_readStore_71 : decode cX6_readStore 71 = .ok (.iinc 2 1, 3) := by decide +kernel
theorem dX6_readStore_74 : decode cX6_readStore 74 = .ok (.goto (-37), 3) := by decide +kernel
theorem dX6_readStore_77 : decode cX6_readStore 77 = .ok (.iconst 1, 1) := by decide +kernel
theorem dX6_readStore_78 : decode cX6_readStore 78 = .ok (.ireturn, 1) := by decide +kernel
set_option maxRecDepth 20000 in
theorem ggX6_readLine_X6_says : GoodIn wsX6_readLine wsX6_says := goodIn_r _ [5, 6, 7, 8, 9, 10, 11, 12, 13, 14, 15, 16, 17, 18, 19, 20, 21, 22, 23, 24, 25, 26, 27, 28, 29, 30, 31, 32, 33, 34, 35, 36, 37, 38, 39, 40, 41, 42, 43, 44, 45, 46, 47, 48, 49, 50, 51, 52, 53, 54, 55, 56, 57, 58, 114, 115, 116, 117, 118, 119, 120, 121, 122, 123, 124, 125, 126, 127, 128, 129, 130] (by decide +kernel) (by decide +kernel)
set_option maxRecDepth 20000 in
theorem gX6_readLine_X6_says : GoodIn wsX6_readLine (wsV RX6 62 RX6 yX6_says wsX6_says) := goodIn_app (goodIn_of _ (by decide +kernel)) ggX6_readLine_X6_says
set_option maxRecDepth 20000 in
theorem ggX6_readLine_X6_readRoom : GoodIn wsX6_readLine wsX6_readRoom := goodIn_r _ [62, 63, 64, 65, 66, 67, 4, 68, 69, 8, 70, 71, 72, 73, 74, 7, 75, 9, 6, 76, 77, 78, 79, 80, 81, 82, 83, 84, 85, 86, 87, 114, 115, 116, 117, 118, 119, 120, 121, 122, 123, 124, 125, 126, 127, 128, 129, 130] (by decide +kernel) (by decide +kernel)
set_option maxRecDepth 20000 in
theorem gX6_readLine_X6_readRoom : GoodIn wsX6_readLine (wsV RX6 66 RX6 yX6_readRoom wsX6_readRoom) := goodIn_app (goodIn_of _ (by decide +kernel)) ggX6_readLine_X6_readRoom
set_option maxRecDepth 20000 in
theorem ggX6_readLine_X6_readRule : GoodIn wsX6_readLine wsX6_readRule := goodIn_r _ [91, 92, 93, 65, 66, 67, 4, 68, 69, 8, 70, 71, 72, 73, 74, 7, 75, 9, 6, 76, 77, 78, 79, 80, 81, 82, 83, 1, 2, 3, 5, 10, 11, 12, 13, 14, 15, 16, 17, 18, 19, 20, 21, 22, 23, 24, 25, 26, 27, 28, 29, 30, 31, 32, 33, 34, 35, 36, 37, 38, 39, 40, 41, 42, 43, 44, 45, 46, 47, 48, 49, 50, 51, 52, 53, 54, 55, 56, 57, 58, 114, 115, 116, 117, 118, 119, 120, 121, 122, 123, 124, 125, 126, 127, 128, 129, 130] (by decide +kernel) (by decide +kernel)
set_option maxRecDepth 20000 in
theorem gX6_readLine_X6_readRule : GoodIn wsX6_readLine (wsV RX6 70 RX6 yX6_readRule wsX6_readRule) := goodIn_app (goodIn_of _ (by decide +kernel)) ggX6_readLine_X6_readRule
set_option maxRecDepth 20000 in
theorem ggX6_readLine_X6_readItem : GoodIn wsX6_readLine wsX6_readItem := goodIn_r _ [97, 98, 80, 99, 100, 101, 69, 102, 65, 66, 67, 4, 68, 8, 70, 71, 72, 73, 74, 7, 75, 9, 6, 76, 77, 78, 79, 81, 82, 83, 103, 104, 105, 106, 1, 2, 3, 5, 10, 11, 12, 13, 14, 15, 16, 17, 18, 19, 20, 21, 22, 23, 24, 25, 26, 27, 28, 29, 30, 31, 32, 33, 34, 35, 36, 37, 38, 39, 40, 41, 42, 43, 44, 45, 46, 47, 48, 49, 50, 51, 52, 53, 54, 55, 56, 57, 58, 107, 108, 109, 110, 111, 112, 113, 84, 85, 86, 87, 131, 132, 133, 134, 135, 114, 115, 116, 117, 118, 119, 120, 121, 122, 123, 124, 125, 126, 127, 128, 129, 130] (by decide +kernel) (by decide +kernel)
set_option maxRecDepth 20000 in
theorem gX6_readLine_X6_readItem : GoodIn wsX6_readLine (wsV RX6 75 RX6 yX6_readItem wsX6_readItem) := goodIn_app (goodIn_of _ (by decide +kernel)) ggX6_readLine_X6_readItem
set_option maxRecDepth 20000 in
theorem ggX6_readLine_X6_fail : GoodIn wsX6_readLine wsX6_fail := goodIn_r _ [68, 69, 8, 70, 114, 115, 116, 117, 118, 119, 120, 121, 122, 123, 124, 125, 126, 127, 128, 129, 130] (by decide +kernel) (by decide +kernel)
set_option maxRecDepth 20000 in
theorem gX6_readLine_X6_fail : GoodIn wsX6_readLine (wsV RX6 78 RX6 yX6_fail wsX6_fail) := goodIn_app (goodIn_of _ (by decide +kernel)) ggX6_readLine_X6_fail
theorem dX6_readLine_0 : decode cX6_readLine 0 = .ok (.aload_n 0, 1) := by decide +kernel
theorem dX6_readLine_1 : decode cX6_readLine 1 = .ok (.ldc 61, 2) := by decide +kernel
theorem dX6_readLine_3 : decode cX6_readLine 3 = .ok (.invokevirtual 62, 3) := by decide +kernel
theorem dX6_readLine_6 : decode cX6_readLine 6 = .ok (.ifCond .eq 8, 3) := by decide +kernel
theorem dX6_readLine_9 : decode cX6_readLine 9 = .ok (.aload_n 0, 1) := by decide +kernel
theorem dX6_readLine_10 : decode cX6_readLine 10 = .ok (.invokevirtual 66, 3) := by decide +kernel
theorem dX6_readLine_13 : decode cX6_readLine 13 = .ok (.ireturn, 1) := by decide +kernel
theorem dX6_readLine_14 : decode cX6_readLine 14 = .ok (.aload_n 0, 1) := by decide +kernel
theorem dX6_readLine_15 : decode cX6_readLine 15 = .ok (.ldc 69, 2) := by decide +kernel
theorem dX6_readLine_17 : decode cX6_readLine 17 = .ok (.invokevirtual 62, 3) := by decide +kernel
theorem dX6_readLine_20 : decode cX6_readLine 20 = .ok (.ifCond .eq 8, 3) := by decide +kernel
theorem dX6_readLine_23 : decode cX6_readLine 23 = .ok (.aload_n 0, 1) := by decide +kernel
theorem dX6_readLine_24 : decode cX6_readLine 24 = .ok (.invokevirtual 70, 3) := by decide +kernel
theorem dX6_readLine_27 : decode cX6_readLine 27 = .ok (.ireturn, 1) := by decide +kernel
theorem dX6_readLine_28 : decode cX6_readLine 28 = .ok (.aload_n 0, 1) := by decide +kernel
theorem dX6_readLine_29 : decode cX6_readLine 29 = .ok (.ldc 73, 2) := by decide +kernel
theorem dX6_readLine_31 : decode cX6_readLine 31 = .ok (.invokevirtual 62, 3) := by decide +kernel
theorem dX6_readLine_34 : decode cX6_readLine 34 = .ok (.ifCond .eq 11, 3) := by decide +kernel
theorem dX6_readLine_37 : decode cX6_readLine 37 = .ok (.aload_n 0, 1) := by decide +kernel
theorem dX6_readLine_38 : decode cX6_readLine 38 = .ok (.aload_n 1, 1) := by decide +kernel
theorem dX6_readLine_39 : decode cX6_readLine 39 = .ok (.invokevirtual 75, 3) := by decide +kernel
theorem dX6_readLine_42 : decode cX6_readLine 42 = .ok (.goto 8, 3) := by decide +kernel
theorem dX6_readLine_45 : decode cX6_readLine 45 = .ok (.aload_n 0, 1) := by decide +kernel
theorem dX6_readLine_46 : decode cX6_readLine 46 = .ok (.iconst 1, 1) := by decide +kernel
theorem dX6_readLine_47 : decode cX6_readLine 47 = .ok (.invokevirtual 78, 3) := by decide +kernel
theorem dX6_readLine_50 : decode cX6_readLine 50 = .ok (.ireturn, 1) := by decide +kernel
set_option maxRecDepth 20000 in
theorem ggX6_readRoom_X6_fail : GoodIn wsX6_readRoom wsX6_fail := goodIn_r _ [7, 8, 9, 10, 31, 32, 33, 34, 35, 36, 37, 38, 39, 40, 41, 42, 43, 44, 45, 46, 47] (by decide +kernel) (by decide +kernel)
set_option maxRecDepth 20000 in
theorem gX6_readRoom_X6_fail : GoodIn wsX6_readRoom (wsV RX6 78 RX6 yX6_fail wsX6_fail) := goodIn_app (goodIn_of _ (by decide +kernel)) ggX6_readRoom_X6_fail
set_option maxRecDepth 20000 in
theorem ggX6_readRoom_X6_advance : GoodIn wsX6_readRoom wsX6_advance := goodIn_r _ [14, 15, 16, 17, 9, 18, 19, 20, 21, 6, 22, 23, 24, 25, 26, 31, 32, 33, 34, 35, 36, 37, 38, 39, 40, 41, 42, 43, 44, 45, 46, 47] (by decide +kernel) (by decide +kernel)
set_option maxRecDepth 20000 in
theorem gX6_readRoom_X6_advance : GoodIn wsX6_readRoom (wsV RX6 81 RX6 yX6_advance wsX6_advance) := goodIn_app (goodIn_of _ (by decide +kernel)) ggX6_readRoom_X6_advance
set_option maxRecDepth 20000 in
theorem ggX6_readRoom_X6_takeNumber : GoodIn wsX6_readRoom wsX6_takeNumber := goodIn_r _ [30, 23, 18, 3, 4, 5, 6, 7, 8, 9, 10, 11, 12, 13, 14, 15, 16, 17, 19, 20, 21, 22, 24, 25, 26, 31, 32, 33, 34, 35, 36, 37, 38, 39, 40, 41, 42, 43, 44, 45, 46, 47] (by decide +kernel) (by decide +kernel)
set_option maxRecDepth 20000 in
theorem gX6_readRoom_X6_takeNumber : GoodIn wsX6_readRoom (wsV RX6 84 RX6 yX6_takeNumber wsX6_takeNumber) := goodIn_app (goodIn_of _ (by decide +kernel)) ggX6_readRoom_X6_takeNumber
theorem dX6_readRoom_0 : decode cX6_readRoom 0 = .ok (.aload_n 0, 1) := by decide +kernel
theorem dX6_readRoom_1 : decode cX6_readRoom 1 = .ok (.getfield 39, 3) := by decide +kernel
theorem dX6_readRoom_4 : decode cX6_readRoom 4 = .ok (.ifCond .eq 9, 3) := by decide +kernel
theorem dX6_readRoom_7 : decode cX6_readRoom 7 = .ok (.aload_n 0, 1) := by decide +kernel
theorem dX6_readRoom_8 : decode cX6_readRoom 8 = .ok (.iconst 3, 1) := by decide +kernel
theorem dX6_readRoom_9 : decode cX6_readRoom 9 = .ok (.invokevirtual 78, 3) := by decide +kernel
theorem dX6_readRoom_12 : decode cX6_readRoom 12 = .ok (.ireturn, 1) := by decide +kernel
theorem dX6_readRoom_13 : decode cX6_readRoom 13 = .ok (.aload_n 0, 1) := by decide +kernel
theorem dX6_readRoom_14 : decode cX6_readRoom 14 = .ok (.iconst 1, 1) := by decide +kernel
theorem dX6_readRoom_15 : decode cX6_readRoom 15 = .ok (.putfield 39, 3) := by decide +kernel
theorem dX6_readRoom_18 : decode cX6_readRoom 18 = .ok (.aload_n 0, 1) := by decide +kernel
theorem dX6_readRoom_19 : decode cX6_readRoom 19 = .ok (.invokevirtual 81, 3) := by decide +kernel
theorem dX6_readRoom_22 : decode cX6_readRoom 22 = .ok (.aload_n 0, 1) := by decide +kernel
theorem dX6_readRoom_23 : decode cX6_readRoom 23 = .ok (.aload_n 0, 1) := by decide +kernel
theorem dX6_readRoom_24 : decode cX6_readRoom 24 = .ok (.iconst 1, 1) := by decide +kernel
theorem dX6_readRoom_25 : decode cX6_readRoom 25 = .ok (.bipush 20, 2) := by decide +kernel
theorem dX6_readRoom_27 : decode cX6_readRoom 27 = .ok (.invokevirtual 84, 3) := by decide +kernel
theorem dX6_readRoom_30 : decode cX6_readRoom 30 = .ok (.putfield 33, 3) := by decide +kernel
theorem dX6_readRoom_33 : decode cX6_readRoom 33 = .ok (.aload_n 0, 1) := by decide +kernel
theorem dX6_readRoom_34 : decode cX6_readRoom 34 = .ok (.getfield 33, 3) := by decide +kernel
theorem dX6_readRoom_37 : decode cX6_readRoom 37 = .ok (.iconst (-1), 1) := by decide +kernel
theorem dX6_readRoom_38 : decode cX6_readRoom 38 = .ok (.if_icmp .eq 7, 3) := by decide +kernel
theorem dX6_readRoom_41 : decode cX6_readRoom 41 = .ok (.iconst 1, 1) := by decide +kernel
theorem dX6_readRoom_42 : decode cX6_readRoom 42 = .ok (.goto 4, 3) := by decide +kernel
theorem dX6_readRoom_45 : decode cX6_readRoom 45 = .ok (.iconst 0, 1) := by decide +kernel
theorem dX6_readRoom_46 : decode cX6_readRoom 46 = .ok (.ireturn, 1) := by decide +kernel
set_option maxRecDepth 20000 in
theorem ggX6_readRule_X6_fail : GoodIn wsX6_readRule wsX6_fail := goodIn_r _ [7, 8, 9, 10, 80, 81, 82, 83, 84, 85, 86, 87, 88, 89, 90, 91, 92, 93, 94, 95, 96] (by decide +kernel) (by decide +kernel)
set_option maxRecDepth 20000 in
theorem gX6_readRule_X6_fail : GoodIn wsX6_readRule (wsV RX6 78 RX6 yX6_fail wsX6_fail) := goodIn_app (goodIn_of _ (by decide +kernel)) ggX6_readRule_X6_fail
set_option maxRecDepth 20000 in
theorem ggX6_readRule_X6_advance : GoodIn wsX6_readRule wsX6_advance := goodIn_r _ [14, 15, 16, 17, 9, 18, 19, 20, 21, 6, 22, 23, 24, 25, 26, 80, 81, 82, 83, 84, 85, 86, 87, 88, 89, 90, 91, 92, 93, 94, 95, 96] (by decide +kernel) (by decide +kernel)
set_option maxRecDepth 20000 in
theorem gX6_readRule_X6_advance : GoodIn wsX6_readRule (wsV RX6 81 RX6 yX6_advance wsX6_advance) := goodIn_app (goodIn_of _ (by decide +kernel)) ggX6_readRule_X6_advance
set_option maxRecDepth 20000 in
theorem ggX6_readRule_X6_says : GoodIn wsX6_readRule wsX6_says := goodIn_r _ [30, 18, 15, 9, 17, 31, 32, 33, 34, 35, 36, 37, 38, 39, 40, 41, 42, 43, 44, 45, 46, 47, 48, 49, 50, 51, 52, 53, 54, 55, 56, 57, 58, 59, 60, 61, 62, 63, 64, 65, 66, 67, 68, 69, 70, 71, 72, 73, 74, 75, 76, 77, 78, 79, 80, 81, 82, 83, 84, 85, 86, 87, 88, 89, 90, 91, 92, 93, 94, 95, 96] (by decide +kernel) (by decide +kernel)
set_option maxRecDepth 20000 in
theorem gX6_readRule_X6_says : GoodIn wsX6_readRule (wsV RX6 62 RX6 yX6_says wsX6_says) := goodIn_app (goodIn_of _ (by decide +kernel)) ggX6_readRule_X6_says
theorem dX6_readRule_0 : decode cX6_readRule 0 = .ok (.aload_n 0, 1) := by decide +kernel
theorem dX6_readRule_1 : decode cX6_readRule 1 = .ok (.getfield 43, 3) := by decide +kernel
theorem dX6_readRule_4 : decode cX6_readRule 4 = .ok (.ifCond .eq 9, 3) := by decide +kernel
theorem dX6_readRule_7 : decode cX6_readRule 7 = .ok (.aload_n 0, 1) := by decide +kernel
theorem dX6_readRule_8 : decode cX6_readRule 8 = .ok (.iconst 3, 1) := by decide +kernel
theorem dX6_readRule_9 : decode cX6_readRule 9 = .ok (.invokevirtual 78, 3) := by decide +kernel
theorem dX6_readRule_12 : decode cX6_readRule 12 = .ok (.ireturn, 1) := by decide +kernel
theorem dX6_readRule_13 : decode cX6_readRule 13 = .ok (.aload_n 0, 1) := by decide +kernel
theorem dX6_readRule_14 : decode cX6_readRule 14 = .ok (.iconst 1, 1) := by decide +kernel
theorem dX6_readRule_15 : decode cX6_readRule 15 = .ok (.putfield 43, 3) := by decide +kernel
theorem dX6_readRule_18 : decode cX6_readRule 18 = .ok (.aload_n 0, 1) := by decide +kernel
theorem dX6_readRule_19 : decode cX6_readRule 19 = .ok (.invokevirtual 81, 3) := by decide +kernel
theorem dX6_readRule_22 : decode cX6_readRule 22 = .ok (.aload_n 0, 1) := by decide +kernel
theorem dX6_readRule_23 : decode cX6_readRule 23 = .ok (.aload_n 0, 1) := by decide +kernel
theorem dX6_readRule_24 : decode cX6_readRule 24 = .ok (.ldc 88, 2) := by decide +kernel
theorem dX6_readRule_26 : decode cX6_readRule 26 = .ok (.invokevirtual 62, 3) := by decide +kernel
theorem dX6_readRule_29 : decode cX6_readRule 29 = .ok (.ifCond .eq 7, 3) := by decide +kernel
theorem dX6_readRule_32 : decode cX6_readRule 32 = .ok (.iconst 0, 1) := by decide +kernel
theorem dX6_readRule_33 : decode cX6_readRule 33 = .ok (.goto 30, 3) := by decide +kernel
theorem dX6_readRule_36 : decode cX6_readRule 36 = .ok (.aload_n 0, 1) := by decide +kernel
theorem dX6_readRule_37 : decode cX6_readRule 37 = .ok (.ldc 90, 2) := by decide +kernel
theorem dX6_readRule_39 : decode cX6_readRule 39 = .ok (.invokevirtual 62, 3) := by decide +kernel
theorem dX6_readRule_42 : decode cX6_readRule 42 = .ok (.ifCond .eq 7, 3) := by decide +kernel
theorem dX6_readRule_45 : decode cX6_readRule 45 = .ok (.iconst 1, 1) := by decide +kernel
theorem dX6_readRule_46 : decode cX6_readRule 46 = .ok (.goto 17, 3) := by decide +kernel
theorem dX6_readRule_49 : decode cX6_readRule 49 = .ok (.aload_n 0, 1) := by decide +kernel
theorem dX6_readRule_50 : decode cX6_readRule 50 = .ok (.ldc 92, 2) := by decide +kernel
theorem dX6_readRule_52 : decode cX6_readRule 52 = .ok (.invokevirtual 62, 3) := by decide +kernel
theorem dX6_readRule_55 : decode cX6_readRule 55 = .ok (.ifCond .eq 7, 3) := by decide +kernel
theorem dX6_readRule_58 : decode cX6_readRule 58 = .ok (.iconst 2, 1) := by decide +kernel
theorem dX6_readRule_59 : decode cX6_readRule 59 = .ok (.goto 4, 3) := by decide +kernel
theorem dX6_readRule_62 : decode cX6_readRule 62 = .ok (.iconst (-1), 1) := by decide +kernel
theorem dX6_readRule_63 : decode cX6_readRule 63 = .ok (.putfield 36, 3) := by decide +kernel
theorem dX6_readRule_66 : decode cX6_readRule 66 = .ok (.aload_n 0, 1) := by decide +kernel
theorem dX6_readRule_67 : decode cX6_readRule 67 = .ok (.getfield 36, 3) := by decide +kernel
theorem dX6_readRule_70 : decode cX6_readRule 70 = .ok (.iconst (-1), 1) := by decide +kernel
theorem dX6_readRule_71 : decode cX6_readRule 71 = .ok (.if_icmp .ne 9, 3) := by decide +kernel
theorem dX6_readRule_74 : decode cX6_readRule 74 = .ok (.aload_n 0, 1) := by decide +kernel
theorem dX6_readRule_75 : decode cX6_readRule 75 = .ok (.iconst 1, 1) := by decide +kernel
theorem dX6_readRule_76 : decode cX6_readRule 76 = .ok (.invokevirtual 78, 3) := by decide +kernel
theorem dX6_readRule_79 : decode cX6_readRule 79 = .ok (.ireturn, 1) := by decide +kernel
theorem dX6_readRule_80 : decode cX6_readRule 80 = .ok (.aload_n 0, 1) := by decide +kernel
theorem dX6_readRule_81 : decode cX6_readRule 81 = .ok (.invokevirtual 81, 3) := by decide +kernel
theorem dX6_readRule_84 : decode cX6_readRule 84 = .ok (.iconst 1, 1) := by decide +kernel
theorem dX6_readRule_85 : decode cX6_readRule 85 = .ok (.ireturn, 1) := by decide +kernel
set_option maxRecDepth 20000 in
theorem ggX6_readItem_X6_fail : GoodIn wsX6_readItem wsX6_fail := goodIn_r _ [12, 6, 13, 14, 103, 104, 105, 106, 107, 108, 109, 110, 111, 112, 113, 114, 115, 116, 117, 118, 119] (by decide +kernel) (by decide +kernel)
set_option maxRecDepth 20000 in
theorem gX6_readItem_X6_fail : GoodIn wsX6_readItem (wsV RX6 78 RX6 yX6_fail wsX6_fail) := goodIn_app (goodIn_of _ (by decide +kernel)) ggX6_readItem_X6_fail
set_option maxRecDepth 20000 in
theorem ggX6_readItem_X6_advance : GoodIn wsX6_readItem wsX6_advance := goodIn_r _ [18, 19, 20, 21, 13, 22, 23, 24, 25, 11, 26, 2, 27, 28, 29, 103, 104, 105, 106, 107, 108, 109, 110, 111, 112, 113, 114, 115, 116, 117, 118, 119] (by decide +kernel) (by decide +kernel)
set_option maxRecDepth 20000 in
theorem gX6_readItem_X6_advance : GoodIn wsX6_readItem (wsV RX6 81 RX6 yX6_advance wsX6_advance) := goodIn_app (goodIn_of _ (by decide +kernel)) ggX6_readItem_X6_advance
set_option maxRecDepth 20000 in
theorem ggX6_readItem_X6_isName : GoodIn wsX6_readItem wsX6_isName := goodIn_r _ [33, 22, 34, 35, 36, 11, 37, 19, 13, 21, 38, 39, 40, 41, 42, 43, 44, 45, 46, 47, 48, 49, 50, 51, 52, 53, 54, 55, 56, 57, 58, 59, 60, 61, 62, 63, 64, 65, 66, 67, 68, 69, 70, 71, 72, 73, 74, 75, 76, 77, 78, 79, 80, 81, 82, 83, 84, 85, 86, 103, 104, 105, 106, 107, 108, 109, 110, 111, 112, 113, 114, 115, 116, 117, 118, 119] (by decide +kernel) (by decide +kernel)
set_option maxRecDepth 20000 in
theorem gX6_readItem_X6_isName : GoodIn wsX6_readItem (wsV RX6 94 RX6 yX6_isName wsX6_isName) := goodIn_app (goodIn_of _ (by decide +kernel)) ggX6_readItem_X6_isName
set_option maxRecDepth 20000 in
theorem ggX6_readItem_X10_numberOf : GoodIn wsX6_readItem wsX10_numberOf := goodIn_r _ [91, 92, 93, 98, 99, 100, 101, 102] (by decide +kernel) (by decide +kernel)
set_option maxRecDepth 20000 in
theorem gX6_readItem_X10_numberOf : GoodIn wsX6_readItem (wsV RX6 100 RX10 yX10_numberOf wsX10_numberOf) := goodIn_app (goodIn_of _ (by decide +kernel)) ggX6_readItem_X10_numberOf
set_option maxRecDepth 20000 in
theorem ggX6_readItem_X6_takeNumber : GoodIn wsX6_readItem wsX6_takeNumber := goodIn_r _ [97, 2, 22, 8, 9, 10, 11, 12, 6, 13, 14, 15, 16, 17, 18, 19, 20, 21, 23, 24, 25, 26, 27, 28, 29, 103, 104, 105, 106, 107, 108, 109, 110, 111, 112, 113, 114, 115, 116, 117, 118, 119] (by decide +kernel) (by decide +kernel)
set_option maxRecDepth 20000 in
theorem gX6_readItem_X6_takeNumber : GoodIn wsX6_readItem (wsV RX6 84 RX6 yX6_takeNumber wsX6_takeNumber) := goodIn_app (goodIn_of _ (by decide +kernel)) ggX6_readItem_X6_takeNumber
theorem dX6_readItem_0 : decode cX6_readItem 0 = .ok (.aload_n 1, 1) := by decide +kernel
theorem dX6_readItem_1 : decode cX6_readItem 1 = .ok (.getfield 28, 3) := by decide +kernel
theorem dX6_readItem_4 : decode cX6_readItem 4 = .ok (.istore_n 2, 1) := by decide +kernel
theorem dX6_readItem_5 : decode cX6_readItem 5 = .ok (.iload_n 2, 1) := by decide +kernel
theorem dX6_readItem_6 : decode cX6_readItem 6 = .ok (.bipush 8, 2) := by decide +kernel
theorem dX6_readItem_8 : decode cX6_readItem 8 = .ok (.if_icmp .lt 9, 3) := by decide +kernel
theorem dX6_readItem_11 : decode cX6_readItem 11 = .ok (.aload_n 0, 1) := by decide +kernel
theorem dX6_readItem_12 : decode cX6_readItem 12 = .ok (.iconst 4, 1) := by decide +kernel
theorem dX6_readItem_13 : decode cX6_readItem 13 = .ok (.invokevirtual 78, 3) := by decide +kernel
theorem dX6_readItem_16 : decode cX6_readItem 16 = .ok (.ireturn, 1) := by decide +kernel
theorem dX6_readItem_17 : decode cX6_readItem 17 = .ok (.aload_n 0, 1) := by decide +kernel
theorem dX6_readItem_18 : decode cX6_readItem 18 = .ok (.invokevirtual 81, 3) := by decide +kernel
theorem dX6_readItem_21 : decode cX6_readItem 21 = .ok (.aload_n 0, 1) := by decide +kernel
theorem dX6_readItem_22 : decode cX6_readItem 22 = .ok (.invokevirtual 94, 3) := by decide +kernel
theorem dX6_readItem_25 : decode cX6_readItem 25 = .ok (.ifCond .ne 9, 3) := by decide +kernel
theorem dX6_readItem_28 : decode cX6_readItem 28 = .ok (.aload_n 0, 1) := by decide +kernel
theorem dX6_readItem_29 : decode cX6_readItem 29 = .ok (.iconst 1, 1) := by decide +kernel
theorem dX6_readItem_30 : decode cX6_readItem 30 = .ok (.invokevirtual 78, 3) := by decide +kernel
theorem dX6_readItem_33 : decode cX6_readItem 33 = .ok (.ireturn, 1) := by decide +kernel
theorem dX6_readItem_34 : decode cX6_readItem 34 = .ok (.aload_n 1, 1) := by decide +kernel
theorem dX6_readItem_35 : decode cX6_readItem 35 = .ok (.aload_n 0, 1) := by decide +kernel
theorem dX6_readItem_36 : decode cX6_readItem 36 = .ok (.getfield 97, 3) := by decide +kernel
theorem dX6_readItem_39 : decode cX6_readItem 39 = .ok (.invokevirtual 100, 3) := by decide +kernel
theorem dX6_readItem_42 : decode cX6_readItem 42 = .ok (.iconst (-1), 1) := by decide +kernel
theorem dX6_readItem_43 : decode cX6_readItem 43 = .ok (.if_icmp .eq 9, 3) := by decide +kernel
theorem dX6_readItem_46 : decode cX6_readItem 46 = .ok (.aload_n 0, 1) := by decide +kernel
theorem dX6_readItem_47 : decode cX6_readItem 47 = .ok (.iconst 3, 1) := by decide +kernel
theorem dX6_readItem_48 : decode cX6_readItem 48 = .ok (.invokevirtual 78, 3) := by decide +kernel
theorem dX6_readItem_51 : decode cX6_readItem 51 = .ok (.ireturn, 1) := by decide +kernel
theorem dX6_readItem_52 : decode cX6_readItem 52 = .ok (.aload_n 1, 1) := by decide +kernel
theorem dX6_readItem_53 : decode cX6_readItem 53 = .ok (.getfield 104, 3) := by decide +kernel
theorem dX6_readItem_56 : decode cX6_readItem 56 = .ok (.iload_n 2, 1) := by decide +kernel
theorem dX6_readItem_57 : decode cX6_readItem 57 = .ok (.aload_n 0, 1) := by decide +kernel
theorem dX6_readItem_58 : decode cX6_readItem 58 = .ok (.getfield 97, 3) := by decide +kernel
theorem dX6_readItem_61 : decode cX6_readItem 61 = .ok (.iastore, 1) := by decide +kernel
theorem dX6_readItem_62 : decode cX6_readItem 62 = .ok (.aload_n 0, 1) := by decide +kernel
theorem dX6_readItem_63 : decode cX6_readItem 63 = .ok (.invokevirtual 81, 3) := by decide +kernel
theorem dX6_readItem_66 : decode cX6_readItem 66 = .ok (.aload_n 1, 1) := by decide +kernel
theorem dX6_readItem_67 : decode cX6_readItem 67 = .ok (.getfield 107, 3) := by decide +kernel
theorem dX6_readItem_70 : decode cX6_readItem 70 = .ok (.iload_n 2, 1) := by decide +kernel
theorem dX6_readItem_71 : decode cX6_readItem 71 = .ok (.aload_n 0, 1) := by decide +kernel
theorem dX6_readItem_72 : decode cX6_readItem 72 = .ok (.iconst 1, 1) := by decide +kernel
theorem dX6_readItem_73 : decode cX6_readItem 73 = .ok (.bipush 6, 2) := by decide +kernel
theorem dX6_readItem_75 : decode cX6_readItem 75 = .ok (.invokevirtual 84, 3) := by decide +kernel
theorem dX6_readItem_78 : decode cX6_readItem 78 = .ok (.iastore, 1) := by decide +kernel
theorem dX6_readItem_79 : decode cX6_readItem 79 = .ok (.aload_n 1, 1) := by decide +kernel
theorem dX6_readItem_80 : decode cX6_readItem 80 = .ok (.getfield 110, 3) := by decide +kernel
theorem dX6_readItem_83 : decode cX6_readItem 83 = .ok (.iload_n 2, 1) := by decide +kernel
theorem dX6_readItem_84 : decode cX6_readItem 84 = .ok (.aload_n 0, 1) := by decide +kernel
theorem dX6_readItem_85 : decode cX6_readItem 85 = .ok (.getfield 113, 3) := by decide +kernel
theorem dX6_readItem_88 : decode cX6_readItem 88 = .ok (.ifCond .ne 13, 3) := by decide +kernel
theorem dX6_readItem_91 : decode cX6_readItem 91 = .ok (.aload_n 0, 1) := by decide +kernel
theorem dX6_readItem_92 : decode cX6_readItem 92 = .ok (.iconst 1, 1) := by decide +kernel
theorem dX6_readItem_93 : decode cX6_readItem 93 = .ok (.bipush 60, 2) := by decide +kernel
theorem dX6_readItem_95 : decode cX6_readItem 95 = .ok (.invokevirtual 84, 3) := by decide +kernel
theorem dX6_readItem_98 : decode cX6_readItem 98 = .ok (.goto 4, 3) := by decide +kernel
theorem dX6_readItem_101 : decode cX6_readItem 101 = .ok (.iconst (-1), 1) := by decide +kernel
theorem dX6_readItem_102 : decode cX6_readItem 102 = .ok (.iastore, 1) := by decide +kernel
theorem dX6_readItem_103 : decode cX6_readItem 103 = .ok (.aload_n 1, 1) := by decide +kernel
theorem dX6_readItem_104 : decode cX6_readItem 104 = .ok (.getfield 116, 3) := by decide +kernel
theorem dX6_readItem_107 : decode cX6_readItem 107 = .ok (.iload_n 2, 1) := by decide +kernel
theorem dX6_readItem_108 : decode cX6_readItem 108 = .ok (.aload_n 0, 1) := by decide +kernel
theorem dX6_readItem_109 : decode cX6_readItem 109 = .ok (.getfield 113, 3) := by decide +kernel
theorem dX6_readItem_112 : decode cX6_readItem 112 = .ok (.ifCond .ne 13, 3) := by decide +kernel
theorem dX6_readItem_115 : decode cX6_readItem 115 = .ok (.aload_n 0, 1) := by decide +kernel
theorem dX6_readItem_116 : decode cX6_readItem 116 = .ok (.iconst 1, 1) := by decide +kernel
theorem dX6_readItem_117 : decode cX6_readItem 117 = .ok (.bipush 20, 2) := by decide +kernel
theorem dX6_readItem_119 : decode cX6_readItem 119 = .ok (.invokevirtual 84, 3) := by decide +kernel
theorem dX6_readItem_122 : decode cX6_readItem 122 = .ok (.goto 4, 3) := by decide +kernel
theorem dX6_readItem_125 : decode cX6_readItem 125 = .ok (.iconst (-1), 1) := by decide +kernel
theorem dX6_readItem_126 : decode cX6_readItem 126 = .ok (.iastore, 1) := by decide +kernel
theorem dX6_readItem_127 : decode cX6_readItem 127 = .ok (.aload_n 1, 1) := by decide +kernel
theorem dX6_readItem_128 : decode cX6_readItem 128 = .ok (.dup, 1) := by decide +kernel
theorem dX6_readItem_129 : decode cX6_readItem 129 = .ok (.getfield 28, 3) := by decide +kernel
theorem dX6_readItem_132 : decode cX6_readItem 132 = .ok (.iconst 1, 1) := by decide +kernel
theorem dX6_readItem_133 : decode cX6_readItem 133 = .ok (.iadd, 1) := by decide +kernel
theorem dX6_readItem_134 : decode cX6_readItem 134 = .ok (.putfield 28, 3) := by decide +kernel
theorem dX6_readItem_137 : decode cX6_readItem 137 = .ok (.aload_n 0, 1) := by decide +kernel
theorem dX6_readItem_138 : decode cX6_readItem 138 = .ok (.getfield 113, 3) := by decide +kernel
theorem dX6_readItem_141 : decode cX6_readItem 141 = .ok (.ifCond .ne 7, 3) := by decide +kernel
theorem dX6_readItem_144 : decode cX6_readItem 144 = .ok (.iconst 1, 1) := by decide +kernel
theorem dX6_readItem_145 : decode cX6_readItem 145 = .ok (.goto 4, 3) := by decide +kernel
theorem dX6_readItem_148 : decode cX6_readItem 148 = .ok (.iconst 0, 1) := by decide +kernel
theorem dX6_readItem_149 : decode cX6_readItem 149 = .ok (.ireturn, 1) := by decide +kernel
set_option maxRecDepth 20000 in
theorem ggX6_readSteps_X6_start : GoodIn wsX6_readSteps wsX6_start := goodIn_r _ [8, 9, 10, 11, 12, 13, 14, 15, 7, 16, 17, 18, 19, 20, 21, 22, 3, 23, 24, 25, 26, 27, 28, 29, 30, 122, 123, 124, 125, 126, 127, 128, 129, 130, 131, 132, 133, 134, 135, 136, 137, 138] (by decide +kernel) (by decide +kernel)
set_option maxRecDepth 20000 in
theorem gX6_readSteps_X6_start : GoodIn wsX6_readSteps (wsV RX6 46 RX6 yX6_start wsX6_start) := goodIn_app (goodIn_of _ (by decide +kernel)) ggX6_readSteps_X6_start
set_option maxRecDepth 20000 in
theorem ggX6_readSteps_X6_readStep : GoodIn wsX6_readSteps wsX6_readStep := goodIn_r _ [34, 3, 2, 27, 35, 36, 37, 7, 38, 10, 12, 22, 39, 40, 41, 42, 43, 44, 45, 46, 47, 48, 49, 50, 51, 52, 53, 54, 55, 56, 57, 58, 59, 60, 61, 62, 63, 64, 65, 66, 67, 68, 69, 70, 71, 72, 73, 74, 75, 76, 77, 78, 79, 80, 81, 82, 83, 84, 85, 86, 87, 88, 89, 90, 91, 92, 93, 1, 13, 14, 15, 16, 9, 17, 18, 19, 20, 21, 11, 23, 24, 25, 26, 28, 29, 30, 94, 95, 96, 97, 98, 99, 100, 101, 102, 103, 104, 105, 106, 107, 108, 109, 110, 111, 112, 113, 114, 115, 116, 117, 118, 119, 120, 121, 122, 123, 124, 125, 126, 127, 128, 129, 130, 131, 132, 133, 134, 135, 136, 137, 138, 139, 140, 141, 142, 143] (by decide +kernel) (by decide +kernel)
set_option maxRecDepth 20000 in
theorem gX6_readSteps_X6_readStep : GoodIn wsX6_readSteps (wsV RX6 124 RX6 yX6_readStep wsX6_readStep) := goodIn_app (goodIn_of _ (by decide +kernel)) ggX6_readSteps_X6_readStep
theorem dX6_readSteps_0 : decode cX6_readSteps 0 = .ok (.aload_n 0, 1) := by decide +kernel
theorem dX6_readSteps_1 : decode cX6_readSteps 1 = .ok (.iconst 0, 1) := by decide +kernel
theorem dX6_readSteps_2 : decode cX6_readSteps 2 = .ok (.putfield 118, 3) := by decide +kernel
theorem dX6_readSteps_5 : decode cX6_readSteps 5 = .ok (.aload_n 0, 1) := by decide +kernel
theorem dX6_readSteps_6 : decode cX6_readSteps 6 = .ok (.iconst 0, 1) := by decide +kernel
theorem dX6_readSteps_7 : decode cX6_readSteps 7 = .ok (.putfield 121, 3) := by decide +kernel
theorem dX6_readSteps_10 : decode cX6_readSteps 10 = .ok (.aload_n 0, 1) := by decide +kernel
theorem dX6_readSteps_11 : decode cX6_readSteps 11 = .ok (.invokevirtual 46, 3) := by decide +kernel
theorem dX6_readSteps_14 : decode cX6_readSteps 14 = .ok (.ifCond .ne 5, 3) := by decide +kernel
theorem dX6_readSteps_17 : decode cX6_readSteps 17 = .ok (.iconst 0, 1) := by decide +kernel
theorem dX6_readSteps_18 : decode cX6_readSteps 18 = .ok (.ireturn, 1) := by decide +kernel
theorem dX6_readSteps_19 : decode cX6_readSteps 19 = .ok (.iconst 0, 1) := by decide +kernel
theorem dX6_readSteps_20 : decode cX6_readSteps 20 = .ok (.istore_n 2, 1) := by decide +kernel
theorem dX6_readSteps_21 : decode cX6_readSteps 21 = .ok (.iload_n 2, 1) := by decide +kernel
theorem dX6_readSteps_22 : decode cX6_readSteps 22 = .ok (.sipush 400, 3) := by decide +kernel
theorem dX6_readSteps_25 : decode cX6_readSteps 25 = .ok (.if_icmp .ge 34, 3) := by decide +kernel
theorem dX6_readSteps_28 : decode cX6_readSteps 28 = .ok (.aload_n 0, 1) := by decide +kernel
theorem dX6_readSteps_29 : decode cX6_readSteps 29 = .ok (.getfield 50, 3) := by decide +kernel
theorem dX6_readSteps_32 : decode cX6_readSteps 32 = .ok (.iconst 1, 1) := by decide +kernel
theorem dX6_readSteps_33 : decode cX6_readSteps 33 = .ok (.if_icmp .ne 10, 3) := by decide +kernel
theorem dX6_readSteps_36 : decode cX6_readSteps 36 = .ok (.aload_n 0, 1) := by decide +kernel
theorem dX6_readSteps_37 : decode cX6_readSteps 37 = .ok (.getfield 121, 3) := by decide +kernel
theorem dX6_readSteps_40 : decode cX6_readSteps 40 = .ok (.ifCond .le 19, 3) := by decide +kernel
theorem dX6_readSteps_43 : decode cX6_readSteps 43 = .ok (.aload_n 0, 1) := by decide +kernel
theorem dX6_readSteps_44 : decode cX6_readSteps 44 = .ok (.aload_n 1, 1) := by decide +kernel
theorem dX6_readSteps_45 : decode cX6_readSteps 45 = .ok (.invokevirtual 124, 3) := by decide +kernel
theorem dX6_readSteps_48 : decode cX6_readSteps 48 = .ok (.ifCond .ne 5, 3) := by decide +kernel
theorem dX6_readSteps_51 : decode cX6_readSteps 51 = .ok (.iconst 0, 1) := by decide +kernel
theorem dX6_readSteps_52 : decode cX6_readSteps 52 = .ok (.ireturn, 1) := by decide +kernel
theorem dX6_readSteps_53 : decode cX6_readSteps 53 = .ok (.iinc 2 1, 3) := by decide +kernel
theorem dX6_readSteps_56 : decode cX6_readSteps 56 = .ok (.goto (-35), 3) := by decide +kernel
theorem dX6_readSteps_59 : decode cX6_readSteps 59 = .ok (.iconst 1, 1) := by decide +kernel
theorem dX6_readSteps_60 : decode cX6_readSteps 60 = .ok (.ireturn, 1) := by decide +kernel
set_option maxRecDepth 20000 in
theorem ggX6_readStep_X6_says : GoodIn wsX6_readStep wsX6_says := goodIn_r _ [8, 1, 9, 10, 11, 12, 13, 14, 15, 16, 17, 18, 19, 20, 21, 22, 23, 24, 25, 26, 27, 28, 29, 30, 31, 32, 33, 34, 35, 36, 37, 38, 39, 40, 41, 42, 43, 44, 45, 46, 47, 48, 49, 50, 51, 52, 53, 54, 55, 56, 57, 58, 59, 60, 114, 115, 116, 117, 118, 119, 120, 121, 122, 123, 124, 125, 126, 127, 128, 129, 130] (by decide +kernel) (by decide +kernel)
set_option maxRecDepth 20000 in
theorem gX6_readStep_X6_says : GoodIn wsX6_readStep (wsV RX6 62 RX6 yX6_says wsX6_says) := goodIn_app (goodIn_of _ (by decide +kernel)) ggX6_readStep_X6_says
set_option maxRecDepth 20000 in
theorem ggX6_readStep_X6_readAgain : GoodIn wsX6_readStep wsX6_readAgain := goodIn_r _ [64, 2, 65, 66, 67, 68, 69, 70, 7, 71, 72, 10, 73, 74, 75, 76, 77, 9, 78, 11, 1, 79, 80, 81, 82, 3, 83, 84, 85, 86, 87, 88, 89, 90, 91, 92, 93, 114, 115, 116, 117, 118, 119, 120, 121, 122, 123, 124, 125, 126, 127, 128, 129, 130] (by decide +kernel) (by decide +kernel)
set_option maxRecDepth 20000 in
theorem gX6_readStep_X6_readAgain : GoodIn wsX6_readStep (wsV RX6 129 RX6 yX6_readAgain wsX6_readAgain) := goodIn_app (goodIn_of _ (by decide +kernel)) ggX6_readStep_X6_readAgain
set_option maxRecDepth 20000 in
theorem ggX6_readStep_X6_repeat : GoodIn wsX6_readStep wsX6_repeat := goodIn_r _ [97, 2, 67, 65, 66, 98, 99, 100, 101, 7, 102, 114, 115, 116, 117, 118, 119, 120, 121, 122, 123, 124, 125, 126, 127, 128, 129, 130] (by decide +kernel) (by decide +kernel)
set_option maxRecDepth 20000 in
theorem gX6_readStep_X6_repeat : GoodIn wsX6_readStep (wsV RX6 132 RX6 yX6_repeat wsX6_repeat) := goodIn_app (goodIn_of _ (by decide +kernel)) ggX6_readStep_X6_repeat
set_option maxRecDepth 20000 in
theorem ggX6_readStep_X6_isName : GoodIn wsX6_readStep wsX6_isName := goodIn_r _ [106, 1, 4, 5, 6, 7, 8, 9, 10, 11, 12, 13, 14, 15, 16, 17, 18, 19, 20, 21, 22, 23, 24, 25, 26, 27, 28, 29, 30, 31, 32, 33, 34, 35, 36, 37, 38, 39, 40, 41, 42, 43, 44, 45, 46, 47, 48, 49, 50, 51, 52, 53, 54, 55, 56, 57, 58, 59, 60, 114, 115, 116, 117, 118, 119, 120, 121, 122, 123, 124, 125, 126, 127, 128, 129, 130] (by decide +kernel) (by decide +kernel)
set_option maxRecDepth 20000 in
theorem gX6_readStep_X6_isName : GoodIn wsX6_readStep (wsV RX6 94 RX6 yX6_isName wsX6_isName) := goodIn_app (goodIn_of _ (by decide +kernel)) ggX6_readStep_X6_isName
set_option maxRecDepth 20000 in
theorem ggX6_readStep_X6_fail : GoodIn wsX6_readStep wsX6_fail := goodIn_r _ [71, 72, 10, 73, 114, 115, 116, 117, 118, 119, 120, 121, 122, 123, 124, 125, 126, 127, 128, 129, 130] (by decide +kernel) (by decide +kernel)
set_option maxRecDepth 20000 in
theorem gX6_readStep_X6_fail : GoodIn wsX6_readStep (wsV RX6 78 RX6 yX6_fail wsX6_fail) := goodIn_app (goodIn_of _ (by decide +kernel)) ggX6_readStep_X6_fail
set_option maxRecDepth 20000 in
theorem ggX6_readStep_X10_numberOf : GoodIn wsX6_readStep wsX10_numberOf := goodIn_r _ [111, 112, 113, 131, 132, 133, 134, 135] (by decide +kernel) (by decide +kernel)
set_option maxRecDepth 20000 in
theorem gX6_readStep_X10_numberOf : GoodIn wsX6_readStep (wsV RX6 100 RX10 yX10_numberOf wsX10_numberOf) := goodIn_app (goodIn_of _ (by decide +kernel)) ggX6_readStep_X10_numberOf
set_option maxRecDepth 20000 in
theorem ggX6_readStep_X6_addStep : GoodIn wsX6_readStep wsX6_addStep := goodIn_r _ [102, 67, 98, 114, 115, 116, 117, 118, 119, 120, 121, 122, 123, 124, 125, 126, 127, 128, 129, 130] (by decide +kernel) (by decide +kernel)
set_option maxRecDepth 20000 in
theorem gX6_readStep_X6_addStep : GoodIn wsX6_readStep (wsV RX6 135 RX6 yX6_addStep wsX6_addStep) := goodIn_app (goodIn_of _ (by decide +kernel)) ggX6_readStep_X6_addStep
set_option maxRecDepth 20000 in
theorem ggX6_readStep_X6_advance : GoodIn wsX6_readStep wsX6_advance := goodIn_r _ [77, 9, 78, 11, 10, 1, 79, 80, 81, 7, 82, 3, 83, 84, 85, 114, 115, 116, 117, 118, 119, 120, 121, 122, 123, 124, 125, 126, 127, 128, 129, 130] (by decide +kernel) (by decide +kernel)
set_option maxRecDepth 20000 in
theorem gX6_readStep_X6_advance : GoodIn wsX6_readStep (wsV RX6 81 RX6 yX6_advance wsX6_advance) := goodIn_app (goodIn_of _ (by decide +kernel)) ggX6_readStep_X6_advance
set_option maxRecDepth 20000 in
theorem ggX6_readStep_X6_take : GoodIn wsX6_readStep wsX6_take := goodIn_r _ [93, 1, 68, 69, 70, 7, 71, 72, 10, 73, 74, 75, 76, 77, 9, 78, 11, 79, 80, 81, 82, 3, 83, 84, 85, 114, 115, 116, 117, 118, 119, 120, 121, 122, 123, 124, 125, 126, 127, 128, 129, 130] (by decide +kernel) (by decide +kernel)
set_option maxRecDepth 20000 in
theorem gX6_readStep_X6_take : GoodIn wsX6_readStep (wsV RX6 57 RX6 yX6_take wsX6_take) := goodIn_app (goodIn_of _ (by decide +kernel)) ggX6_readStep_X6_take
theorem dX6_readStep_0 : decode cX6_readStep 0 = .ok (.aload_n 0, 1) := by decide +kernel
theorem dX6_readStep_1 : decode cX6_readStep 1 = .ok (.ldc 127, 2) := by decide +kernel
theorem dX6_readStep_3 : decode cX6_readStep 3 = .ok (.invokevirtual 62, 3) := by decide +kernel
theorem dX6_readStep_6 : decode cX6_readStep 6 = .ok (.ifCond .eq 8, 3) := by decide +kernel
theorem dX6_readStep_9 : decode cX6_readStep 9 = .ok (.aload_n 0, 1) := by decide +kernel
theorem dX6_readStep_10 : decode cX6_readStep 10 = .ok (.invokevirtual 129, 3) := by decide +kernel
theorem dX6_readStep_13 : decode cX6_readStep 13 = .ok (.ireturn, 1) := by decide +kernel
theorem dX6_readStep_14 : decode cX6_readStep 14 = .ok (.aload_n 0, 1) := by decide +kernel
theorem dX6_readStep_15 : decode cX6_readStep 15 = .ok (.getfield 50, 3) := by decide +kernel
theorem dX6_readStep_18 : decode cX6_readStep 18 = .ok (.bipush 93, 2) := by decide +kernel
theorem dX6_readStep_20 : decode cX6_readStep 20 = .ok (.if_icmp .ne 17, 3) := by decide +kernel
theorem dX6_readStep_23 : decode cX6_readStep 23 = .ok (.aload_n 0, 1) := by decide +kernel
theorem dX6_readStep_24 : decode cX6_readStep 24 = .ok (.getfield 121, 3) := by decide +kernel
theorem dX6_readStep_27 : decode cX6_readStep 27 = .ok (.ifCond .le 10, 3) := by decide +kernel
theorem dX6_readStep_30 : decode cX6_readStep 30 = .ok (.aload_n 0, 1) := by decide +kernel
theorem dX6_readStep_31 : decode cX6_readStep 31 = .ok (.invokevirtual 132, 3) := by decide +kernel
theorem dX6_readStep_34 : decode cX6_readStep 34 = .ok (.goto 46, 3) := by decide +kernel
theorem dX6_readStep_37 : decode cX6_readStep 37 = .ok (.aload_n 0, 1) := by decide +kernel
theorem dX6_readStep_38 : decode cX6_readStep 38 = .ok (.invokevirtual 94, 3) := by decide +kernel
theorem dX6_readStep_41 : decode cX6_readStep 41 = .ok (.ifCond .ne 9, 3) := by decide +kernel
theorem dX6_readStep_44 : decode cX6_readStep 44 = .ok (.aload_n 0, 1) := by decide +kernel
theorem dX6_readStep_45 : decode cX6_readStep 45 = .ok (.iconst 1, 1) := by decide +kernel
theorem dX6_readStep_46 : decode cX6_readStep 46 = .ok (.invokevirtual 78, 3) := by decide +kernel
theorem dX6_readStep_49 : decode cX6_readStep 49 = .ok (.ireturn, 1) := by decide +kernel
theorem dX6_readStep_50 : decode cX6_readStep 50 = .ok (.aload_n 1, 1) := by decide +kernel
theorem dX6_readStep_51 : decode cX6_readStep 51 = .ok (.aload_n 0, 1) := by decide +kernel
theorem dX6_readStep_52 : decode cX6_readStep 52 = .ok (.getfield 97, 3) := by decide +kernel
theorem dX6_readStep_55 : decode cX6_readStep 55 = .ok (.invokevirtual 100, 3) := by decide +kernel
theorem dX6_readStep_58 : decode cX6_readStep 58 = .ok (.iconst (-1), 1) := by decide +kernel
theorem dX6_readStep_59 : decode cX6_readStep 59 = .ok (.if_icmp .ne 9, 3) := by decide +kernel
theorem dX6_readStep_62 : decode cX6_readStep 62 = .ok (.aload_n 0, 1) := by decide +kernel
theorem dX6_readStep_63 : decode cX6_readStep 63 = .ok (.iconst 3, 1) := by decide +kernel
theorem dX6_readStep_64 : decode cX6_readStep 64 = .ok (.invokevirtual 78, 3) := by decide +kernel
theorem dX6_readStep_67 : decode cX6_readStep 67 = .ok (.ireturn, 1) := by decide +kernel
theorem dX6_readStep_68 : decode cX6_readStep 68 = .ok (.aload_n 0, 1) := by decide +kernel
theorem dX6_readStep_69 : decode cX6_readStep 69 = .ok (.aload_n 1, 1) := by decide +kernel
theorem dX6_readStep_70 : decode cX6_readStep 70 = .ok (.aload_n 0, 1) := by decide +kernel
theorem dX6_readStep_71 : decode cX6_readStep 71 = .ok (.getfield 97, 3) := by decide +kernel
theorem dX6_readStep_74 : decode cX6_readStep 74 = .ok (.invokevirtual 100, 3) := by decide +kernel
theorem dX6_readStep_77 : decode cX6_readStep 77 = .ok (.invokevirtual 135, 3) := by decide +kernel
theorem dX6_readStep_80 : decode cX6_readStep 80 = .ok (.aload_n 0, 1) := by decide +kernel
theorem dX6_readStep_81 : decode cX6_readStep 81 = .ok (.invokevirtual 81, 3) := by decide +kernel
theorem dX6_readStep_84 : decode cX6_readStep 84 = .ok (.aload_n 0, 1) := by decide +kernel
theorem dX6_readStep_85 : decode cX6_readStep 85 = .ok (.bipush 59, 2) := by decide +kernel
theorem dX6_readStep_87 : decode cX6_readStep 87 = .ok (.invokevirtual 57, 3) := by decide +kernel
theorem dX6_readStep_90 : decode cX6_readStep 90 = .ok (.ireturn, 1) := by decide +kernel
set_option maxRecDepth 20000 in
theorem ggX6_readAgain_X6_fail : GoodIn wsX6_readAgain wsX6_fail := goodIn_r _ [9, 10, 11, 12, 37, 38, 39, 40, 41, 42, 43, 44, 45, 46, 47, 48, 49, 50, 51, 52, 53] (by decide +kernel) (by decide +kernel)
set_option maxRecDepth 20000 in
theorem gX6_readAgain_X6_fail : GoodIn wsX6_readAgain (wsV RX6 78 RX6 yX6_fail wsX6_fail) := goodIn_app (goodIn_of _ (by decide +kernel)) ggX6_readAgain_X6_fail
set_option maxRecDepth 20000 in
theorem ggX6_readAgain_X6_advance : GoodIn wsX6_readAgain wsX6_advance := goodIn_r _ [16, 17, 18, 19, 11, 20, 21, 22, 23, 8, 24, 25, 26, 27, 28, 37, 38, 39, 40, 41, 42, 43, 44, 45, 46, 47, 48, 49, 50, 51, 52, 53] (by decide +kernel) (by decide +kernel)
set_option maxRecDepth 20000 in
theorem gX6_readAgain_X6_advance : GoodIn wsX6_readAgain (wsV RX6 81 RX6 yX6_advance wsX6_advance) := goodIn_app (goodIn_of _ (by decide +kernel)) ggX6_readAgain_X6_advance
set_option maxRecDepth 20000 in
theorem ggX6_readAgain_X6_takeNumber : GoodIn wsX6_readAgain wsX6_takeNumber := goodIn_r _ [32, 25, 20, 5, 6, 7, 8, 9, 10, 11, 12, 13, 14, 15, 16, 17, 18, 19, 21, 22, 23, 24, 26, 27, 28, 37, 38, 39, 40, 41, 42, 43, 44, 45, 46, 47, 48, 49, 50, 51, 52, 53] (by decide +kernel) (by decide +kernel)
set_option maxRecDepth 20000 in
theorem gX6_readAgain_X6_takeNumber : GoodIn wsX6_readAgain (wsV RX6 84 RX6 yX6_takeNumber wsX6_takeNumber) := goodIn_app (goodIn_of _ (by decide +kernel)) ggX6_readAgain_X6_takeNumber
set_option maxRecDepth 20000 in
theorem ggX6_readAgain_X6_take : GoodIn wsX6_readAgain wsX6_take := goodIn_r _ [36, 20, 5, 6, 7, 8, 9, 10, 11, 12, 13, 14, 15, 16, 17, 18, 19, 21, 22, 23, 24, 25, 26, 27, 28, 37, 38, 39, 40, 41, 42, 43, 44, 45, 46, 47, 48, 49, 50, 51, 52, 53] (by decide +kernel) (by decide +kernel)
set_option maxRecDepth 20000 in
theorem gX6_readAgain_X6_take : GoodIn wsX6_readAgain (wsV RX6 57 RX6 yX6_take wsX6_take) := goodIn_app (goodIn_of _ (by decide +kernel)) ggX6_readAgain_X6_take
theorem dX6_readAgain_0 : decode cX6_readAgain 0 = .ok (.aload_n 0, 1) := by decide +kernel
theorem dX6_readAgain_1 : decode cX6_readAgain 1 = .ok (.getfield 121, 3) := by decide +kernel
theorem dX6_readAgain_4 : decode cX6_readAgain 4 = .ok (.iconst 2, 1) := by decide +kernel
theorem dX6_readAgain_5 : decode cX6_readAgain 5 = .ok (.if_icmp .lt 9, 3) := by decide +kernel
theorem dX6_readAgain_8 : decode cX6_readAgain 8 = .ok (.aload_n 0, 1) := by decide +kernel
theorem dX6_readAgain_9 : decode cX6_readAgain 9 = .ok (.iconst 5, 1) := by decide +kernel
theorem dX6_readAgain_10 : decode cX6_readAgain 10 = .ok (.invokevirtual 78, 3) := by decide +kernel
theorem dX6_readAgain_13 : decode cX6_readAgain 13 = .ok (.ireturn, 1) := by decide +kernel
theorem dX6_readAgain_14 : decode cX6_readAgain 14 = .ok (.aload_n 0, 1) := by decide +kernel
theorem dX6_readAgain_15 : decode cX6_readAgain 15 = .ok (.invokevirtual 81, 3) := by decide +kernel
theorem dX6_readAgain_18 : decode cX6_readAgain 18 = .ok (.aload_n 0, 1) := by decide +kernel
theorem dX6_readAgain_19 : decode cX6_readAgain 19 = .ok (.iconst 1, 1) := by decide +kernel
theorem dX6_readAgain_20 : decode cX6_readAgain 20 = .ok (.bipush 9, 2) := by decide +kernel
theorem dX6_readAgain_22 : decode cX6_readAgain 22 = .ok (.invokevirtual 84, 3) := by decide +kernel
theorem dX6_readAgain_25 : decode cX6_readAgain 25 = .ok (.istore_n 1, 1) := by decide +kernel
theorem dX6_readAgain_26 : decode cX6_readAgain 26 = .ok (.iload_n 1, 1) := by decide +kernel
theorem dX6_readAgain_27 : decode cX6_readAgain 27 = .ok (.iconst (-1), 1) := by decide +kernel
theorem dX6_readAgain_28 : decode cX6_readAgain 28 = .ok (.if_icmp .eq 12, 3) := by decide +kernel
theorem dX6_readAgain_31 : decode cX6_readAgain 31 = .ok (.aload_n 0, 1) := by decide +kernel
theorem dX6_readAgain_32 : decode cX6_readAgain 32 = .ok (.bipush 91, 2) := by decide +kernel
theorem dX6_readAgain_34 : decode cX6_readAgain 34 = .ok (.invokevirtual 57, 3) := by decide +kernel
theorem dX6_readAgain_37 : decode cX6_readAgain 37 = .ok (.ifCond .ne 5, 3) := by decide +kernel
theorem dX6_readAgain_40 : decode cX6_readAgain 40 = .ok (.iconst 0, 1) := by decide +kernel
theorem dX6_readAgain_41 : decode cX6_readAgain 41 = .ok (.ireturn, 1) := by decide +kernel
theorem dX6_readAgain_42 : decode cX6_readAgain 42 = .ok (.aload_n 0, 1) := by decide +kernel
theorem dX6_readAgain_43 : decode cX6_readAgain 43 = .ok (.getfield 18, 3) := by decide +kernel
theorem dX6_readAgain_46 : decode cX6_readAgain 46 = .ok (.aload_n 0, 1) := by decide +kernel
theorem dX6_readAgain_47 : decode cX6_readAgain 47 = .ok (.getfield 121, 3) := by decide +kernel
theorem dX6_readAgain_50 : decode cX6_readAgain 50 = .ok (.iload_n 1, 1) := by decide +kernel
theorem dX6_readAgain_51 : decode cX6_readAgain 51 = .ok (.iastore, 1) := by decide +kernel
theorem dX6_readAgain_52 : decode cX6_readAgain 52 = .ok (.aload_n 0, 1) := by decide +kernel
theorem dX6_readAgain_53 : decode cX6_readAgain 53 = .ok (.getfield 21, 3) := by decide +kernel
theorem dX6_readAgain_56 : decode cX6_readAgain 56 = .ok (.aload_n 0, 1) := by decide +kernel
theorem dX6_readAgain_57 : decode cX6_readAgain 57 = .ok (.getfield 121, 3) := by decide +kernel
theorem dX6_readAgain_60 : decode cX6_readAgain 60 = .ok (.aload_n 0, 1) := by decide +kernel
theorem dX6_readAgain_61 : decode cX6_readAgain 61 = .ok (.getfield 118, 3) := by decide +kernel
theorem dX6_readAgain_64 : decode cX6_readAgain 64 = .ok (.iastore, 1) := by decide +kernel
theorem dX6_readAgain_65 : decode cX6_readAgain 65 = .ok (.aload_n 0, 1) := by decide +kernel
theorem dX6_readAgain_66 : decode cX6_readAgain 66 = .ok (.dup, 1) := by decide +kernel
theorem dX6_readAgain_67 : decode cX6_readAgain 67 = .ok (.getfield 121, 3) := by decide +kernel
theorem dX6_readAgain_70 : decode cX6_readAgain 70 = .ok (.iconst 1, 1) := by decide +kernel
theorem dX6_readAgain_71 : decode cX6_readAgain 71 = .ok (.iadd, 1) := by decide +kernel
theorem dX6_readAgain_72 : decode cX6_readAgain 72 = .ok (.putfield 121, 3) := by decide +kernel
theorem dX6_readAgain_75 : decode cX6_readAgain 75 = .ok (.iconst 1, 1) := by decide +kernel
theorem dX6_readAgain_76 : decode cX6_readAgain 76 = .ok (.ireturn, 1) := by decide +kernel
set_option maxRecDepth 20000 in
theorem ggX6_repeat_X6_addStep : GoodIn wsX6_repeat wsX6_addStep := goodIn_r _ [10, 2, 5, 11, 12, 13, 14, 15, 16, 17, 18, 19, 20, 21, 22, 23, 24, 25, 26, 27] (by decide +kernel) (by decide +kernel)
set_option maxRecDepth 20000 in
theorem gX6_repeat_X6_addStep : GoodIn wsX6_repeat (wsV RX6 135 RX6 yX6_addStep wsX6_addStep) := goodIn_app (goodIn_of _ (by decide +kernel)) ggX6_repeat_X6_addStep
theorem dX6_repeat_0 : decode cX6_repeat 0 = .ok (.aload_n 0, 1) := by decide +kernel
theorem dX6_repeat_1 : decode cX6_repeat 1 = .ok (.dup, 1) := by decide +kernel
theorem dX6_repeat_2 : decode cX6_repeat 2 = .ok (.getfield 121, 3) := by decide +kernel
theorem dX6_repeat_5 : decode cX6_repeat 5 = .ok (.iconst 1, 1) := by decide +kernel
theorem dX6_repeat_6 : decode cX6_repeat 6 = .ok (.isub, 1) := by decide +kernel
theorem dX6_repeat_7 : decode cX6_repeat 7 = .ok (.putfield 121, 3) := by decide +kernel
theorem dX6_repeat_10 : decode cX6_repeat 10 = .ok (.aload_n 0, 1) := by decide +kernel
theorem dX6_repeat_11 : decode cX6_repeat 11 = .ok (.getfield 118, 3) := by decide +kernel
theorem dX6_repeat_14 : decode cX6_repeat 14 = .ok (.istore_n 1, 1) := by decide +kernel
theorem dX6_repeat_15 : decode cX6_repeat 15 = .ok (.iconst 1, 1) := by decide +kernel
theorem dX6_repeat_16 : decode cX6_repeat 16 = .ok (.istore_n 2, 1) := by decide +kernel
theorem dX6_repeat_17 : decode cX6_repeat 17 = .ok (.iload_n 2, 1) := by decide +kernel
theorem dX6_repeat_18 : decode cX6_repeat 18 = .ok (.aload_n 0, 1) := by decide +kernel
theorem dX6_repeat_19 : decode cX6_repeat 19 = .ok (.getfield 18, 3) := by decide +kernel
theorem dX6_repeat_22 : decode cX6_repeat 22 = .ok (.aload_n 0, 1) := by decide +kernel
theorem dX6_repeat_23 : decode cX6_repeat 23 = .ok (.getfield 121, 3) := by decide +kernel
theorem dX6_repeat_26 : decode cX6_repeat 26 = .ok (.iaload, 1) := by decide +kernel
theorem dX6_repeat_27 : decode cX6_repeat 27 = .ok (.if_icmp .ge 40, 3) := by decide +kernel
theorem dX6_repeat_30 : decode cX6_repeat 30 = .ok (.aload_n 0, 1) := by decide +kernel
theorem dX6_repeat_31 : decode cX6_repeat 31 = .ok (.getfield 21, 3) := by decide +kernel
theorem dX6_repeat_34 : decode cX6_repeat 34 = .ok (.aload_n 0, 1) := by decide +kernel
theorem dX6_repeat_35 : decode cX6_repeat 35 = .ok (.getfield 121, 3) := by decide +kernel
theorem dX6_repeat_38 : decode cX6_repeat 38 = .ok (.iaload, 1) := by decide +kernel
theorem dX6_repeat_39 : decode cX6_repeat 39 = .ok (.istore_n 3, 1) := by decide +kernel
theorem dX6_repeat_40 : decode cX6_repeat 40 = .ok (.iload_n 3, 1) := by decide +kernel
theorem dX6_repeat_41 : decode cX6_repeat 41 = .ok (.iload_n 1, 1) := by decide +kernel
theorem dX6_repeat_42 : decode cX6_repeat 42 = .ok (.if_icmp .ge 19, 3) := by decide +kernel
theorem dX6_repeat_45 : decode cX6_repeat 45 = .ok (.aload_n 0, 1) := by decide +kernel
theorem dX6_repeat_46 : decode cX6_repeat 46 = .ok (.aload_n 0, 1) := by decide +kernel
theorem dX6_repeat_47 : decode cX6_repeat 47 = .ok (.getfield 15, 3) := by decide +kernel
theorem dX6_repeat_50 : decode cX6_repeat 50 = .ok (.iload_n 3, 1) := by decide +kernel
theorem dX6_repeat_51 : decode cX6_repeat 51 = .ok (.iaload, 1) := by decide +kernel
theorem dX6_repeat_52 : decode cX6_repeat 52 = .ok (.invokevirtual 135, 3) := by decide +kernel
theorem dX6_repeat_55 : decode cX6_repeat 55 = .ok (.iinc 3 1, 3) := by decide +kernel
theorem dX6_repeat_58 : decode cX6_repeat 58 = .ok (.goto (-18), 3) := by decide +kernel
theorem dX6_repeat_61 : decode cX6_repeat 61 = .ok (.iinc 2 1, 3) := by decide +kernel
theorem dX6_repeat_64 : decode cX6_repeat 64 = .ok (.goto (-47), 3) := by decide +kernel
theorem dX6_repeat_67 : decode cX6_repeat 67 = .ok (.return_, 1) := by decide +kernel
theorem dX6_addStep_0 : decode cX6_addStep 0 = .ok (.aload_n 0, 1) := by decide +kernel
theorem dX6_addStep_1 : decode cX6_addStep 1 = .ok (.getfield 118, 3) := by decide +kernel
theorem dX6_addStep_4 : decode cX6_addStep 4 = .ok (.bipush 40, 2) := by decide +kernel
theorem dX6_addStep_6 : decode cX6_addStep 6 = .ok (.if_icmp .ge 20, 3) := by decide +kernel
theorem dX6_addStep_9 : decode cX6_addStep 9 = .ok (.aload_n 0, 1) := by decide +kernel
theorem dX6_addStep_10 : decode cX6_addStep 10 = .ok (.getfield 15, 3) := by decide +kernel
theorem dX6_addStep_13 : decode cX6_addStep 13 = .ok (.aload_n 0, 1) := by decide +kernel
theorem dX6_addStep_14 : decode cX6_addStep 14 = .ok (.dup, 1) := by decide +kernel
theorem dX6_addStep_15 : decode cX6_addStep 15 = .ok (.getfield 118, 3) := by decide +kernel
theorem dX6_addStep_18 : decode cX6_addStep 18 = .ok (.dup_x1, 1) := by decide +kernel
theorem dX6_addStep_19 : decode cX6_addStep 19 = .ok (.iconst 1, 1) := by decide +kernel
theorem dX6_addStep_20 : decode cX6_addStep 20 = .ok (.iadd, 1) := by decide +kernel
theorem dX6_addStep_21 : decode cX6_addStep 21 = .ok (.putfield 118, 3) := by decide +kernel
theorem dX6_addStep_24 : decode cX6_addStep 24 = .ok (.iload_n 1, 1) := by decide +kernel
theorem dX6_addStep_25 : decode cX6_addStep 25 = .ok (.iastore, 1) := by decide +kernel
theorem dX6_addStep_26 : decode cX6_addStep 26 = .ok (.return_, 1) := by decide +kernel
set_option maxRecDepth 20000 in
theorem ggX6_start_X6_fail : GoodIn wsX6_start wsX6_fail := goodIn_r _ [9, 1, 4, 10, 25, 26, 27, 28, 29, 30, 31, 32, 33, 34, 35, 36, 37, 38, 39, 40, 41] (by decide +kernel) (by decide +kernel)
set_option maxRecDepth 20000 in
theorem gX6_start_X6_fail : GoodIn wsX6_start (wsV RX6 78 RX6 yX6_fail wsX6_fail) := goodIn_app (goodIn_of _ (by decide +kernel)) ggX6_start_X6_fail
set_option maxRecDepth 20000 in
theorem ggX6_start_X6_advance : GoodIn wsX6_start wsX6_advance := goodIn_r _ [14, 2, 3, 15, 4, 16, 17, 18, 19, 8, 20, 21, 22, 23, 24, 25, 26, 27, 28, 29, 30, 31, 32, 33, 34, 35, 36, 37, 38, 39, 40, 41] (by decide +kernel) (by decide +kernel)
set_option maxRecDepth 20000 in
theorem gX6_start_X6_advance : GoodIn wsX6_start (wsV RX6 81 RX6 yX6_advance wsX6_advance) := goodIn_app (goodIn_of _ (by decide +kernel)) ggX6_start_X6_advance
theorem dX6_start_0 : decode cX6_start 0 = .ok (.aload_n 0, 1) := by decide +kernel
theorem dX6_start_1 : decode cX6_start 1 = .ok (.iconst 0, 1) := by decide +kernel
theorem dX6_start_2 : decode cX6_start 2 = .ok (.putfield 113, 3) := by decide +kernel
theorem dX6_start_5 : decode cX6_start 5 = .ok (.aload_n 0, 1) := by decide +kernel
theorem dX6_start_6 : decode cX6_start 6 = .ok (.iconst 0, 1) := by decide +kernel
theorem dX6_start_7 : decode cX6_start 7 = .ok (.putfield 139, 3) := by decide +kernel
theorem dX6_start_10 : decode cX6_start 10 = .ok (.aload_n 0, 1) := by decide +kernel
theorem dX6_start_11 : decode cX6_start 11 = .ok (.getfield 24, 3) := by decide +kernel
theorem dX6_start_14 : decode cX6_start 14 = .ok (.sipush 400, 3) := by decide +kernel
theorem dX6_start_17 : decode cX6_start 17 = .ok (.if_icmp .le 16, 3) := by decide +kernel
theorem dX6_start_20 : decode cX6_start 20 = .ok (.aload_n 0, 1) := by decide +kernel
theorem dX6_start_21 : decode cX6_start 21 = .ok (.sipush 400, 3) := by decide +kernel
theorem dX6_start_24 : decode cX6_start 24 = .ok (.putfield 142, 3) := by decide +kernel
theorem dX6_start_27 : decode cX6_start 27 = .ok (.aload_n 0, 1) := by decide +kernel
theorem dX6_start_28 : decode cX6_start 28 = .ok (.iconst 1, 1) := by decide +kernel
theorem dX6_start_29 : decode cX6_start 29 = .ok (.invokevirtual 78, 3) := by decide +kernel
theorem dX6_start_32 : decode cX6_start 32 = .ok (.ireturn, 1) := by decide +kernel
theorem dX6_start_33 : decode cX6_start 33 = .ok (.aload_n 0, 1) := by decide +kernel
theorem dX6_start_34 : decode cX6_start 34 = .ok (.invokevirtual 81, 3) := by decide +kernel
theorem dX6_start_37 : decode cX6_start 37 = .ok (.iconst 1, 1) := by decide +kernel
theorem dX6_start_38 : decode cX6_start 38 = .ok (.ireturn, 1) := by decide +kernel
theorem dX6_fail_0 : decode cX6_fail 0 = .ok (.aload_n 0, 1) := by decide +kernel
theorem dX6_fail_1 : decode cX6_fail 1 = .ok (.iload_n 1, 1) := by decide +kernel
theorem dX6_fail_2 : decode cX6_fail 2 = .ok (.putfield 113, 3) := by decide +kernel
theorem dX6_fail_5 : decode cX6_fail 5 = .ok (.aload_n 0, 1) := by decide +kernel
theorem dX6_fail_6 : decode cX6_fail 6 = .ok (.aload_n 0, 1) := by decide +kernel
theorem dX6_fail_7 : decode cX6_fail 7 = .ok (.getfield 142, 3) := by decide +kernel
theorem dX6_fail_10 : decode cX6_fail 10 = .ok (.putfield 145, 3) := by decide +kernel
theorem dX6_fail_13 : decode cX6_fail 13 = .ok (.iconst 0, 1) := by decide +kernel
theorem dX6_fail_14 : decode cX6_fail 14 = .ok (.ireturn, 1) := by decide +kernel
set_option maxRecDepth 20000 in
theorem ggX6_take_X6_fail : GoodIn wsX6_take wsX6_fail := goodIn_r _ [6, 7, 8, 9, 25, 26, 27, 28, 29, 30, 31, 32, 33, 34, 35, 36, 37, 38, 39, 40, 41] (by decide +kernel) (by decide +kernel)
set_option maxRecDepth 20000 in
theorem gX6_take_X6_fail : GoodIn wsX6_take (wsV RX6 78 RX6 yX6_fail wsX6_fail) := goodIn_app (goodIn_of _ (by decide +kernel)) ggX6_take_X6_fail
set_option maxRecDepth 20000 in
theorem ggX6_take_X6_advance : GoodIn wsX6_take wsX6_advance := goodIn_r _ [13, 14, 15, 16, 8, 1, 17, 18, 19, 5, 20, 21, 22, 23, 24, 25, 26, 27, 28, 29, 30, 31, 32, 33, 34, 35, 36, 37, 38, 39, 40, 41] (by decide +kernel) (by decide +kernel)
set_option maxRecDepth 20000 in
theorem gX6_take_X6_advance : GoodIn wsX6_take (wsV RX6 81 RX6 yX6_advance wsX6_advance) := goodIn_app (goodIn_of _ (by decide +kernel)) ggX6_take_X6_advance
theorem dX6_take_0 : decode cX6_take 0 = .ok (.aload_n 0, 1) := by decide +kernel
theorem dX6_take_1 : decode cX6_take 1 = .ok (.getfield 50, 3) := by decide +kernel
theorem dX6_take_4 : decode cX6_take 4 = .ok (.iload_n 1, 1) := by decide +kernel
theorem dX6_take_5 : decode cX6_take 5 = .ok (.if_icmp .eq 9, 3) := by decide +kernel
theorem dX6_take_8 : decode cX6_take 8 = .ok (.aload_n 0, 1) := by decide +kernel
theorem dX6_take_9 : decode cX6_take 9 = .ok (.iconst 1, 1) := by decide +kernel
theorem dX6_take_10 : decode cX6_take 10 = .ok (.invokevirtual 78, 3) := by decide +kernel
theorem dX6_take_13 : decode cX6_take 13 = .ok (.ireturn, 1) := by decide +kernel
theorem dX6_take_14 : decode cX6_take 14 = .ok (.aload_n 0, 1) := by decide +kernel
theorem dX6_take_15 : decode cX6_take 15 = .ok (.invokevirtual 81, 3) := by decide +kernel
theorem dX6_take_18 : decode cX6_take 18 = .ok (.iconst 1, 1) := by decide +kernel
theorem dX6_take_19 : decode cX6_take 19 = .ok (.ireturn, 1) := by decide +kernel
set_option maxRecDepth 20000 in
theorem ggX6_takeNumber_X6_fail : GoodIn wsX6_takeNumber wsX6_fail := goodIn_r _ [7, 8, 9, 10, 25, 26, 27, 28, 29, 30, 31, 32, 33, 34, 35, 36, 37, 38, 39, 40, 41] (by decide +kernel) (by decide +kernel)
set_option maxRecDepth 20000 in
theorem gX6_takeNumber_X6_fail : GoodIn wsX6_takeNumber (wsV RX6 78 RX6 yX6_fail wsX6_fail) := goodIn_app (goodIn_of _ (by decide +kernel)) ggX6_takeNumber_X6_fail
set_option maxRecDepth 20000 in
theorem ggX6_takeNumber_X6_advance : GoodIn wsX6_takeNumber wsX6_advance := goodIn_r _ [14, 15, 16, 17, 9, 2, 18, 19, 20, 6, 21, 1, 22, 23, 24, 25, 26, 27, 28, 29, 30, 31, 32, 33, 34, 35, 36, 37, 38, 39, 40, 41] (by decide +kernel) (by decide +kernel)
set_option maxRecDepth 20000 in
theorem gX6_takeNumber_X6_advance : GoodIn wsX6_takeNumber (wsV RX6 81 RX6 yX6_advance wsX6_advance) := goodIn_app (goodIn_of _ (by decide +kernel)) ggX6_takeNumber_X6_advance
theorem dX6_takeNumber_0 : decode cX6_takeNumber 0 = .ok (.aload_n 0, 1) := by decide +kernel
theorem dX6_takeNumber_1 : decode cX6_takeNumber 1 = .ok (.getfield 97, 3) := by decide +kernel
theorem dX6_takeNumber_4 : decode cX6_takeNumber 4 = .ok (.iload_n 1, 1) := by decide +kernel
theorem dX6_takeNumber_5 : decode cX6_takeNumber 5 = .ok (.if_icmp .lt 15, 3) := by decide +kernel
theorem dX6_takeNumber_8 : decode cX6_takeNumber 8 = .ok (.aload_n 0, 1) := by decide +kernel
theorem dX6_takeNumber_9 : decode cX6_takeNumber 9 = .ok (.getfield 97, 3) := by decide +kernel
theorem dX6_takeNumber_12 : decode cX6_takeNumber 12 = .ok (.iload_n 2, 1) := by decide +kernel
theorem dX6_takeNumber_13 : decode cX6_takeNumber 13 = .ok (.if_icmp .gt 7, 3) := by decide +kernel
theorem dX6_takeNumber_16 : decode cX6_takeNumber 16 = .ok (.iconst 1, 1) := by decide +kernel
theorem dX6_takeNumber_17 : decode cX6_takeNumber 17 = .ok (.goto 4, 3) := by decide +kernel
theorem dX6_takeNumber_20 : decode cX6_takeNumber 20 = .ok (.iconst 0, 1) := by decide +kernel
theorem dX6_takeNumber_21 : decode cX6_takeNumber 21 = .ok (.istore_n 3, 1) := by decide +kernel
theorem dX6_takeNumber_22 : decode cX6_takeNumber 22 = .ok (.aload_n 0, 1) := by decide +kernel
theorem dX6_takeNumber_23 : decode cX6_takeNumber 23 = .ok (.getfield 50, 3) := by decide +kernel
theorem dX6_takeNumber_26 : decode cX6_takeNumber 26 = .ok (.iconst 3, 1) := by decide +kernel
theorem dX6_takeNumber_27 : decode cX6_takeNumber 27 = .ok (.if_icmp .ne 7, 3) := by decide +kernel
theorem dX6_takeNumber_30 : decode cX6_takeNumber 30 = .ok (.iload_n 3, 1) := by decide +kernel
theorem dX6_takeNumber_31 : decode cX6_takeNumber 31 = .ok (.ifCond .ne 23, 3) := by decide +kernel
theorem dX6_takeNumber_34 : decode cX6_takeNumber 34 = .ok (.aload_n 0, 1) := by decide +kernel
theorem dX6_takeNumber_35 : decode cX6_takeNumber 35 = .ok (.aload_n 0, 1) := by decide +kernel
theorem dX6_takeNumber_36 : decode cX6_takeNumber 36 = .ok (.getfield 50, 3) := by decide +kernel
theorem dX6_takeNumber_39 : decode cX6_takeNumber 39 = .ok (.iconst 3, 1) := by decide +kernel
theorem dX6_takeNumber_40 : decode cX6_takeNumber 40 = .ok (.if_icmp .ne 7, 3) := by decide +kernel
theorem dX6_takeNumber_43 : decode cX6_takeNumber 43 = .ok (.iconst 2, 1) := by decide +kernel
theorem dX6_takeNumber_44 : decode cX6_takeNumber 44 = .ok (.goto 4, 3) := by decide +kernel
theorem dX6_takeNumber_47 : decode cX6_takeNumber 47 = .ok (.iconst 1, 1) := by decide +kernel
theorem dX6_takeNumber_48 : decode cX6_takeNumber 48 = .ok (.invokevirtual 78, 3) := by decide +kernel
theorem dX6_takeNumber_51 : decode cX6_takeNumber 51 = .ok (.pop, 1) := by decide +kernel
theorem dX6_takeNumber_52 : decode cX6_takeNumber 52 = .ok (.iconst (-1), 1) := by decide +kernel
theorem dX6_takeNumber_53 : decode cX6_takeNumber 53 = .ok (.ireturn, 1) := by decide +kernel
theorem dX6_takeNumber_54 : decode cX6_takeNumber 54 = .ok (.aload_n 0, 1) := by decide +kernel
theorem dX6_takeNumber_55 : decode cX6_takeNumber 55 = .ok (.getfield 97, 3) := by decide +kernel
theorem dX6_takeNumber_58 : decode cX6_takeNumber 58 = .ok (.istore 4, 2) := by decide +kernel
theorem dX6_takeNumber_60 : decode cX6_takeNumber 60 = .ok (.aload_n 0, 1) := by decide +kernel
theorem dX6_takeNumber_61 : decode cX6_takeNumber 61 = .ok (.invokevirtual 81, 3) := by decide +kernel
theorem dX6_takeNumber_64 : decode cX6_takeNumber 64 = .ok (.iload 4, 2) := by decide +kernel
theorem dX6_takeNumber_66 : decode cX6_takeNumber 66 = .ok (.ireturn, 1) := by decide +kernel
set_option maxRecDepth 20000 in
theorem ggX6_isName_X6_says : GoodIn wsX6_isName wsX6_says := goodIn_r _ [6, 1, 7, 8, 9, 10, 11, 12, 13, 14, 15, 16, 17, 18, 19, 20, 21, 22, 23, 24, 25, 26, 27, 28, 29, 30, 31, 32, 33, 34, 35, 36, 37, 38, 39, 40, 41, 42, 43, 44, 45, 46, 47, 48, 49, 50, 51, 52, 53, 54, 55, 56, 57, 58, 59, 60, 61, 62, 63, 64, 65, 66, 67, 68, 69, 70, 71, 72, 73, 74, 75] (by decide +kernel) (by decide +kernel)
set_option maxRecDepth 20000 in
theorem gX6_isName_X6_says : GoodIn wsX6_isName (wsV RX6 62 RX6 yX6_says wsX6_says) := goodIn_app (goodIn_of _ (by decide +kernel)) ggX6_isName_X6_says
theorem dX6_isName_0 : decode cX6_isName 0 = .ok (.aload_n 0, 1) := by decide +kernel
theorem dX6_isName_1 : decode cX6_isName 1 = .ok (.getfield 50, 3) := by decide +kernel
theorem dX6_isName_4 : decode cX6_isName 4 = .ok (.iconst 2, 1) := by decide +kernel
theorem dX6_isName_5 : decode cX6_isName 5 = .ok (.if_icmp .ne 43, 3) := by decide +kernel
theorem dX6_isName_8 : decode cX6_isName 8 = .ok (.aload_n 0, 1) := by decide +kernel
theorem dX6_isName_9 : decode cX6_isName 9 = .ok (.ldc 61, 2) := by decide +kernel
theorem dX6_isName_11 : decode cX6_isName 11 = .ok (.invokevirtual 62, 3) := by decide +kernel
theorem dX6_isName_14 : decode cX6_isName 14 = .ok (.ifCond .ne 34, 3) := by decide +kernel
theorem dX6_isName_17 : decode cX6_isName 17 = .ok (.aload_n 0, 1) := by decide +kernel
theorem dX6_isName_18 : decode cX6_isName 18 = .ok (.ldc 69, 2) := by decide +kernel
theorem dX6_isName_20 : decode cX6_isName 20 = .ok (.invokevirtual 62, 3) := by decide +kernel
theorem dX6_isName_23 : decode cX6_isName 23 = .ok (.ifCond .ne 25, 3) := by decide +kernel
theorem dX6_isName_26 : decode cX6_isName 26 = .ok (.aload_n 0, 1) := by decide +kernel
theorem dX6_isName_27 : decode cX6_isName 27 = .ok (.ldc 73, 2) := by decide +kernel
theorem dX6_isName_29 : decode cX6_isName 29 = .ok (.invokevirtual 62, 3) := by decide +kernel
theorem dX6_isName_32 : decode cX6_isName 32 = .ok (.ifCond .ne 16, 3) := by decide +kernel
theorem dX6_isName_35 : decode cX6_isName 35 = .ok (.aload_n 0, 1) := by decide +kernel
theorem dX6_isName_36 : decode cX6_isName 36 = .ok (.ldc 127, 2) := by decide +kernel
theorem dX6_isName_38 : decode cX6_isName 38 = .ok (.invokevirtual 62, 3) := by decide +kernel
theorem dX6_isName_41 : decode cX6_isName 41 = .ok (.ifCond .ne 7, 3) := by decide +kernel
theorem dX6_isName_44 : decode cX6_isName 44 = .ok (.iconst 1, 1) := by decide +kernel
theorem dX6_isName_45 : decode cX6_isName 45 = .ok (.goto 4, 3) := by decide +kernel
theorem dX6_isName_48 : decode cX6_isName 48 = .ok (.iconst 0, 1) := by decide +kernel
theorem dX6_isName_49 : decode cX6_isName 49 = .ok (.ireturn, 1) := by decide +kernel
set_option maxRecDepth 20000 in
theorem ggX6_says_J0_length_8abf5 : GoodIn wsX6_says wsJ0_length_8abf5 := goodIn_r _ [9, 10, 11, 12, 13, 8, 14, 15, 16] (by decide +kernel) (by decide +kernel)
set_option maxRecDepth 20000 in
theorem gX6_says_J0_length_8abf5 : GoodIn wsX6_says (wsV RX6 148 RJ0 yJ0_length_8abf5 wsJ0_length_8abf5) := goodIn_app (goodIn_of _ (by decide +kernel)) ggX6_says_J0_length_8abf5
set_option maxRecDepth 20000 in
theorem ggX6_says_J0_charAt_5068e : GoodIn wsX6_says wsJ0_charAt_5068e := goodIn_r _ [20, 10, 21, 22, 23, 8, 24, 15, 16, 25, 26, 27, 28, 29, 30, 31, 32, 33, 34, 35, 36, 37, 38, 39, 40, 41, 42, 43, 44, 45, 46, 47, 48, 49, 50, 51, 52, 53] (by decide +kernel) (by decide +kernel)
set_option maxRecDepth 20000 in
theorem gX6_says_J0_charAt_5068e : GoodIn wsX6_says (wsV RX6 153 RJ0 yJ0_charAt_5068e wsJ0_charAt_5068e) := goodIn_app (goodIn_of _ (by decide +kernel)) ggX6_says_J0_charAt_5068e
theorem dX6_says_0 : decode cX6_says 0 = .ok (.aload_n 0, 1) := by decide +kernel
theorem dX6_says_1 : decode cX6_says 1 = .ok (.getfield 50, 3) := by decide +kernel
theorem dX6_says_4 : decode cX6_says 4 = .ok (.iconst 2, 1) := by decide +kernel
theorem dX6_says_5 : decode cX6_says 5 = .ok (.if_icmp .ne 19, 3) := by decide +kernel
theorem dX6_says_8 : decode cX6_says 8 = .ok (.aload_n 0, 1) := by decide +kernel
theorem dX6_says_9 : decode cX6_says 9 = .ok (.getfield 139, 3) := by decide +kernel
theorem dX6_says_12 : decode cX6_says 12 = .ok (.aload_n 0, 1) := by decide +kernel
theorem dX6_says_13 : decode cX6_says 13 = .ok (.getfield 142, 3) := by decide +kernel
theorem dX6_says_16 : decode cX6_says 16 = .ok (.isub, 1) := by decide +kernel
theorem dX6_says_17 : decode cX6_says 17 = .ok (.aload_n 1, 1) := by decide +kernel
theorem dX6_says_18 : decode cX6_says 18 = .ok (.invokevirtual 148, 3) := by decide +kernel
theorem dX6_says_21 : decode cX6_says 21 = .ok (.if_icmp .eq 5, 3) := by decide +kernel
theorem dX6_says_24 : decode cX6_says 24 = .ok (.iconst 0, 1) := by decide +kernel
theorem dX6_says_25 : decode cX6_says 25 = .ok (.ireturn, 1) := by decide +kernel
theorem dX6_says_26 : decode cX6_says 26 = .ok (.iconst 0, 1) := by decide +kernel
theorem dX6_says_27 : decode cX6_says 27 = .ok (.istore_n 2, 1) := by decide +kernel
theorem dX6_says_28 : decode cX6_says 28 = .ok (.iload_n 2, 1) := by decide +kernel
theorem dX6_says_29 : decode cX6_says 29 = .ok (.aload_n 1, 1) := by decide +kernel
theorem dX6_says_30 : decode cX6_says 30 = .ok (.invokevirtual 148, 3) := by decide +kernel
theorem dX6_says_33 : decode cX6_says 33 = .ok (.if_icmp .ge 30, 3) := by decide +kernel
theorem dX6_says_36 : decode cX6_says 36 = .ok (.aload_n 0, 1) := by decide +kernel
theorem dX6_says_37 : decode cX6_says 37 = .ok (.getfield 11, 3) := by decide +kernel
theorem dX6_says_40 : decode cX6_says 40 = .ok (.aload_n 0, 1) := by decide +kernel
theorem dX6_says_41 : decode cX6_says 41 = .ok (.getfield 142, 3) := by decide +kernel
theorem dX6_says_44 : decode cX6_says 44 = .ok (.iload_n 2, 1) := by decide +kernel
theorem dX6_says_45 : decode cX6_says 45 = .ok (.iadd, 1) := by decide +kernel
theorem dX6_says_46 : decode cX6_says 46 = .ok (.iaload, 1) := by decide +kernel
theorem dX6_says_47 : decode cX6_says 47 = .ok (.aload_n 1, 1) := by decide +kernel
theorem dX6_says_48 : decode cX6_says 48 = .ok (.iload_n 2, 1) := by decide +kernel
theorem dX6_says_49 : decode cX6_says 49 = .ok (.invokevirtual 153, 3) := by decide +kernel
theorem dX6_says_52 : decode cX6_says 52 = .ok (.if_icmp .eq 5, 3) := by decide +kernel
theorem dX6_says_55 : decode cX6_says 55 = .ok (.iconst 0, 1) := by decide +kernel
theorem dX6_says_56 : decode cX6_says 56 = .ok (.ireturn, 1) := by decide +kernel
theorem dX6_says_57 : decode cX6_says 57 = .ok (.iinc 2 1, 3) := by decide +kernel
theorem dX6_says_60 : decode cX6_says 60 = .ok (.goto (-32), 3) := by decide +kernel
theorem dX6_says_63 : decode cX6_says 63 = .ok (.iconst 1, 1) := by decide +kernel
theorem dX6_says_64 : decode cX6_says 64 = .ok (.ireturn, 1) := by decide +kernel
set_option maxRecDepth 20000 in
theorem ggX6_advance_X6_readRun : GoodIn wsX6_advance wsX6_readRun := goodIn_r _ [10, 11, 1, 2, 3, 5, 15, 16, 17, 18, 19, 20, 21, 22, 23, 24, 25, 26, 27, 28, 29, 30, 31] (by decide +kernel) (by decide +kernel)
set_option maxRecDepth 20000 in
theorem gX6_advance_X6_readRun : GoodIn wsX6_advance (wsV RX6 157 RX6 yX6_readRun wsX6_readRun) := goodIn_app (goodIn_of _ (by decide +kernel)) ggX6_advance_X6_readRun
set_option maxRecDepth 20000 in
theorem ggX6_advance_X6_isSign : GoodIn wsX6_advance wsX6_isSign := goodIn_r _ [14] (by decide +kernel) (by decide +kernel)
set_option maxRecDepth 20000 in
theorem gX6_advance_X6_isSign : GoodIn wsX6_advance (va_wsS RX6 160 yX6_isSign wsX6_isSign) := goodIn_app (goodIn_of _ (by decide +kernel)) ggX6_advance_X6_isSign
theorem dX6_advance_0 : decode cX6_advance 0 = .ok (.aload_n 0, 1) := by decide +kernel
theorem dX6_advance_1 : decode cX6_advance 1 = .ok (.getfield 139, 3) := by decide +kernel
theorem dX6_advance_4 : decode cX6_advance 4 = .ok (.aload_n 0, 1) := by decide +kernel
theorem dX6_advance_5 : decode cX6_advance 5 = .ok (.getfield 24, 3) := by decide +kernel
theorem dX6_advance_8 : decode cX6_advance 8 = .ok (.if_icmp .ge 30, 3) := by decide +kernel
theorem dX6_advance_11 : decode cX6_advance 11 = .ok (.aload_n 0, 1) := by decide +kernel
theorem dX6_advance_12 : decode cX6_advance 12 = .ok (.getfield 11, 3) := by decide +kernel
theorem dX6_advance_15 : decode cX6_advance 15 = .ok (.aload_n 0, 1) := by decide +kernel
theorem dX6_advance_16 : decode cX6_advance 16 = .ok (.getfield 139, 3) := by decide +kernel
theorem dX6_advance_19 : decode cX6_advance 19 = .ok (.iaload, 1) := by decide +kernel
theorem dX6_advance_20 : decode cX6_advance 20 = .ok (.bipush 32, 2) := by decide +kernel
theorem dX6_advance_22 : decode cX6_advance 22 = .ok (.if_icmp .ne 16, 3) := by decide +kernel
theorem dX6_advance_25 : decode cX6_advance 25 = .ok (.aload_n 0, 1) := by decide +kernel
theorem dX6_advance_26 : decode cX6_advance 26 = .ok (.dup, 1) := by decide +kernel
theorem dX6_advance_27 : decode cX6_advance 27 = .ok (.getfield 139, 3) := by decide +kernel
theorem dX6_advance_30 : decode cX6_advance 30 = .ok (.iconst 1, 1) := by decide +kernel
theorem dX6_advance_31 : decode cX6_advance 31 = .ok (.iadd, 1) := by decide +kernel
theorem dX6_advance_32 : decode cX6_advance 32 = .ok (.putfield 139, 3) := by decide +kernel
theorem dX6_advance_35 : decode cX6_advance 35 = .ok (.goto (-35), 3) := by decide +kernel
theorem dX6_advance_38 : decode cX6_advance 38 = .ok (.aload_n 0, 1) := by decide +kernel
theorem dX6_advance_39 : decode cX6_advance 39 = .ok (.aload_n 0, 1) := by decide +kernel
theorem dX6_advance_40 : decode cX6_advance 40 = .ok (.getfield 139, 3) := by decide +kernel
theorem dX6_advance_43 : decode cX6_advance 43 = .ok (.putfield 142, 3) := by decide +kernel
theorem dX6_advance_46 : decode cX6_advance 46 = .ok (.aload_n 0, 1) := by decide +kernel
theorem dX6_advance_47 : decode cX6_advance 47 = .ok (.getfield 139, 3) := by decide +kernel
theorem dX6_advance_50 : decode cX6_advance 50 = .ok (.aload_n 0, 1) := by decide +kernel
theorem dX6_advance_51 : decode cX6_advance 51 = .ok (.getfield 24, 3) := by decide +kernel
theorem dX6_advance_54 : decode cX6_advance 54 = .ok (.if_icmp .lt 9, 3) := by decide +kernel
theorem dX6_advance_57 : decode cX6_advance 57 = .ok (.aload_n 0, 1) := by decide +kernel
theorem dX6_advance_58 : decode cX6_advance 58 = .ok (.iconst 1, 1) := by decide +kernel
theorem dX6_advance_59 : decode cX6_advance 59 = .ok (.putfield 50, 3) := by decide +kernel
theorem dX6_advance_62 : decode cX6_advance 62 = .ok (.return_, 1) := by decide +kernel
theorem dX6_advance_63 : decode cX6_advance 63 = .ok (.aload_n 0, 1) := by decide +kernel
theorem dX6_advance_64 : decode cX6_advance 64 = .ok (.invokevirtual 157, 3) := by decide +kernel
theorem dX6_advance_67 : decode cX6_advance 67 = .ok (.aload_n 0, 1) := by decide +kernel
theorem dX6_advance_68 : decode cX6_advance 68 = .ok (.getfield 139, 3) := by decide +kernel
theorem dX6_advance_71 : decode cX6_advance 71 = .ok (.aload_n 0, 1) := by decide +kernel
theorem dX6_advance_72 : decode cX6_advance 72 = .ok (.getfield 142, 3) := by decide +kernel
theorem dX6_advance_75 : decode cX6_advance 75 = .ok (.if_icmp .ne 45, 3) := by decide +kernel
theorem dX6_advance_78 : decode cX6_advance 78 = .ok (.aload_n 0, 1) := by decide +kernel
theorem dX6_advance_79 : decode cX6_advance 79 = .ok (.aload_n 0, 1) := by decide +kernel
theorem dX6_advance_80 : decode cX6_advance 80 = .ok (.getfield 11, 3) := by decide +kernel
theorem dX6_advance_83 : decode cX6_advance 83 = .ok (.aload_n 0, 1) := by decide +kernel
theorem dX6_advance_84 : decode cX6_advance 84 = .ok (.getfield 139, 3) := by decide +kernel
theorem dX6_advance_87 : decode cX6_advance 87 = .ok (.iaload, 1) := by decide +kernel
theorem dX6_advance_88 : decode cX6_advance 88 = .ok (.invokestatic 160, 3) := by decide +kernel
theorem dX6_advance_91 : decode cX6_advance 91 = .ok (.ifCond .eq 15, 3) := by decide +kernel
theorem dX6_advance_94 : decode cX6_advance 94 = .ok (.aload_n 0, 1) := by decide +kernel
theorem dX6_advance_95 : decode cX6_advance 95 = .ok (.getfield 11, 3) := by decide +kernel
theorem dX6_advance_98 : decode cX6_advance 98 = .ok (.aload_n 0, 1) := by decide +kernel
theorem dX6_advance_99 : decode cX6_advance 99 = .ok (.getfield 139, 3) := by decide +kernel
theorem dX6_advance_102 : decode cX6_advance 102 = .ok (.iaload, 1) := by decide +kernel
theorem dX6_advance_103 : decode cX6_advance 103 = .ok (.goto 4, 3) := by decide +kernel
theorem dX6_advance_106 : decode cX6_advance 106 = .ok (.iconst 0, 1) := by decide +kernel
theorem dX6_advance_107 : decode cX6_advance 107 = .ok (.putfield 50, 3) := by decide +kernel
theorem dX6_advance_110 : decode cX6_advance 110 = .ok (.aload_n 0, 1) := by decide +kernel
theorem dX6_advance_111 : decode cX6_advance 111 = .ok (.dup, 1) := by decide +kernel
theorem dX6_advance_112 : decode cX6_advance 112 = .ok (.getfield 139, 3) := by decide +kernel
theorem dX6_advance_115 : decode cX6_advance 115 = .ok (.iconst 1, 1) := by decide +kernel
theorem dX6_advance_116 : decode cX6_advance 116 = .ok (.iadd, 1) := by decide +kernel
theorem dX6_advance_117 : decode cX6_advance 117 = .ok (.putfield 139, 3) := by decide +kernel
theorem dX6_advance_120 : decode cX6_advance 120 = .ok (.return_, 1) := by decide +kernel
theorem dX6_readRun_0 : decode cX6_readRun 0 = .ok (.iconst 0, 1) := by decide +kernel
theorem dX6_readRun_1 : decode cX6_readRun 1 = .ok (.istore_n 1, 1) := by decide +kernel
theorem dX6_readRun_2 : decode cX6_readRun 2 = .ok (.iconst 0, 1) := by decide +kernel
theorem dX6_readRun_3 : decode cX6_readRun 3 = .ok (.istore_n 2, 1) := by decide +kernel
theorem dX6_readRun_4 : decode cX6_readRun 4 = .ok (.aload_n 0, 1) := by decide +kernel
theorem dX6_readRun_5 : decode cX6_readRun 5 = .ok (.iconst 0, 1) := by decide +kernel
theorem dX6_readRun_6 : decode cX6_readRun 6 = .ok (.putfield 97, 3) := by decide +kernel
theorem dX6_readRun_9 : decode cX6_readRun 9 = .ok (.aload_n 0, 1) := by decide +kernel
theorem dX6_readRun_10 : decode cX6_readRun 10 = .ok (.getfield 139, 3) := by decide +kernel
theorem dX6_readRun_13 : decode cX6_readRun 13 = .ok (.aload_n 0, 1) := by decide +kernel
theorem dX6_readRun_14 : decode cX6_readRun 14 = .ok (.getfield 24, 3) := by decide +kernel
theorem dX6_readRun_17 : decode cX6_readRun 17 = .ok (.if_icmp .ge 94, 3) := by decide +kernel
theorem dX6_readRun_20 : decode cX6_readRun 20 = .ok (.aload_n 0, 1) := by decide +kernel
theorem dX6_readRun_21 : decode cX6_readRun 21 = .ok (.getfield 11, 3) := by decide +kernel
theorem dX6_readRun_24 : decode cX6_readRun 24 = .ok (.aload_n 0, 1) := by decide +kernel
theorem dX6_readRun_25 : decode cX6_readRun 25 = .ok (.getfield 139, 3) := by decide +kernel
theorem dX6_readRun_28 : decode cX6_readRun 28 = .ok (.iaload, 1) := by decide +kernel
theorem dX6_readRun_29 : decode cX6_readRun 29 = .ok (.istore_n 3, 1) := by decide +kernel
theorem dX6_readRun_30 : decode cX6_readRun 30 = .ok (.iload_n 3, 1) := by decide +kernel
theorem dX6_readRun_31 : decode cX6_readRun 31 = .ok (.bipush 97, 2) := by decide +kernel
theorem dX6_readRun_33 : decode cX6_readRun 33 = .ok (.if_icmp .lt 34, 3) := by decide +kernel
theorem dX6_readRun_36 : decode cX6_readRun 36 = .ok (.iload_n 3, 1) := by decide +kernel
theorem dX6_readRun_37 : decode cX6_readRun 37 = .ok (.bipush 122, 2) := by decide +kernel
theorem dX6_readRun_39 : decode cX6_readRun 39 = .ok (.if_icmp .gt 28, 3) := by decide +kernel
theorem dX6_readRun_42 : decode cX6_readRun 42 = .ok (.aload_n 0, 1) := by decide +kernel
theorem dX6_readRun_43 : decode cX6_readRun 43 = .ok (.dup, 1) := by decide +kernel
theorem dX6_readRun_44 : decode cX6_readRun 44 = .ok (.getfield 97, 3) := by decide +kernel
theorem dX6_readRun_47 : decode cX6_readRun 47 = .ok (.iload_n 3, 1) := by decide +kernel
theorem dX6_readRun_48 : decode cX6_readRun 48 = .ok (.bipush 97, 2) := by decide +kernel
theorem dX6_readRun_50 : decode cX6_readRun 50 = .ok (.isub, 1) := by decide +kernel
theorem dX6_readRun_51 : decode cX6_readRun 51 = .ok (.iconst 1, 1) := by decide +kernel
theorem dX6_readRun_52 : decode cX6_readRun 52 = .ok (.iadd, 1) := by decide +kernel
theorem dX6_readRun_53 : decode cX6_readRun 53 = .ok (.iconst 5, 1) := by decide +kernel
theorem dX6_readRun_54 : decode cX6_readRun 54 = .ok (.iload_n 1, 1) := by decide +kernel
theorem dX6_readRun_55 : decode cX6_readRun 55 = .ok (.imul, 1) := by decide +kernel
theorem dX6_readRun_56 : decode cX6_readRun 56 = .ok (.ishl, 1) := by decide +kernel
theorem dX6_readRun_57 : decode cX6_readRun 57 = .ok (.iadd, 1) := by decide +kernel
theorem dX6_readRun_58 : decode cX6_readRun 58 = .ok (.putfield 97, 3) := by decide +kernel
theorem dX6_readRun_61 : decode cX6_readRun 61 = .ok (.iinc 1 1, 3) := by decide +kernel
theorem dX6_readRun_64 : decode cX6_readRun 64 = .ok (.goto 34, 3) := by decide +kernel
theorem dX6_readRun_67 : decode cX6_readRun 67 = .ok (.iload_n 3, 1) := by decide +kernel
theorem dX6_readRun_68 : decode cX6_readRun 68 = .ok (.bipush 48, 2) := by decide +kernel
theorem dX6_readRun_70 : decode cX6_readRun 70 = .ok (.if_icmp .lt 41, 3) := by decide +kernel
theorem dX6_readRun_73 : decode cX6_readRun 73 = .ok (.iload_n 3, 1) := by decide +kernel
theorem dX6_readRun_74 : decode cX6_readRun 74 = .ok (.bipush 57, 2) := by decide +kernel
theorem dX6_readRun_76 : decode cX6_readRun 76 = .ok (.if_icmp .gt 35, 3) := by decide +kernel
theorem dX6_readRun_79 : decode cX6_readRun 79 = .ok (.aload_n 0, 1) := by decide +kernel
theorem dX6_readRun_80 : decode cX6_readRun 80 = .ok (.aload_n 0, 1) := by decide +kernel
theorem dX6_readRun_81 : decode cX6_readRun 81 = .ok (.getfield 97, 3) := by decide +kernel
theorem dX6_readRun_84 : decode cX6_readRun 84 = .ok (.bipush 10, 2) := by decide +kernel
theorem dX6_readRun_86 : decode cX6_readRun 86 = .ok (.imul, 1) := by decide +kernel
theorem dX6_readRun_87 : decode cX6_readRun 87 = .ok (.iload_n 3, 1) := by decide +kernel
theorem dX6_readRun_88 : decode cX6_readRun 88 = .ok (.iadd, 1) := by decide +kernel
theorem dX6_readRun_89 : decode cX6_readRun 89 = .ok (.bipush 48, 2) := by decide +kernel
theorem dX6_readRun_91 : decode cX6_readRun 91 = .ok (.isub, 1) := by decide +kernel
theorem dX6_readRun_92 : decode cX6_readRun 92 = .ok (.putfield 97, 3) := by decide +kernel
theorem dX6_readRun_95 : decode cX6_readRun 95 = .ok (.iinc 2 1, 3) := by decide +kernel
theorem dX6_readRun_98 : decode cX6_readRun 98 = .ok (.aload_n 0, 1) := by decide +kernel
theorem dX6_readRun_99 : decode cX6_readRun 99 = .ok (.dup, 1) := by decide +kernel
theorem dX6_readRun_100 : decode cX6_readRun 100 = .ok (.getfield 139, 3) := by decide +kernel
theorem dX6_readRun_103 : decode cX6_readRun 103 = .ok (.iconst 1, 1) := by decide +kernel
theorem dX6_readRun_104 : decode cX6_readRun 104 = .ok (.iadd, 1) := by decide +kernel
theorem dX6_readRun_105 : decode cX6_readRun 105 = .ok (.putfield 139, 3) := by decide +kernel
theorem dX6_readRun_108 : decode cX6_readRun 108 = .ok (.goto (-99), 3) := by decide +kernel
theorem dX6_readRun_111 : decode cX6_readRun 111 = .ok (.iload_n 2, 1) := by decide +kernel
theorem dX6_readRun_112 : decode cX6_readRun 112 = .ok (.ifCond .ne 17, 3) := by decide +kernel
theorem dX6_readRun_115 : decode cX6_readRun 115 = .ok (.iload_n 1, 1) := by decide +kernel
theorem dX6_readRun_116 : decode cX6_readRun 116 = .ok (.bipush 6, 2) := by decide +kernel
theorem dX6_readRun_118 : decode cX6_readRun 118 = .ok (.if_icmp .gt 11, 3) := by decide +kernel
theorem dX6_readRun_121 : decode cX6_readRun 121 = .ok (.aload_n 0, 1) := by decide +kernel
theorem dX6_readRun_122 : decode cX6_readRun 122 = .ok (.iconst 2, 1) := by decide +kernel
theorem dX6_readRun_123 : decode cX6_readRun 123 = .ok (.putfield 50, 3) := by decide +kernel
theorem dX6_readRun_126 : decode cX6_readRun 126 = .ok (.goto 21, 3) := by decide +kernel
theorem dX6_readRun_129 : decode cX6_readRun 129 = .ok (.aload_n 0, 1) := by decide +kernel
theorem dX6_readRun_130 : decode cX6_readRun 130 = .ok (.iload_n 1, 1) := by decide +kernel
theorem dX6_readRun_131 : decode cX6_readRun 131 = .ok (.ifCond .ne 12, 3) := by decide +kernel
theorem dX6_readRun_134 : decode cX6_readRun 134 = .ok (.iload_n 2, 1) := by decide +kernel
theorem dX6_readRun_135 : decode cX6_readRun 135 = .ok (.iconst 2, 1) := by decide +kernel
theorem dX6_readRun_136 : decode cX6_readRun 136 = .ok (.if_icmp .gt 7, 3) := by decide +kernel
theorem dX6_readRun_139 : decode cX6_readRun 139 = .ok (.iconst 3, 1) := by decide +kernel
theorem dX6_readRun_140 : decode cX6_readRun 140 = .ok (.goto 4, 3) := by decide +kernel
theorem dX6_readRun_143 : decode cX6_readRun 143 = .ok (.iconst 0, 1) := by decide +kernel
theorem dX6_readRun_144 : decode cX6_readRun 144 = .ok (.putfield 50, 3) := by decide +kernel
theorem dX6_readRun_147 : decode cX6_readRun 147 = .ok (.return_, 1) := by decide +kernel
theorem dX6_isSign_0 : decode cX6_isSign 0 = .ok (.iload_n 0, 1) := by decide +kernel
theorem dX6_isSign_1 : decode cX6_isSign 1 = .ok (.bipush 59, 2) := by decide +kernel
theorem dX6_isSign_3 : decode cX6_isSign 3 = .ok (.if_icmp .eq 15, 3) := by decide +kernel
theorem dX6_isSign_6 : decode cX6_isSign 6 = .ok (.iload_n 0, 1) := by decide +kernel
theorem dX6_isSign_7 : decode cX6_isSign 7 = .ok (.bipush 91, 2) := by decide +kernel
theorem dX6_isSign_9 : decode cX6_isSign 9 = .ok (.if_icmp .eq 9, 3) := by decide +kernel
theorem dX6_isSign_12 : decode cX6_isSign 12 = .ok (.iload_n 0, 1) := by decide +kernel
theorem dX6_isSign_13 : decode cX6_isSign 13 = .ok (.bipush 93, 2) := by decide +kernel
theorem dX6_isSign_15 : decode cX6_isSign 15 = .ok (.if_icmp .ne 7, 3) := by decide +kernel
theorem dX6_isSign_18 : decode cX6_isSign 18 = .ok (.iconst 1, 1) := by decide +kernel
theorem dX6_isSign_19 : decode cX6_isSign 19 = .ok (.goto 4, 3) := by decide +kernel
theorem dX6_isSign_22 : decode cX6_isSign 22 = .ok (.iconst 0, 1) := by decide +kernel
theorem dX6_isSign_23 : decode cX6_isSign 23 = .ok (.ireturn, 1) := by decide +kernel
theorem dX7_init_0 : decode cX7_init 0 = .ok (.aload_n 0, 1) := by decide +kernel
theorem dX7_init_1 : decode cX7_init 1 = .ok (.invokespecial 3, 3) := by decide +kernel
theorem dX7_init_4 : decode cX7_init 4 = .ok (.aload_n 0, 1) := by decide +kernel
theorem dX7_init_5 : decode cX7_init 5 = .ok (.bipush 8, 2) := by decide +kernel
theorem dX7_init_7 : decode cX7_init 7 = .ok (.newarray .int, 2) := by decide +kernel
theorem dX7_init_9 : decode cX7_init 9 = .ok (.putfield 9, 3) := by decide +kernel
theorem dX7_init_12 : decode cX7_init 12 = .ok (.aload_n 0, 1) := by decide +kernel
theorem dX7_init_13 : decode cX7_init 13 = .ok (.sipush 256, 3) := by decide +kernel
theorem dX7_init_16 : decode cX7_init 16 = .ok (.newarray .int, 2) := by decide +kernel
theorem dX7_init_18 : decode cX7_init 18 = .ok (.putfield 15, 3) := by decide +kernel
theorem dX7_init_21 : decode cX7_init 21 = .ok (.aload_n 0, 1) := by decide +kernel
theorem dX7_init_22 : decode cX7_init 22 = .ok (.sipush 256, 3) := by decide +kernel
theorem dX7_init_25 : decode cX7_init 25 = .ok (.newarray .int, 2) := by decide +kernel
theorem dX7_init_27 : decode cX7_init 27 = .ok (.putfield 18, 3) := by decide +kernel
theorem dX7_init_30 : decode cX7_init 30 = .ok (.return_, 1) := by decide +kernel
set_option maxRecDepth 20000 in
theorem ggX7_find_X10_sumSets : GoodIn wsX7_find wsX10_sumSets := goodIn_r _ [15, 16, 55, 56, 57, 58, 59] (by decide +kernel) (by decide +kernel)
set_option maxRecDepth 20000 in
theorem gX7_find_X10_sumSets : GoodIn wsX7_find (wsV RX7 39 RX10 yX10_sumSets wsX10_sumSets) := goodIn_app (goodIn_of _ (by decide +kernel)) ggX7_find_X10_sumSets
set_option maxRecDepth 20000 in
theorem ggX7_find_X7_countNeeds : GoodIn wsX7_find wsX7_countNeeds := goodIn_r _ [21, 8, 22, 23, 24, 20, 25, 26, 27, 28, 29, 30, 31, 32, 33, 34, 35, 36, 6, 2, 1, 4, 41, 42, 43, 44, 45, 46, 47] (by decide +kernel) (by decide +kernel)
set_option maxRecDepth 20000 in
theorem gX7_find_X7_countNeeds : GoodIn wsX7_find (wsV RX7 46 RX7 yX7_countNeeds wsX7_countNeeds) := goodIn_app (goodIn_of _ (by decide +kernel)) ggX7_find_X7_countNeeds
set_option maxRecDepth 20000 in
theorem ggX7_find_X7_firstGoing : GoodIn wsX7_find wsX7_firstGoing := goodIn_r _ [40, 8, 33, 34, 35, 20, 36, 6, 2, 1, 4, 41, 42, 43, 44, 45, 46, 47] (by decide +kernel) (by decide +kernel)
set_option maxRecDepth 20000 in
theorem gX7_find_X7_firstGoing : GoodIn wsX7_find (wsV RX7 53 RX7 yX7_firstGoing wsX7_firstGoing) := goodIn_app (goodIn_of _ (by decide +kernel)) ggX7_find_X7_firstGoing
theorem dX7_find_0 : decode cX7_find 0 = .ok (.aload_n 0, 1) := by decide +kernel
theorem dX7_find_1 : decode cX7_find 1 = .ok (.iload_n 3, 1) := by decide +kernel
theorem dX7_find_2 : decode cX7_find 2 = .ok (.putfield 21, 3) := by decide +kernel
theorem dX7_find_5 : decode cX7_find 5 = .ok (.aload_n 0, 1) := by decide +kernel
theorem dX7_find_6 : decode cX7_find 6 = .ok (.iload 4, 2) := by decide +kernel
theorem dX7_find_8 : decode cX7_find 8 = .ok (.putfield 25, 3) := by decide +kernel
theorem dX7_find_11 : decode cX7_find 11 = .ok (.aload_n 0, 1) := by decide +kernel
theorem dX7_find_12 : decode cX7_find 12 = .ok (.aload_n 2, 1) := by decide +kernel
theorem dX7_find_13 : decode cX7_find 13 = .ok (.getfield 28, 3) := by decide +kernel
theorem dX7_find_16 : decode cX7_find 16 = .ok (.putfield 33, 3) := by decide +kernel
theorem dX7_find_19 : decode cX7_find 19 = .ok (.aload_n 1, 1) := by decide +kernel
theorem dX7_find_20 : decode cX7_find 20 = .ok (.aload_n 1, 1) := by decide +kernel
theorem dX7_find_21 : decode cX7_find 21 = .ok (.getfield 34, 3) := by decide +kernel
theorem dX7_find_24 : decode cX7_find 24 = .ok (.aload_n 0, 1) := by decide +kernel
theorem dX7_find_25 : decode cX7_find 25 = .ok (.getfield 15, 3) := by decide +kernel
theorem dX7_find_28 : decode cX7_find 28 = .ok (.invokevirtual 39, 3) := by decide +kernel
theorem dX7_find_31 : decode cX7_find 31 = .ok (.aload_n 2, 1) := by decide +kernel
theorem dX7_find_32 : decode cX7_find 32 = .ok (.getfield 43, 3) := by decide +kernel
theorem dX7_find_35 : decode cX7_find 35 = .ok (.aload_n 0, 1) := by decide +kernel
theorem dX7_find_36 : decode cX7_find 36 = .ok (.getfield 21, 3) := by decide +kernel
theorem dX7_find_39 : decode cX7_find 39 = .ok (.ixor, 1) := by decide +kernel
theorem dX7_find_40 : decode cX7_find 40 = .ok (.istore 5, 2) := by decide +kernel
theorem dX7_find_42 : decode cX7_find 42 = .ok (.aload_n 0, 1) := by decide +kernel
theorem dX7_find_43 : decode cX7_find 43 = .ok (.iload 5, 2) := by decide +kernel
theorem dX7_find_45 : decode cX7_find 45 = .ok (.invokevirtual 46, 3) := by decide +kernel
theorem dX7_find_48 : decode cX7_find 48 = .ok (.aload_n 0, 1) := by decide +kernel
theorem dX7_find_49 : decode cX7_find 49 = .ok (.aload_n 0, 1) := by decide +kernel
theorem dX7_find_50 : decode cX7_find 50 = .ok (.getfield 18, 3) := by decide +kernel
theorem dX7_find_53 : decode cX7_find 53 = .ok (.iload 5, 2) := by decide +kernel
theorem dX7_find_55 : decode cX7_find 55 = .ok (.iaload, 1) := by decide +kernel
theorem dX7_find_56 : decode cX7_find 56 = .ok (.putfield 50, 3) := by decide +kernel
theorem dX7_find_59 : decode cX7_find 59 = .ok (.iload 5, 2) := by decide +kernel
theorem dX7_find_61 : decode cX7_find 61 = .ok (.istore 6, 2) := by decide +kernel
theorem dX7_find_63 : decode cX7_find 63 = .ok (.iconst 0, 1) := by decide +kernel
theorem dX7_find_64 : decode cX7_find 64 = .ok (.istore 7, 2) := by decide +kernel
theorem dX7_find_66 : decode cX7_find 66 = .ok (.iload 7, 2) := by decide +kernel
theorem dX7_find_68 : decode cX7_find 68 = .ok (.aload_n 0, 1) := by decide +kernel
theorem dX7_find_69 : decode cX7_find 69 = .ok (.getfield 50, 3) := by decide +kernel
theorem dX7_find_72 : decode cX7_find 72 = .ok (.if_icmp .ge 34, 3) := by decide +kernel
theorem dX7_find_75 : decode cX7_find 75 = .ok (.aload_n 0, 1) := by decide +kernel
theorem dX7_find_76 : decode cX7_find 76 = .ok (.getfield 9, 3) := by decide +kernel
theorem dX7_find_79 : decode cX7_find 79 = .ok (.iload 7, 2) := by decide +kernel
theorem dX7_find_81 : decode cX7_find 81 = .ok (.aload_n 0, 1) := by decide +kernel
theorem dX7_find_82 : decode cX7_find 82 = .ok (.iload 6, 2) := by decide +kernel
theorem dX7_find_84 : decode cX7_find 84 = .ok (.invokevirtual 53, 3) := by decide +kernel
theorem dX7_find_87 : decode cX7_find 87 = .ok (.iastore, 1) := by decide +kernel
theorem dX7_find_88 : decode cX7_find 88 = .ok (.iload 6, 2) := by decide +kernel
theorem dX7_find_90 : decode cX7_find 90 = .ok (.aload_n 0, 1) := by decide +kernel
theorem dX7_find_91 : decode cX7_find 91 = .ok (.getfield 9, 3) := by decide +kernel
theorem dX7_find_94 : decode cX7_find 94 = .ok (.iload 7, 2) := by decide +kernel
theorem dX7_find_96 : decode cX7_find 96 = .ok (.iaload, 1) := by decide +kernel
theorem dX7_find_97 : decode cX7_find 97 = .ok (.ixor, 1) := by decide +kernel
theorem dX7_find_98 : decode cX7_find 98 = .ok (.istore 6, 2) := by decide +kernel
theorem dX7_find_100 : decode cX7_find 100 = .ok (.iinc 7 1, 3) := by decide +kernel
theorem dX7_find_103 : decode cX7_find 103 = .ok (.goto (-37), 3) := by decide +kernel
theorem dX7_find_106 : decode cX7_find 106 = .ok (.return_, 1) := by decide +kernel
set_option maxRecDepth 20000 in
theorem ggX7_countNeeds_X7_needOf : GoodIn wsX7_countNeeds wsX7_needOf := goodIn_r _ [6, 1, 7, 8, 9, 10, 11, 12, 13, 14, 15, 16, 5, 17, 18, 19, 20, 21, 22, 23, 24, 25, 26, 27, 28] (by decide +kernel) (by decide +kernel)
set_option maxRecDepth 20000 in
theorem gX7_countNeeds_X7_needOf : GoodIn wsX7_countNeeds (wsV RX7 57 RX7 yX7_needOf wsX7_needOf) := goodIn_app (goodIn_of _ (by decide +kernel)) ggX7_countNeeds_X7_needOf
theorem dX7_countNeeds_0 : decode cX7_countNeeds 0 = .ok (.aload_n 0, 1) := by decide +kernel
theorem dX7_countNeeds_1 : decode cX7_countNeeds 1 = .ok (.getfield 18, 3) := by decide +kernel
theorem dX7_countNeeds_4 : decode cX7_countNeeds 4 = .ok (.iconst 0, 1) := by decide +kernel
theorem dX7_countNeeds_5 : decode cX7_countNeeds 5 = .ok (.iconst 0, 1) := by decide +kernel
theorem dX7_countNeeds_6 : decode cX7_countNeeds 6 = .ok (.iastore, 1) := by decide +kernel
theorem dX7_countNeeds_7 : decode cX7_countNeeds 7 = .ok (.iconst 1, 1) := by decide +kernel
theorem dX7_countNeeds_8 : decode cX7_countNeeds 8 = .ok (.istore_n 2, 1) := by decide +kernel
theorem dX7_countNeeds_9 : decode cX7_countNeeds 9 = .ok (.iload_n 2, 1) := by decide +kernel
theorem dX7_countNeeds_10 : decode cX7_countNeeds 10 = .ok (.iload_n 1, 1) := by decide +kernel
theorem dX7_countNeeds_11 : decode cX7_countNeeds 11 = .ok (.if_icmp .gt 28, 3) := by decide +kernel
theorem dX7_countNeeds_14 : decode cX7_countNeeds 14 = .ok (.iload_n 2, 1) := by decide +kernel
theorem dX7_countNeeds_15 : decode cX7_countNeeds 15 = .ok (.iload_n 1, 1) := by decide +kernel
theorem dX7_countNeeds_16 : decode cX7_countNeeds 16 = .ok (.iconst (-1), 1) := by decide +kernel
theorem dX7_countNeeds_17 : decode cX7_countNeeds 17 = .ok (.ixor, 1) := by decide +kernel
theorem dX7_countNeeds_18 : decode cX7_countNeeds 18 = .ok (.iand, 1) := by decide +kernel
theorem dX7_countNeeds_19 : decode cX7_countNeeds 19 = .ok (.ifCond .ne 14, 3) := by decide +kernel
theorem dX7_countNeeds_22 : decode cX7_countNeeds 22 = .ok (.aload_n 0, 1) := by decide +kernel
theorem dX7_countNeeds_23 : decode cX7_countNeeds 23 = .ok (.getfield 18, 3) := by decide +kernel
theorem dX7_countNeeds_26 : decode cX7_countNeeds 26 = .ok (.iload_n 2, 1) := by decide +kernel
theorem dX7_countNeeds_27 : decode cX7_countNeeds 27 = .ok (.aload_n 0, 1) := by decide +kernel
theorem dX7_countNeeds_28 : decode cX7_countNeeds 28 = .ok (.iload_n 2, 1) := by decide +kernel
theorem dX7_countNeeds_29 : decode cX7_countNeeds 29 = .ok (.invokevirtual 57, 3) := by decide +kernel
theorem dX7_countNeeds_32 : decode cX7_countNeeds 32 = .ok (.iastore, 1) := by decide +kernel
theorem dX7_countNeeds_33 : decode cX7_countNeeds 33 = .ok (.iinc 2 1, 3) := by decide +kernel
theorem dX7_countNeeds_36 : decode cX7_countNeeds 36 = .ok (.goto (-27), 3) := by decide +kernel
theorem dX7_countNeeds_39 : decode cX7_countNeeds 39 = .ok (.return_, 1) := by decide +kernel
set_option maxRecDepth 20000 in
theorem ggX7_needOf_J6_bitCount_0f7a4 : GoodIn wsX7_needOf wsJ6_bitCount_0f7a4 := goodIn_r _ [5, 6, 7, 8] (by decide +kernel) (by decide +kernel)
set_option maxRecDepth 20000 in
theorem gX7_needOf_J6_bitCount_0f7a4 : GoodIn wsX7_needOf (va_wsS RX7 60 yJ6_bitCount_0f7a4 wsJ6_bitCount_0f7a4) := goodIn_app (goodIn_of _ (by decide +kernel)) ggX7_needOf_J6_bitCount_0f7a4
set_option maxRecDepth 20000 in
theorem ggX7_needOf_X7_canGo : GoodIn wsX7_needOf wsX7_canGo := goodIn_r _ [13, 14, 15, 16, 17, 18, 19, 20, 21, 22, 23, 24] (by decide +kernel) (by decide +kernel)
set_option maxRecDepth 20000 in
theorem gX7_needOf_X7_canGo : GoodIn wsX7_needOf (wsV RX7 65 RX7 yX7_canGo wsX7_canGo) := goodIn_app (goodIn_of _ (by decide +kernel)) ggX7_needOf_X7_canGo
theorem dX7_needOf_0 : decode cX7_needOf 0 = .ok (.iload_n 1, 1) := by decide +kernel
theorem dX7_needOf_1 : decode cX7_needOf 1 = .ok (.invokestatic 60, 3) := by decide +kernel
theorem dX7_needOf_4 : decode cX7_needOf 4 = .ok (.istore_n 2, 1) := by decide +kernel
theorem dX7_needOf_5 : decode cX7_needOf 5 = .ok (.iload_n 1, 1) := by decide +kernel
theorem dX7_needOf_6 : decode cX7_needOf 6 = .ok (.istore_n 3, 1) := by decide +kernel
theorem dX7_needOf_7 : decode cX7_needOf 7 = .ok (.iload_n 3, 1) := by decide +kernel
theorem dX7_needOf_8 : decode cX7_needOf 8 = .ok (.ifCond .le 46, 3) := by decide +kernel
theorem dX7_needOf_11 : decode cX7_needOf 11 = .ok (.aload_n 0, 1) := by decide +kernel
theorem dX7_needOf_12 : decode cX7_needOf 12 = .ok (.iload_n 3, 1) := by decide +kernel
theorem dX7_needOf_13 : decode cX7_needOf 13 = .ok (.iload_n 1, 1) := by decide +kernel
theorem dX7_needOf_14 : decode cX7_needOf 14 = .ok (.invokevirtual 65, 3) := by decide +kernel
theorem dX7_needOf_17 : decode cX7_needOf 17 = .ok (.ifCond .eq 28, 3) := by decide +kernel
theorem dX7_needOf_20 : decode cX7_needOf 20 = .ok (.aload_n 0, 1) := by decide +kernel
theorem dX7_needOf_21 : decode cX7_needOf 21 = .ok (.getfield 18, 3) := by decide +kernel
theorem dX7_needOf_24 : decode cX7_needOf 24 = .ok (.iload_n 1, 1) := by decide +kernel
theorem dX7_needOf_25 : decode cX7_needOf 25 = .ok (.iload_n 3, 1) := by decide +kernel
theorem dX7_needOf_26 : decode cX7_needOf 26 = .ok (.ixor, 1) := by decide +kernel
theorem dX7_needOf_27 : decode cX7_needOf 27 = .ok (.iaload, 1) := by decide +kernel
theorem dX7_needOf_28 : decode cX7_needOf 28 = .ok (.iconst 1, 1) := by decide +kernel
theorem dX7_needOf_29 : decode cX7_needOf 29 = .ok (.iadd, 1) := by decide +kernel
theorem dX7_needOf_30 : decode cX7_needOf 30 = .ok (.iload_n 2, 1) := by decide +kernel
theorem dX7_needOf_31 : decode cX7_needOf 31 = .ok (.if_icmp .ge 14, 3) := by decide +kernel
theorem dX7_needOf_34 : decode cX7_needOf 34 = .ok (.aload_n 0, 1) := by decide +kernel
theorem dX7_needOf_35 : decode cX7_needOf 35 = .ok (.getfield 18, 3) := by decide +kernel
theorem dX7_needOf_38 : decode cX7_needOf 38 = .ok (.iload_n 1, 1) := by decide +kernel
theorem dX7_needOf_39 : decode cX7_needOf 39 = .ok (.iload_n 3, 1) := by decide +kernel
theorem dX7_needOf_40 : decode cX7_needOf 40 = .ok (.ixor, 1) := by decide +kernel
theorem dX7_needOf_41 : decode cX7_needOf 41 = .ok (.iaload, 1) := by decide +kernel
theorem dX7_needOf_42 : decode cX7_needOf 42 = .ok (.iconst 1, 1) := by decide +kernel
theorem dX7_needOf_43 : decode cX7_needOf 43 = .ok (.iadd, 1) := by decide +kernel
theorem dX7_needOf_44 : decode cX7_needOf 44 = .ok (.istore_n 2, 1) := by decide +kernel
theorem dX7_needOf_45 : decode cX7_needOf 45 = .ok (.iload_n 3, 1) := by decide +kernel
theorem dX7_needOf_46 : decode cX7_needOf 46 = .ok (.iconst 1, 1) := by decide +kernel
theorem dX7_needOf_47 : decode cX7_needOf 47 = .ok (.isub, 1) := by decide +kernel
theorem dX7_needOf_48 : decode cX7_needOf 48 = .ok (.iload_n 1, 1) := by decide +kernel
theorem dX7_needOf_49 : decode cX7_needOf 49 = .ok (.iand, 1) := by decide +kernel
theorem dX7_needOf_50 : decode cX7_needOf 50 = .ok (.istore_n 3, 1) := by decide +kernel
theorem dX7_needOf_51 : decode cX7_needOf 51 = .ok (.goto (-44), 3) := by decide +kernel
theorem dX7_needOf_54 : decode cX7_needOf 54 = .ok (.iload_n 2, 1) := by decide +kernel
theorem dX7_needOf_55 : decode cX7_needOf 55 = .ok (.ireturn, 1) := by decide +kernel
set_option maxRecDepth 20000 in
theorem ggX7_firstGoing_X7_canGo : GoodIn wsX7_firstGoing wsX7_canGo := goodIn_r _ [6, 7, 8, 9, 10, 11, 12, 13, 14, 15, 16, 17] (by decide +kernel) (by decide +kernel)
set_option maxRecDepth 20000 in
theorem gX7_firstGoing_X7_canGo : GoodIn wsX7_firstGoing (wsV RX7 65 RX7 yX7_canGo wsX7_canGo) := goodIn_app (goodIn_of _ (by decide +kernel)) ggX7_firstGoing_X7_canGo
theorem dX7_firstGoing_0 : decode cX7_firstGoing 0 = .ok (.iconst 1, 1) := by decide +kernel
theorem dX7_firstGoing_1 : decode cX7_firstGoing 1 = .ok (.istore_n 2, 1) := by decide +kernel
theorem dX7_firstGoing_2 : decode cX7_firstGoing 2 = .ok (.iload_n 2, 1) := by decide +kernel
theorem dX7_firstGoing_3 : decode cX7_firstGoing 3 = .ok (.iload_n 1, 1) := by decide +kernel
theorem dX7_firstGoing_4 : decode cX7_firstGoing 4 = .ok (.if_icmp .gt 39, 3) := by decide +kernel
theorem dX7_firstGoing_7 : decode cX7_firstGoing 7 = .ok (.aload_n 0, 1) := by decide +kernel
theorem dX7_firstGoing_8 : decode cX7_firstGoing 8 = .ok (.iload_n 2, 1) := by decide +kernel
theorem dX7_firstGoing_9 : decode cX7_firstGoing 9 = .ok (.iload_n 1, 1) := by decide +kernel
theorem dX7_firstGoing_10 : decode cX7_firstGoing 10 = .ok (.invokevirtual 65, 3) := by decide +kernel
theorem dX7_firstGoing_13 : decode cX7_firstGoing 13 = .ok (.ifCond .eq 24, 3) := by decide +kernel
theorem dX7_firstGoing_16 : decode cX7_firstGoing 16 = .ok (.aload_n 0, 1) := by decide +kernel
theorem dX7_firstGoing_17 : decode cX7_firstGoing 17 = .ok (.getfield 18, 3) := by decide +kernel
theorem dX7_firstGoing_20 : decode cX7_firstGoing 20 = .ok (.iload_n 1, 1) := by decide +kernel
theorem dX7_firstGoing_21 : decode cX7_firstGoing 21 = .ok (.iload_n 2, 1) := by decide +kernel
theorem dX7_firstGoing_22 : decode cX7_firstGoing 22 = .ok (.ixor, 1) := by decide +kernel
theorem dX7_firstGoing_23 : decode cX7_firstGoing 23 = .ok (.iaload, 1) := by decide +kernel
theorem dX7_firstGoing_24 : decode cX7_firstGoing 24 = .ok (.aload_n 0, 1) := by decide +kernel
theorem dX7_firstGoing_25 : decode cX7_firstGoing 25 = .ok (.getfield 18, 3) := by decide +kernel
theorem dX7_firstGoing_28 : decode cX7_firstGoing 28 = .ok (.iload_n 1, 1) := by decide +kernel
theorem dX7_firstGoing_29 : decode cX7_firstGoing 29 = .ok (.iaload, 1) := by decide +kernel
theorem dX7_firstGoing_30 : decode cX7_firstGoing 30 = .ok (.iconst 1, 1) := by decide +kernel
theorem dX7_firstGoing_31 : decode cX7_firstGoing 31 = .ok (.isub, 1) := by decide +kernel
theorem dX7_firstGoing_32 : decode cX7_firstGoing 32 = .ok (.if_icmp .ne 5, 3) := by decide +kernel
theorem dX7_firstGoing_35 : decode cX7_firstGoing 35 = .ok (.iload_n 2, 1) := by decide +kernel
theorem dX7_firstGoing_36 : decode cX7_firstGoing 36 = .ok (.ireturn, 1) := by decide +kernel
theorem dX7_firstGoing_37 : decode cX7_firstGoing 37 = .ok (.iinc 2 1, 3) := by decide +kernel
theorem dX7_firstGoing_40 : decode cX7_firstGoing 40 = .ok (.goto (-38), 3) := by decide +kernel
theorem dX7_firstGoing_43 : decode cX7_firstGoing 43 = .ok (.iload_n 1, 1) := by decide +kernel
theorem dX7_firstGoing_44 : decode cX7_firstGoing 44 = .ok (.ireturn, 1) := by decide +kernel
theorem dX7_canGo_0 : decode cX7_canGo 0 = .ok (.iload_n 1, 1) := by decide +kernel
theorem dX7_canGo_1 : decode cX7_canGo 1 = .ok (.iload_n 2, 1) := by decide +kernel
theorem dX7_canGo_2 : decode cX7_canGo 2 = .ok (.iconst (-1), 1) := by decide +kernel
theorem dX7_canGo_3 : decode cX7_canGo 3 = .ok (.ixor, 1) := by decide +kernel
theorem dX7_canGo_4 : decode cX7_canGo 4 = .ok (.iand, 1) := by decide +kernel
theorem dX7_canGo_5 : decode cX7_canGo 5 = .ok (.ifCond .ne 40, 3) := by decide +kernel
theorem dX7_canGo_8 : decode cX7_canGo 8 = .ok (.aload_n 0, 1) := by decide +kernel
theorem dX7_canGo_9 : decode cX7_canGo 9 = .ok (.getfield 15, 3) := by decide +kernel
theorem dX7_canGo_12 : decode cX7_canGo 12 = .ok (.iload_n 1, 1) := by decide +kernel
theorem dX7_canGo_13 : decode cX7_canGo 13 = .ok (.iaload, 1) := by decide +kernel
theorem dX7_canGo_14 : decode cX7_canGo 14 = .ok (.aload_n 0, 1) := by decide +kernel
theorem dX7_canGo_15 : decode cX7_canGo 15 = .ok (.getfield 25, 3) := by decide +kernel
theorem dX7_canGo_18 : decode cX7_canGo 18 = .ok (.if_icmp .gt 27, 3) := by decide +kernel
theorem dX7_canGo_21 : decode cX7_canGo 21 = .ok (.aload_n 0, 1) := by decide +kernel
theorem dX7_canGo_22 : decode cX7_canGo 22 = .ok (.getfield 15, 3) := by decide +kernel
theorem dX7_canGo_25 : decode cX7_canGo 25 = .ok (.aload_n 0, 1) := by decide +kernel
theorem dX7_canGo_26 : decode cX7_canGo 26 = .ok (.getfield 21, 3) := by decide +kernel
theorem dX7_canGo_29 : decode cX7_canGo 29 = .ok (.iload_n 2, 1) := by decide +kernel
theorem dX7_canGo_30 : decode cX7_canGo 30 = .ok (.ixor, 1) := by decide +kernel
theorem dX7_canGo_31 : decode cX7_canGo 31 = .ok (.iload_n 1, 1) := by decide +kernel
theorem dX7_canGo_32 : decode cX7_canGo 32 = .ok (.ixor, 1) := by decide +kernel
theorem dX7_canGo_33 : decode cX7_canGo 33 = .ok (.iaload, 1) := by decide +kernel
theorem dX7_canGo_34 : decode cX7_canGo 34 = .ok (.aload_n 0, 1) := by decide +kernel
theorem dX7_canGo_35 : decode cX7_canGo 35 = .ok (.getfield 33, 3) := by decide +kernel
theorem dX7_canGo_38 : decode cX7_canGo 38 = .ok (.if_icmp .gt 7, 3) := by decide +kernel
theorem dX7_canGo_41 : decode cX7_canGo 41 = .ok (.iconst 1, 1) := by decide +kernel
theorem dX7_canGo_42 : decode cX7_canGo 42 = .ok (.goto 4, 3) := by decide +kernel
theorem dX7_canGo_45 : decode cX7_canGo 45 = .ok (.iconst 0, 1) := by decide +kernel
theorem dX7_canGo_46 : decode cX7_canGo 46 = .ok (.ireturn, 1) := by decide +kernel
theorem dX8_init_0 : decode cX8_init 0 = .ok (.aload_n 0, 1) := by decide +kernel
theorem dX8_init_1 : decode cX8_init 1 = .ok (.invokespecial 3, 3) := by decide +kernel
theorem dX8_init_4 : decode cX8_init 4 = .ok (.aload_n 0, 1) := by decide +kernel
theorem dX8_init_5 : decode cX8_init 5 = .ok (.bipush 6, 2) := by decide +kernel
theorem dX8_init_7 : decode cX8_init 7 = .ok (.putfield 9, 3) := by decide +kernel
theorem dX8_init_10 : decode cX8_init 10 = .ok (.aload_n 0, 1) := by decide +kernel
theorem dX8_init_11 : decode cX8_init 11 = .ok (.iconst 1, 1) := by decide +kernel
theorem dX8_init_12 : decode cX8_init 12 = .ok (.putfield 15, 3) := by decide +kernel
theorem dX8_init_15 : decode cX8_init 15 = .ok (.aload_n 0, 1) := by decide +kernel
theorem dX8_init_16 : decode cX8_init 16 = .ok (.bipush 8, 2) := by decide +kernel
theorem dX8_init_18 : decode cX8_init 18 = .ok (.newarray .int, 2) := by decide +kernel
theorem dX8_init_20 : decode cX8_init 20 = .ok (.putfield 18, 3) := by decide +kernel
theorem dX8_init_23 : decode cX8_init 23 = .ok (.aload_n 0, 1) := by decide +kernel
theorem dX8_init_24 : decode cX8_init 24 = .ok (.bipush 8, 2) := by decide +kernel
theorem dX8_init_26 : decode cX8_init 26 = .ok (.newarray .int, 2) := by decide +kernel
theorem dX8_init_28 : decode cX8_init 28 = .ok (.putfield 22, 3) := by decide +kernel
theorem dX8_init_31 : decode cX8_init 31 = .ok (.aload_n 0, 1) := by decide +kernel
theorem dX8_init_32 : decode cX8_init 32 = .ok (.bipush 8, 2) := by decide +kernel
theorem dX8_init_34 : decode cX8_init 34 = .ok (.newarray .float, 2) := by decide +kernel
theorem dX8_init_36 : decode cX8_init 36 = .ok (.putfield 25, 3) := by decide +kernel
theorem dX8_init_39 : decode cX8_init 39 = .ok (.return_, 1) := by decide +kernel
theorem dX8_begin_0 : decode cX8_begin 0 = .ok (.aload_n 0, 1) := by decide +kernel
theorem dX8_begin_1 : decode cX8_begin 1 = .ok (.iload_n 1, 1) := by decide +kernel
theorem dX8_begin_2 : decode cX8_begin 2 = .ok (.putfield 9, 3) := by decide +kernel
theorem dX8_begin_5 : decode cX8_begin 5 = .ok (.aload_n 0, 1) := by decide +kernel
theorem dX8_begin_6 : decode cX8_begin 6 = .ok (.iload_n 2, 1) := by decide +kernel
theorem dX8_begin_7 : decode cX8_begin 7 = .ok (.putfield 15, 3) := by decide +kernel
theorem dX8_begin_10 : decode cX8_begin 10 = .ok (.aload_n 0, 1) := by decide +kernel
theorem dX8_begin_11 : decode cX8_begin 11 = .ok (.iconst 0, 1) := by decide +kernel
theorem dX8_begin_12 : decode cX8_begin 12 = .ok (.putfield 29, 3) := by decide +kernel
theorem dX8_begin_15 : decode cX8_begin 15 = .ok (.aload_n 0, 1) := by decide +kernel
theorem dX8_begin_16 : decode cX8_begin 16 = .ok (.iconst 0, 1) := by decide +kernel

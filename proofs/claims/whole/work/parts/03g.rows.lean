theorem dX12_way_39 : decode cX12_way 39 = .ok (.iconst 0, 1) := by decide +kernel
theorem dX12_way_40 : decode cX12_way 40 = .ok (.istore 4, 2) := by decide +kernel
theorem dX12_way_42 : decode cX12_way 42 = .ok (.iload 4, 2) := by decide +kernel
theorem dX12_way_44 : decode cX12_way 44 = .ok (.aload_n 0, 1) := by decide +kernel
theorem dX12_way_45 : decode cX12_way 45 = .ok (.getfield 7, 3) := by decide +kernel
theorem dX12_way_48 : decode cX12_way 48 = .ok (.iconst 2, 1) := by decide +kernel
theorem dX12_way_49 : decode cX12_way 49 = .ok (.iaload, 1) := by decide +kernel
theorem dX12_way_50 : decode cX12_way 50 = .ok (.if_icmp .ge 41, 3) := by decide +kernel
theorem dX12_way_53 : decode cX12_way 53 = .ok (.iload_n 3, 1) := by decide +kernel
theorem dX12_way_54 : decode cX12_way 54 = .ok (.ifCond .le 37, 3) := by decide +kernel
theorem dX12_way_57 : decode cX12_way 57 = .ok (.aload_n 0, 1) := by decide +kernel
theorem dX12_way_58 : decode cX12_way 58 = .ok (.getfield 7, 3) := by decide +kernel
theorem dX12_way_61 : decode cX12_way 61 = .ok (.iconst 3, 1) := by decide +kernel
theorem dX12_way_62 : decode cX12_way 62 = .ok (.iaload, 1) := by decide +kernel
theorem dX12_way_63 : decode cX12_way 63 = .ok (.iload 4, 2) := by decide +kernel
theorem dX12_way_65 : decode cX12_way 65 = .ok (.invokestatic 196, 3) := by decide +kernel
theorem dX12_way_68 : decode cX12_way 68 = .ok (.ifCond .eq 17, 3) := by decide +kernel
theorem dX12_way_71 : decode cX12_way 71 = .ok (.aload_n 0, 1) := by decide +kernel
theorem dX12_way_72 : decode cX12_way 72 = .ok (.getfield 7, 3) := by decide +kernel
theorem dX12_way_75 : decode cX12_way 75 = .ok (.bipush 32, 2) := by decide +kernel
theorem dX12_way_77 : decode cX12_way 77 = .ok (.iload 4, 2) := by decide +kernel
theorem dX12_way_79 : decode cX12_way 79 = .ok (.iadd, 1) := by decide +kernel
theorem dX12_way_80 : decode cX12_way 80 = .ok (.dup2, 1) := by decide +kernel
theorem dX12_way_81 : decode cX12_way 81 = .ok (.iaload, 1) := by decide +kernel
theorem dX12_way_82 : decode cX12_way 82 = .ok (.iload_n 3, 1) := by decide +kernel
theorem dX12_way_83 : decode cX12_way 83 = .ok (.isub, 1) := by decide +kernel
theorem dX12_way_84 : decode cX12_way 84 = .ok (.iastore, 1) := by decide +kernel
theorem dX12_way_85 : decode cX12_way 85 = .ok (.iinc 4 1, 3) := by decide +kernel
theorem dX12_way_88 : decode cX12_way 88 = .ok (.goto (-46), 3) := by decide +kernel
theorem dX12_way_91 : decode cX12_way 91 = .ok (.goto (-91), 3) := by decide +kernel
theorem dX12_way_94 : decode cX12_way 94 = .ok (.return_, 1) := by decide +kernel
set_option maxRecDepth 20000 in
theorem ggX12_heats_Jxf58ca_floatToIntBits_5c35a : GoodIn wsX12_heats wsJxf58ca_floatToIntBits_5c35a := goodIn_r _ [10, 11, 12, 13, 5, 14, 15, 16, 9, 17] (by decide +kernel) (by decide +kernel)
set_option maxRecDepth 20000 in
theorem gX12_heats_Jxf58ca_floatToIntBits_5c35a : GoodIn wsX12_heats (va_wsS RX12 222 yJxf58ca_floatToIntBits_5c35a wsJxf58ca_floatToIntBits_5c35a) := goodIn_app (goodIn_of _ (by decide +kernel)) ggX12_heats_Jxf58ca_floatToIntBits_5c35a
theorem dX12_heats_0 : decode cX12_heats 0 = .ok (.iconst 0, 1) := by decide +kernel
theorem dX12_heats_1 : decode cX12_heats 1 = .ok (.istore_n 2, 1) := by decide +kernel
theorem dX12_heats_2 : decode cX12_heats 2 = .ok (.iload_n 2, 1) := by decide +kernel
theorem dX12_heats_3 : decode cX12_heats 3 = .ok (.aload_n 0, 1) := by decide +kernel
theorem dX12_heats_4 : decode cX12_heats 4 = .ok (.getfield 7, 3) := by decide +kernel
theorem dX12_heats_7 : decode cX12_heats 7 = .ok (.iconst 2, 1) := by decide +kernel
theorem dX12_heats_8 : decode cX12_heats 8 = .ok (.iaload, 1) := by decide +kernel
theorem dX12_heats_9 : decode cX12_heats 9 = .ok (.if_icmp .ge 47, 3) := by decide +kernel
theorem dX12_heats_12 : decode cX12_heats 12 = .ok (.aload_n 0, 1) := by decide +kernel
theorem dX12_heats_13 : decode cX12_heats 13 = .ok (.getfield 7, 3) := by decide +kernel
theorem dX12_heats_16 : decode cX12_heats 16 = .ok (.bipush 48, 2) := by decide +kernel
theorem dX12_heats_18 : decode cX12_heats 18 = .ok (.iload_n 2, 1) := by decide +kernel
theorem dX12_heats_19 : decode cX12_heats 19 = .ok (.iadd, 1) := by decide +kernel
theorem dX12_heats_20 : decode cX12_heats 20 = .ok (.iaload, 1) := by decide +kernel
theorem dX12_heats_21 : decode cX12_heats 21 = .ok (.invokestatic 215, 3) := by decide +kernel
theorem dX12_heats_24 : decode cX12_heats 24 = .ok (.ldc 221, 2) := by decide +kernel
theorem dX12_heats_26 : decode cX12_heats 26 = .ok (.fmul, 1) := by decide +kernel
theorem dX12_heats_27 : decode cX12_heats 27 = .ok (.fstore_n 3, 1) := by decide +kernel
theorem dX12_heats_28 : decode cX12_heats 28 = .ok (.iload_n 2, 1) := by decide +kernel
theorem dX12_heats_29 : decode cX12_heats 29 = .ok (.iload_n 1, 1) := by decide +kernel
theorem dX12_heats_30 : decode cX12_heats 30 = .ok (.if_icmp .ne 7, 3) := by decide +kernel
theorem dX12_heats_33 : decode cX12_heats 33 = .ok (.fload_n 3, 1) := by decide +kernel
theorem dX12_heats_34 : decode cX12_heats 34 = .ok (.fconst 1, 1) := by decide +kernel
theorem dX12_heats_35 : decode cX12_heats 35 = .ok (.fadd, 1) := by decide +kernel
theorem dX12_heats_36 : decode cX12_heats 36 = .ok (.fstore_n 3, 1) := by decide +kernel
theorem dX12_heats_37 : decode cX12_heats 37 = .ok (.aload_n 0, 1) := by decide +kernel
theorem dX12_heats_38 : decode cX12_heats 38 = .ok (.getfield 7, 3) := by decide +kernel
theorem dX12_heats_41 : decode cX12_heats 41 = .ok (.bipush 48, 2) := by decide +kernel
theorem dX12_heats_43 : decode cX12_heats 43 = .ok (.iload_n 2, 1) := by decide +kernel
theorem dX12_heats_44 : decode cX12_heats 44 = .ok (.iadd, 1) := by decide +kernel
theorem dX12_heats_45 : decode cX12_heats 45 = .ok (.fload_n 3, 1) := by decide +kernel
theorem dX12_heats_46 : decode cX12_heats 46 = .ok (.invokestatic 222, 3) := by decide +kernel
theorem dX12_heats_49 : decode cX12_heats 49 = .ok (.iastore, 1) := by decide +kernel
theorem dX12_heats_50 : decode cX12_heats 50 = .ok (.iinc 2 1, 3) := by decide +kernel
theorem dX12_heats_53 : decode cX12_heats 53 = .ok (.goto (-51), 3) := by decide +kernel
theorem dX12_heats_56 : decode cX12_heats 56 = .ok (.return_, 1) := by decide +kernel
theorem dX12_isUp_0 : decode cX12_isUp 0 = .ok (.aload_n 0, 1) := by decide +kernel
theorem dX12_isUp_1 : decode cX12_isUp 1 = .ok (.getfield 7, 3) := by decide +kernel
theorem dX12_isUp_4 : decode cX12_isUp 4 = .ok (.iconst 1, 1) := by decide +kernel
theorem dX12_isUp_5 : decode cX12_isUp 5 = .ok (.iaload, 1) := by decide +kernel
theorem dX12_isUp_6 : decode cX12_isUp 6 = .ok (.ifCond .ne 5, 3) := by decide +kernel
theorem dX12_isUp_9 : decode cX12_isUp 9 = .ok (.iconst 1, 1) := by decide +kernel
theorem dX12_isUp_10 : decode cX12_isUp 10 = .ok (.ireturn, 1) := by decide +kernel
theorem dX12_isUp_11 : decode cX12_isUp 11 = .ok (.aload_n 0, 1) := by decide +kernel
theorem dX12_isUp_12 : decode cX12_isUp 12 = .ok (.getfield 7, 3) := by decide +kernel
theorem dX12_isUp_15 : decode cX12_isUp 15 = .ok (.iconst 1, 1) := by decide +kernel
theorem dX12_isUp_16 : decode cX12_isUp 16 = .ok (.iaload, 1) := by decide +kernel
theorem dX12_isUp_17 : decode cX12_isUp 17 = .ok (.iconst 1, 1) := by decide +kernel
theorem dX12_isUp_18 : decode cX12_isUp 18 = .ok (.if_icmp .ne 30, 3) := by decide +kernel
theorem dX12_isUp_21 : decode cX12_isUp 21 = .ok (.aload_n 0, 1) := by decide +kernel
theorem dX12_isUp_22 : decode cX12_isUp 22 = .ok (.getfield 7, 3) := by decide +kernel
theorem dX12_isUp_25 : decode cX12_isUp 25 = .ok (.bipush 40, 2) := by decide +kernel
theorem dX12_isUp_27 : decode cX12_isUp 27 = .ok (.iload_n 1, 1) := by decide +kernel
theorem dX12_isUp_28 : decode cX12_isUp 28 = .ok (.iadd, 1) := by decide +kernel
theorem dX12_isUp_29 : decode cX12_isUp 29 = .ok (.iaload, 1) := by decide +kernel
theorem dX12_isUp_30 : decode cX12_isUp 30 = .ok (.aload_n 0, 1) := by decide +kernel
theorem dX12_isUp_31 : decode cX12_isUp 31 = .ok (.getfield 7, 3) := by decide +kernel
theorem dX12_isUp_34 : decode cX12_isUp 34 = .ok (.bipush 16, 2) := by decide +kernel
theorem dX12_isUp_36 : decode cX12_isUp 36 = .ok (.iload_n 1, 1) := by decide +kernel
theorem dX12_isUp_37 : decode cX12_isUp 37 = .ok (.iadd, 1) := by decide +kernel
theorem dX12_isUp_38 : decode cX12_isUp 38 = .ok (.iaload, 1) := by decide +kernel
theorem dX12_isUp_39 : decode cX12_isUp 39 = .ok (.if_icmp .lt 7, 3) := by decide +kernel
theorem dX12_isUp_42 : decode cX12_isUp 42 = .ok (.iconst 1, 1) := by decide +kernel
theorem dX12_isUp_43 : decode cX12_isUp 43 = .ok (.goto 4, 3) := by decide +kernel
theorem dX12_isUp_46 : decode cX12_isUp 46 = .ok (.iconst 0, 1) := by decide +kernel
theorem dX12_isUp_47 : decode cX12_isUp 47 = .ok (.ireturn, 1) := by decide +kernel
theorem dX12_isUp_48 : decode cX12_isUp 48 = .ok (.aload_n 0, 1) := by decide +kernel
theorem dX12_isUp_49 : decode cX12_isUp 49 = .ok (.getfield 7, 3) := by decide +kernel
theorem dX12_isUp_52 : decode cX12_isUp 52 = .ok (.bipush 48, 2) := by decide +kernel
theorem dX12_isUp_54 : decode cX12_isUp 54 = .ok (.iload_n 1, 1) := by decide +kernel
theorem dX12_isUp_55 : decode cX12_isUp 55 = .ok (.iadd, 1) := by decide +kernel
theorem dX12_isUp_56 : decode cX12_isUp 56 = .ok (.iaload, 1) := by decide +kernel
theorem dX12_isUp_57 : decode cX12_isUp 57 = .ok (.invokestatic 215, 3) := by decide +kernel
theorem dX12_isUp_60 : decode cX12_isUp 60 = .ok (.aload_n 0, 1) := by decide +kernel
theorem dX12_isUp_61 : decode cX12_isUp 61 = .ok (.getfield 7, 3) := by decide +kernel
theorem dX12_isUp_64 : decode cX12_isUp 64 = .ok (.bipush 24, 2) := by decide +kernel
theorem dX12_isUp_66 : decode cX12_isUp 66 = .ok (.iload_n 1, 1) := by decide +kernel
theorem dX12_isUp_67 : decode cX12_isUp 67 = .ok (.iadd, 1) := by decide +kernel
theorem dX12_isUp_68 : decode cX12_isUp 68 = .ok (.iaload, 1) := by decide +kernel
theorem dX12_isUp_69 : decode cX12_isUp 69 = .ok (.i2f, 1) := by decide +kernel
theorem dX12_isUp_70 : decode cX12_isUp 70 = .ok (.fmul, 1) := by decide +kernel
theorem dX12_isUp_71 : decode cX12_isUp 71 = .ok (.aload_n 0, 1) := by decide +kernel
theorem dX12_isUp_72 : decode cX12_isUp 72 = .ok (.getfield 7, 3) := by decide +kernel
theorem dX12_isUp_75 : decode cX12_isUp 75 = .ok (.bipush 16, 2) := by decide +kernel
theorem dX12_isUp_77 : decode cX12_isUp 77 = .ok (.iload_n 1, 1) := by decide +kernel
theorem dX12_isUp_78 : decode cX12_isUp 78 = .ok (.iadd, 1) := by decide +kernel
theorem dX12_isUp_79 : decode cX12_isUp 79 = .ok (.iaload, 1) := by decide +kernel
theorem dX12_isUp_80 : decode cX12_isUp 80 = .ok (.i2f, 1) := by decide +kernel
theorem dX12_isUp_81 : decode cX12_isUp 81 = .ok (.fcmp .l, 1) := by decide +kernel
theorem dX12_isUp_82 : decode cX12_isUp 82 = .ok (.ifCond .lt 7, 3) := by decide +kernel
theorem dX12_isUp_85 : decode cX12_isUp 85 = .ok (.iconst 1, 1) := by decide +kernel
theorem dX12_isUp_86 : decode cX12_isUp 86 = .ok (.goto 4, 3) := by decide +kernel
theorem dX12_isUp_89 : decode cX12_isUp 89 = .ok (.iconst 0, 1) := by decide +kernel
theorem dX12_isUp_90 : decode cX12_isUp 90 = .ok (.ireturn, 1) := by decide +kernel
set_option maxRecDepth 20000 in
theorem ggX12_asks_X12_heats : GoodIn wsX12_asks wsX12_heats := goodIn_r _ [6, 1, 7, 8, 9, 10, 11, 12, 13, 14, 15, 16, 17, 18, 19, 20, 21, 22, 64, 65, 66, 67, 68, 69, 70, 71, 72, 73, 74, 75, 76, 77, 78, 79, 80, 81, 82, 83, 84, 85, 86, 87, 88, 89, 90, 91, 92, 93, 94, 95, 96, 97, 98, 99, 100, 101, 102, 103, 104, 105, 106, 107, 108, 109, 110] (by decide +kernel) (by decide +kernel)
set_option maxRecDepth 20000 in
theorem gX12_asks_X12_heats : GoodIn wsX12_asks (wsV RX12 226 RX12 yX12_heats wsX12_heats) := goodIn_app (goodIn_of _ (by decide +kernel)) ggX12_asks_X12_heats
set_option maxRecDepth 20000 in
theorem ggX12_asks_X12_bitOf : GoodIn wsX12_asks wsX12_bitOf := goodIn_r _ [25] (by decide +kernel) (by decide +kernel)
set_option maxRecDepth 20000 in
theorem gX12_asks_X12_bitOf : GoodIn wsX12_asks (va_wsS RX12 196 yX12_bitOf wsX12_bitOf) := goodIn_app (goodIn_of _ (by decide +kernel)) ggX12_asks_X12_bitOf
set_option maxRecDepth 20000 in
theorem ggX12_asks_X12_entry : GoodIn wsX12_asks wsX12_entry := goodIn_r _ [29, 1, 30, 31, 5, 32, 64, 65, 66, 67, 68, 69, 70, 71, 72, 73, 74, 75, 76, 77, 78, 79, 80, 81, 82, 83, 84, 85, 86, 87, 88, 89, 90, 91, 92, 93, 94, 95, 96, 97, 98, 99, 100, 101, 102, 103, 104, 105, 106, 107, 108, 109, 110] (by decide +kernel) (by decide +kernel)
set_option maxRecDepth 20000 in
theorem gX12_asks_X12_entry : GoodIn wsX12_asks (wsV RX12 199 RX12 yX12_entry wsX12_entry) := goodIn_app (goodIn_of _ (by decide +kernel)) ggX12_asks_X12_entry
set_option maxRecDepth 20000 in
theorem ggX12_asks_X12_isUp : GoodIn wsX12_asks wsX12_isUp := goodIn_r _ [36, 1, 7, 8, 9, 10, 64, 65, 66, 67, 68, 69, 70, 71, 72, 73, 74, 75, 76, 77, 78, 79, 80, 81, 82, 83, 84, 85, 86, 87, 88, 89, 90, 91, 92, 93, 94, 95, 96, 97, 98, 99, 100, 101, 102, 103, 104, 105, 106, 107, 108, 109, 110] (by decide +kernel) (by decide +kernel)
set_option maxRecDepth 20000 in
theorem gX12_asks_X12_isUp : GoodIn wsX12_asks (wsV RX12 229 RX12 yX12_isUp wsX12_isUp) := goodIn_app (goodIn_of _ (by decide +kernel)) ggX12_asks_X12_isUp
set_option maxRecDepth 20000 in
theorem ggX12_asks_X12_way : GoodIn wsX12_asks wsX12_way := goodIn_r _ [40, 1, 41, 42, 43, 5, 44, 23, 24, 25, 45, 46, 47, 48, 49, 50, 51, 52, 26, 27, 28, 29, 30, 31, 32, 53, 54, 55, 56, 57, 58, 59, 64, 65, 66, 67, 68, 69, 70, 71, 72, 73, 74, 75, 76, 77, 78, 79, 80, 81, 82, 83, 84, 85, 86, 87, 88, 89, 90, 91, 92, 93, 94, 95, 96, 97, 98, 99, 100, 101, 102, 103, 104, 105, 106, 107, 108, 109, 110] (by decide +kernel) (by decide +kernel)
set_option maxRecDepth 20000 in
theorem gX12_asks_X12_way : GoodIn wsX12_asks (wsV RX12 232 RX12 yX12_way wsX12_way) := goodIn_app (goodIn_of _ (by decide +kernel)) ggX12_asks_X12_way
set_option maxRecDepth 20000 in
theorem ggX12_asks_X12_up : GoodIn wsX12_asks wsX12_up := goodIn_r _ [63, 1, 26, 27, 28, 5, 29, 30, 31, 32, 53, 54, 55, 56, 57, 58, 59, 64, 65, 66, 67, 68, 69, 70, 71, 72, 73, 74, 75, 76, 77, 78, 79, 80, 81, 82, 83, 84, 85, 86, 87, 88, 89, 90, 91, 92, 93, 94, 95, 96, 97, 98, 99, 100, 101, 102, 103, 104, 105, 106, 107, 108, 109, 110] (by decide +kernel) (by decide +kernel)
set_option maxRecDepth 20000 in
theorem gX12_asks_X12_up : GoodIn wsX12_asks (wsV RX12 235 RX12 yX12_up wsX12_up) := goodIn_app (goodIn_of _ (by decide +kernel)) ggX12_asks_X12_up
theorem dX12_asks_0 : decode cX12_asks 0 = .ok (.aload_n 0, 1) := by decide +kernel
theorem dX12_asks_1 : decode cX12_asks 1 = .ok (.iload_n 1, 1) := by decide +kernel
theorem dX12_asks_2 : decode cX12_asks 2 = .ok (.invokevirtual 226, 3) := by decide +kernel
theorem dX12_asks_5 : decode cX12_asks 5 = .ok (.aload_n 0, 1) := by decide +kernel
theorem dX12_asks_6 : decode cX12_asks 6 = .ok (.getfield 7, 3) := by decide +kernel
theorem dX12_asks_9 : decode cX12_asks 9 = .ok (.iconst 3, 1) := by decide +kernel
theorem dX12_asks_10 : decode cX12_asks 10 = .ok (.iaload, 1) := by decide +kernel
theorem dX12_asks_11 : decode cX12_asks 11 = .ok (.iload_n 1, 1) := by decide +kernel
theorem dX12_asks_12 : decode cX12_asks 12 = .ok (.invokestatic 196, 3) := by decide +kernel
theorem dX12_asks_15 : decode cX12_asks 15 = .ok (.ifCond .eq 43, 3) := by decide +kernel
theorem dX12_asks_18 : decode cX12_asks 18 = .ok (.aload_n 0, 1) := by decide +kernel
theorem dX12_asks_19 : decode cX12_asks 19 = .ok (.getfield 7, 3) := by decide +kernel
theorem dX12_asks_22 : decode cX12_asks 22 = .ok (.bipush 32, 2) := by decide +kernel
theorem dX12_asks_24 : decode cX12_asks 24 = .ok (.iload_n 1, 1) := by decide +kernel
theorem dX12_asks_25 : decode cX12_asks 25 = .ok (.iadd, 1) := by decide +kernel
theorem dX12_asks_26 : decode cX12_asks 26 = .ok (.bipush 60, 2) := by decide +kernel
theorem dX12_asks_28 : decode cX12_asks 28 = .ok (.aload_n 0, 1) := by decide +kernel
theorem dX12_asks_29 : decode cX12_asks 29 = .ok (.getfield 7, 3) := by decide +kernel
theorem dX12_asks_32 : decode cX12_asks 32 = .ok (.bipush 16, 2) := by decide +kernel
theorem dX12_asks_34 : decode cX12_asks 34 = .ok (.iload_n 1, 1) := by decide +kernel
theorem dX12_asks_35 : decode cX12_asks 35 = .ok (.iadd, 1) := by decide +kernel
theorem dX12_asks_36 : decode cX12_asks 36 = .ok (.iaload, 1) := by decide +kernel
theorem dX12_asks_37 : decode cX12_asks 37 = .ok (.imul, 1) := by decide +kernel
theorem dX12_asks_38 : decode cX12_asks 38 = .ok (.aload_n 0, 1) := by decide +kernel
theorem dX12_asks_39 : decode cX12_asks 39 = .ok (.getfield 7, 3) := by decide +kernel
theorem dX12_asks_42 : decode cX12_asks 42 = .ok (.bipush 8, 2) := by decide +kernel
theorem dX12_asks_44 : decode cX12_asks 44 = .ok (.iload_n 1, 1) := by decide +kernel
theorem dX12_asks_45 : decode cX12_asks 45 = .ok (.iadd, 1) := by decide +kernel
theorem dX12_asks_46 : decode cX12_asks 46 = .ok (.iaload, 1) := by decide +kernel
theorem dX12_asks_47 : decode cX12_asks 47 = .ok (.idiv, 1) := by decide +kernel
theorem dX12_asks_48 : decode cX12_asks 48 = .ok (.iastore, 1) := by decide +kernel
theorem dX12_asks_49 : decode cX12_asks 49 = .ok (.aload_n 0, 1) := by decide +kernel
theorem dX12_asks_50 : decode cX12_asks 50 = .ok (.iconst 0, 1) := by decide +kernel
theorem dX12_asks_51 : decode cX12_asks 51 = .ok (.iload_n 1, 1) := by decide +kernel
theorem dX12_asks_52 : decode cX12_asks 52 = .ok (.iconst 0, 1) := by decide +kernel
theorem dX12_asks_53 : decode cX12_asks 53 = .ok (.invokevirtual 199, 3) := by decide +kernel
theorem dX12_asks_56 : decode cX12_asks 56 = .ok (.iconst 0, 1) := by decide +kernel
theorem dX12_asks_57 : decode cX12_asks 57 = .ok (.ireturn, 1) := by decide +kernel
theorem dX12_asks_58 : decode cX12_asks 58 = .ok (.aload_n 0, 1) := by decide +kernel
theorem dX12_asks_59 : decode cX12_asks 59 = .ok (.getfield 7, 3) := by decide +kernel
theorem dX12_asks_62 : decode cX12_asks 62 = .ok (.bipush 8, 2) := by decide +kernel
theorem dX12_asks_64 : decode cX12_asks 64 = .ok (.iload_n 1, 1) := by decide +kernel
theorem dX12_asks_65 : decode cX12_asks 65 = .ok (.iadd, 1) := by decide +kernel
theorem dX12_asks_66 : decode cX12_asks 66 = .ok (.iaload, 1) := by decide +kernel
theorem dX12_asks_67 : decode cX12_asks 67 = .ok (.aload_n 0, 1) := by decide +kernel
theorem dX12_asks_68 : decode cX12_asks 68 = .ok (.getfield 7, 3) := by decide +kernel
theorem dX12_asks_71 : decode cX12_asks 71 = .ok (.iconst 0, 1) := by decide +kernel
theorem dX12_asks_72 : decode cX12_asks 72 = .ok (.iaload, 1) := by decide +kernel
theorem dX12_asks_73 : decode cX12_asks 73 = .ok (.if_icmp .le 7, 3) := by decide +kernel
theorem dX12_asks_76 : decode cX12_asks 76 = .ok (.iconst 1, 1) := by decide +kernel
theorem dX12_asks_77 : decode cX12_asks 77 = .ok (.goto 4, 3) := by decide +kernel
theorem dX12_asks_80 : decode cX12_asks 80 = .ok (.iconst 0, 1) := by decide +kernel
theorem dX12_asks_81 : decode cX12_asks 81 = .ok (.istore_n 2, 1) := by decide +kernel
theorem dX12_asks_82 : decode cX12_asks 82 = .ok (.aload_n 0, 1) := by decide +kernel
theorem dX12_asks_83 : decode cX12_asks 83 = .ok (.getfield 7, 3) := by decide +kernel
theorem dX12_asks_86 : decode cX12_asks 86 = .ok (.iconst 4, 1) := by decide +kernel
theorem dX12_asks_87 : decode cX12_asks 87 = .ok (.iaload, 1) := by decide +kernel
theorem dX12_asks_88 : decode cX12_asks 88 = .ok (.istore_n 3, 1) := by decide +kernel
theorem dX12_asks_89 : decode cX12_asks 89 = .ok (.iload_n 2, 1) := by decide +kernel
theorem dX12_asks_90 : decode cX12_asks 90 = .ok (.ifCond .ne 12, 3) := by decide +kernel
theorem dX12_asks_93 : decode cX12_asks 93 = .ok (.aload_n 0, 1) := by decide +kernel
theorem dX12_asks_94 : decode cX12_asks 94 = .ok (.getfield 7, 3) := by decide +kernel
theorem dX12_asks_97 : decode cX12_asks 97 = .ok (.iconst 1, 1) := by decide +kernel
theorem dX12_asks_98 : decode cX12_asks 98 = .ok (.iaload, 1) := by decide +kernel
theorem dX12_asks_99 : decode cX12_asks 99 = .ok (.ifCond .le 71, 3) := by decide +kernel
theorem dX12_asks_102 : decode cX12_asks 102 = .ok (.aload_n 0, 1) := by decide +kernel
theorem dX12_asks_103 : decode cX12_asks 103 = .ok (.getfield 7, 3) := by decide +kernel
theorem dX12_asks_106 : decode cX12_asks 106 = .ok (.iconst 4, 1) := by decide +kernel
theorem dX12_asks_107 : decode cX12_asks 107 = .ok (.dup2, 1) := by decide +kernel
theorem dX12_asks_108 : decode cX12_asks 108 = .ok (.iaload, 1) := by decide +kernel
theorem dX12_asks_109 : decode cX12_asks 109 = .ok (.aload_n 0, 1) := by decide +kernel
theorem dX12_asks_110 : decode cX12_asks 110 = .ok (.getfield 7, 3) := by decide +kernel
theorem dX12_asks_113 : decode cX12_asks 113 = .ok (.bipush 24, 2) := by decide +kernel
theorem dX12_asks_115 : decode cX12_asks 115 = .ok (.iload_n 1, 1) := by decide +kernel
theorem dX12_asks_116 : decode cX12_asks 116 = .ok (.iadd, 1) := by decide +kernel
theorem dX12_asks_117 : decode cX12_asks 117 = .ok (.iaload, 1) := by decide +kernel
theorem dX12_asks_118 : decode cX12_asks 118 = .ok (.iadd, 1) := by decide +kernel
theorem dX12_asks_119 : decode cX12_asks 119 = .ok (.iastore, 1) := by decide +kernel
theorem dX12_asks_120 : decode cX12_asks 120 = .ok (.aload_n 0, 1) := by decide +kernel
theorem dX12_asks_121 : decode cX12_asks 121 = .ok (.iconst 1, 1) := by decide +kernel
theorem dX12_asks_122 : decode cX12_asks 122 = .ok (.iload_n 1, 1) := by decide +kernel
theorem dX12_asks_123 : decode cX12_asks 123 = .ok (.aload_n 0, 1) := by decide +kernel
theorem dX12_asks_124 : decode cX12_asks 124 = .ok (.getfield 7, 3) := by decide +kernel
theorem dX12_asks_127 : decode cX12_asks 127 = .ok (.bipush 24, 2) := by decide +kernel
theorem dX12_asks_129 : decode cX12_asks 129 = .ok (.iload_n 1, 1) := by decide +kernel
theorem dX12_asks_130 : decode cX12_asks 130 = .ok (.iadd, 1) := by decide +kernel
theorem dX12_asks_131 : decode cX12_asks 131 = .ok (.iaload, 1) := by decide +kernel
theorem dX12_asks_132 : decode cX12_asks 132 = .ok (.invokevirtual 199, 3) := by decide +kernel
theorem dX12_asks_135 : decode cX12_asks 135 = .ok (.iload_n 2, 1) := by decide +kernel
theorem dX12_asks_136 : decode cX12_asks 136 = .ok (.ifCond .ne 34, 3) := by decide +kernel
theorem dX12_asks_139 : decode cX12_asks 139 = .ok (.aload_n 0, 1) := by decide +kernel
theorem dX12_asks_140 : decode cX12_asks 140 = .ok (.getfield 7, 3) := by decide +kernel
theorem dX12_asks_143 : decode cX12_asks 143 = .ok (.iconst 1, 1) := by decide +kernel
theorem dX12_asks_144 : decode cX12_asks 144 = .ok (.iaload, 1) := by decide +kernel
theorem dX12_asks_145 : decode cX12_asks 145 = .ok (.iconst 1, 1) := by decide +kernel
theorem dX12_asks_146 : decode cX12_asks 146 = .ok (.if_icmp .ne 24, 3) := by decide +kernel
theorem dX12_asks_149 : decode cX12_asks 149 = .ok (.aload_n 0, 1) := by decide +kernel
theorem dX12_asks_150 : decode cX12_asks 150 = .ok (.getfield 7, 3) := by decide +kernel
theorem dX12_asks_153 : decode cX12_asks 153 = .ok (.bipush 40, 2) := by decide +kernel
theorem dX12_asks_155 : decode cX12_asks 155 = .ok (.iload_n 1, 1) := by decide +kernel
theorem dX12_asks_156 : decode cX12_asks 156 = .ok (.iadd, 1) := by decide +kernel
theorem dX12_asks_157 : decode cX12_asks 157 = .ok (.dup2, 1) := by decide +kernel
theorem dX12_asks_158 : decode cX12_asks 158 = .ok (.iaload, 1) := by decide +kernel
theorem dX12_asks_159 : decode cX12_asks 159 = .ok (.aload_n 0, 1) := by decide +kernel
theorem dX12_asks_160 : decode cX12_asks 160 = .ok (.getfield 7, 3) := by decide +kernel
theorem dX12_asks_163 : decode cX12_asks 163 = .ok (.bipush 24, 2) := by decide +kernel
theorem dX12_asks_165 : decode cX12_asks 165 = .ok (.iload_n 1, 1) := by decide +kernel
theorem dX12_asks_166 : decode cX12_asks 166 = .ok (.iadd, 1) := by decide +kernel
theorem dX12_asks_167 : decode cX12_asks 167 = .ok (.iaload, 1) := by decide +kernel
theorem dX12_asks_168 : decode cX12_asks 168 = .ok (.iadd, 1) := by decide +kernel
theorem dX12_asks_169 : decode cX12_asks 169 = .ok (.iastore, 1) := by decide +kernel
theorem dX12_asks_170 : decode cX12_asks 170 = .ok (.iload_n 2, 1) := by decide +kernel
theorem dX12_asks_171 : decode cX12_asks 171 = .ok (.ifCond .ne 29, 3) := by decide +kernel
theorem dX12_asks_174 : decode cX12_asks 174 = .ok (.aload_n 0, 1) := by decide +kernel
theorem dX12_asks_175 : decode cX12_asks 175 = .ok (.iload_n 1, 1) := by decide +kernel
theorem dX12_asks_176 : decode cX12_asks 176 = .ok (.invokevirtual 229, 3) := by decide +kernel
theorem dX12_asks_179 : decode cX12_asks 179 = .ok (.ifCond .eq 21, 3) := by decide +kernel
theorem dX12_asks_182 : decode cX12_asks 182 = .ok (.aload_n 0, 1) := by decide +kernel
theorem dX12_asks_183 : decode cX12_asks 183 = .ok (.aload_n 0, 1) := by decide +kernel
theorem dX12_asks_184 : decode cX12_asks 184 = .ok (.getfield 7, 3) := by decide +kernel
theorem dX12_asks_187 : decode cX12_asks 187 = .ok (.bipush 8, 2) := by decide +kernel
theorem dX12_asks_189 : decode cX12_asks 189 = .ok (.iload_n 1, 1) := by decide +kernel
theorem dX12_asks_190 : decode cX12_asks 190 = .ok (.iadd, 1) := by decide +kernel
theorem dX12_asks_191 : decode cX12_asks 191 = .ok (.iaload, 1) := by decide +kernel
theorem dX12_asks_192 : decode cX12_asks 192 = .ok (.invokevirtual 232, 3) := by decide +kernel
theorem dX12_asks_195 : decode cX12_asks 195 = .ok (.aload_n 0, 1) := by decide +kernel
theorem dX12_asks_196 : decode cX12_asks 196 = .ok (.iload_n 1, 1) := by decide +kernel
theorem dX12_asks_197 : decode cX12_asks 197 = .ok (.invokevirtual 235, 3) := by decide +kernel
theorem dX12_asks_200 : decode cX12_asks 200 = .ok (.aload_n 0, 1) := by decide +kernel
theorem dX12_asks_201 : decode cX12_asks 201 = .ok (.getfield 7, 3) := by decide +kernel
theorem dX12_asks_204 : decode cX12_asks 204 = .ok (.iconst 4, 1) := by decide +kernel
theorem dX12_asks_205 : decode cX12_asks 205 = .ok (.iaload, 1) := by decide +kernel
theorem dX12_asks_206 : decode cX12_asks 206 = .ok (.iload_n 3, 1) := by decide +kernel
theorem dX12_asks_207 : decode cX12_asks 207 = .ok (.isub, 1) := by decide +kernel
theorem dX12_asks_208 : decode cX12_asks 208 = .ok (.ireturn, 1) := by decide +kernel
set_option maxRecDepth 20000 in
theorem ggX12_logs_X12_asks : GoodIn wsX12_logs wsX12_asks := goodIn_r _ [6, 1, 7, 8, 9, 5, 10, 11, 12, 13, 14, 15, 16, 17, 18, 19, 20, 21, 22, 23, 24, 25, 26, 27, 28, 29, 30, 31, 32, 33, 34, 35, 36, 37, 38, 39, 40, 41, 42, 43, 44, 45, 46, 47, 48, 49, 50, 51, 52, 53, 54, 55, 56, 57, 58, 59, 60, 61, 62, 63, 64, 65, 66, 67, 68, 69, 70, 71, 72, 73, 74, 75, 76, 77, 78, 79, 80, 81, 82, 83, 84, 85, 86, 87, 88, 89, 90, 91, 92, 93, 94, 95, 96, 97, 98, 99, 100, 101, 102, 103, 104, 105, 106, 107, 108, 109, 110, 111, 112, 113, 114] (by decide +kernel) (by decide +kernel)
set_option maxRecDepth 20000 in
theorem gX12_logs_X12_asks : GoodIn wsX12_logs (wsV RX12 238 RX12 yX12_asks wsX12_asks) := goodIn_app (goodIn_of _ (by decide +kernel)) ggX12_logs_X12_asks
theorem dX12_logs_0 : decode cX12_logs 0 = .ok (.aload_n 0, 1) := by decide +kernel
theorem dX12_logs_1 : decode cX12_logs 1 = .ok (.iload_n 1, 1) := by decide +kernel
theorem dX12_logs_2 : decode cX12_logs 2 = .ok (.invokevirtual 238, 3) := by decide +kernel
theorem dX12_logs_5 : decode cX12_logs 5 = .ok (.istore_n 2, 1) := by decide +kernel
theorem dX12_logs_6 : decode cX12_logs 6 = .ok (.aload_n 0, 1) := by decide +kernel
theorem dX12_logs_7 : decode cX12_logs 7 = .ok (.getfield 7, 3) := by decide +kernel
theorem dX12_logs_10 : decode cX12_logs 10 = .ok (.bipush 7, 2) := by decide +kernel
theorem dX12_logs_12 : decode cX12_logs 12 = .ok (.iaload, 1) := by decide +kernel
theorem dX12_logs_13 : decode cX12_logs 13 = .ok (.istore_n 3, 1) := by decide +kernel
theorem dX12_logs_14 : decode cX12_logs 14 = .ok (.aload_n 0, 1) := by decide +kernel
theorem dX12_logs_15 : decode cX12_logs 15 = .ok (.getfield 7, 3) := by decide +kernel
theorem dX12_logs_18 : decode cX12_logs 18 = .ok (.bipush 104, 2) := by decide +kernel
theorem dX12_logs_20 : decode cX12_logs 20 = .ok (.iload_n 3, 1) := by decide +kernel
theorem dX12_logs_21 : decode cX12_logs 21 = .ok (.iadd, 1) := by decide +kernel
theorem dX12_logs_22 : decode cX12_logs 22 = .ok (.iload_n 1, 1) := by decide +kernel
theorem dX12_logs_23 : decode cX12_logs 23 = .ok (.iastore, 1) := by decide +kernel
theorem dX12_logs_24 : decode cX12_logs 24 = .ok (.aload_n 0, 1) := by decide +kernel
theorem dX12_logs_25 : decode cX12_logs 25 = .ok (.getfield 7, 3) := by decide +kernel
theorem dX12_logs_28 : decode cX12_logs 28 = .ok (.sipush 144, 3) := by decide +kernel
theorem dX12_logs_31 : decode cX12_logs 31 = .ok (.iload_n 3, 1) := by decide +kernel
theorem dX12_logs_32 : decode cX12_logs 32 = .ok (.iadd, 1) := by decide +kernel
theorem dX12_logs_33 : decode cX12_logs 33 = .ok (.iload_n 2, 1) := by decide +kernel
theorem dX12_logs_34 : decode cX12_logs 34 = .ok (.iastore, 1) := by decide +kernel
theorem dX12_logs_35 : decode cX12_logs 35 = .ok (.aload_n 0, 1) := by decide +kernel
theorem dX12_logs_36 : decode cX12_logs 36 = .ok (.getfield 7, 3) := by decide +kernel
theorem dX12_logs_39 : decode cX12_logs 39 = .ok (.sipush 184, 3) := by decide +kernel
theorem dX12_logs_42 : decode cX12_logs 42 = .ok (.iload_n 3, 1) := by decide +kernel
theorem dX12_logs_43 : decode cX12_logs 43 = .ok (.iadd, 1) := by decide +kernel
theorem dX12_logs_44 : decode cX12_logs 44 = .ok (.aload_n 0, 1) := by decide +kernel
theorem dX12_logs_45 : decode cX12_logs 45 = .ok (.getfield 7, 3) := by decide +kernel
theorem dX12_logs_48 : decode cX12_logs 48 = .ok (.iconst 3, 1) := by decide +kernel
theorem dX12_logs_49 : decode cX12_logs 49 = .ok (.iaload, 1) := by decide +kernel
theorem dX12_logs_50 : decode cX12_logs 50 = .ok (.iastore, 1) := by decide +kernel
theorem dX12_logs_51 : decode cX12_logs 51 = .ok (.iconst 0, 1) := by decide +kernel
theorem dX12_logs_52 : decode cX12_logs 52 = .ok (.istore 4, 2) := by decide +kernel
theorem dX12_logs_54 : decode cX12_logs 54 = .ok (.iload 4, 2) := by decide +kernel
theorem dX12_logs_56 : decode cX12_logs 56 = .ok (.bipush 8, 2) := by decide +kernel
theorem dX12_logs_58 : decode cX12_logs 58 = .ok (.if_icmp .ge 35, 3) := by decide +kernel
theorem dX12_logs_61 : decode cX12_logs 61 = .ok (.aload_n 0, 1) := by decide +kernel
theorem dX12_logs_62 : decode cX12_logs 62 = .ok (.getfield 7, 3) := by decide +kernel
theorem dX12_logs_65 : decode cX12_logs 65 = .ok (.sipush 224, 3) := by decide +kernel
theorem dX12_logs_68 : decode cX12_logs 68 = .ok (.bipush 8, 2) := by decide +kernel
theorem dX12_logs_70 : decode cX12_logs 70 = .ok (.iload_n 3, 1) := by decide +kernel
theorem dX12_logs_71 : decode cX12_logs 71 = .ok (.imul, 1) := by decide +kernel
theorem dX12_logs_72 : decode cX12_logs 72 = .ok (.iadd, 1) := by decide +kernel
theorem dX12_logs_73 : decode cX12_logs 73 = .ok (.iload 4, 2) := by decide +kernel
theorem dX12_logs_75 : decode cX12_logs 75 = .ok (.iadd, 1) := by decide +kernel
theorem dX12_logs_76 : decode cX12_logs 76 = .ok (.aload_n 0, 1) := by decide +kernel
theorem dX12_logs_77 : decode cX12_logs 77 = .ok (.getfield 7, 3) := by decide +kernel
theorem dX12_logs_80 : decode cX12_logs 80 = .ok (.bipush 32, 2) := by decide +kernel
theorem dX12_logs_82 : decode cX12_logs 82 = .ok (.iload 4, 2) := by decide +kernel
theorem dX12_logs_84 : decode cX12_logs 84 = .ok (.iadd, 1) := by decide +kernel
theorem dX12_logs_85 : decode cX12_logs 85 = .ok (.iaload, 1) := by decide +kernel
theorem dX12_logs_86 : decode cX12_logs 86 = .ok (.iastore, 1) := by decide +kernel
theorem dX12_logs_87 : decode cX12_logs 87 = .ok (.iinc 4 1, 3) := by decide +kernel
theorem dX12_logs_90 : decode cX12_logs 90 = .ok (.goto (-36), 3) := by decide +kernel
theorem dX12_logs_93 : decode cX12_logs 93 = .ok (.aload_n 0, 1) := by decide +kernel
theorem dX12_logs_94 : decode cX12_logs 94 = .ok (.getfield 7, 3) := by decide +kernel
theorem dX12_logs_97 : decode cX12_logs 97 = .ok (.bipush 7, 2) := by decide +kernel
theorem dX12_logs_99 : decode cX12_logs 99 = .ok (.dup2, 1) := by decide +kernel
theorem dX12_logs_100 : decode cX12_logs 100 = .ok (.iaload, 1) := by decide +kernel
theorem dX12_logs_101 : decode cX12_logs 101 = .ok (.iconst 1, 1) := by decide +kernel
theorem dX12_logs_102 : decode cX12_logs 102 = .ok (.iadd, 1) := by decide +kernel
theorem dX12_logs_103 : decode cX12_logs 103 = .ok (.iastore, 1) := by decide +kernel
theorem dX12_logs_104 : decode cX12_logs 104 = .ok (.iload_n 2, 1) := by decide +kernel
theorem dX12_logs_105 : decode cX12_logs 105 = .ok (.ireturn, 1) := by decide +kernel
set_option maxRecDepth 20000 in
theorem ggX12_keeps_X12_copies : GoodIn wsX12_keeps wsX12_copies := goodIn_r _ [7] (by decide +kernel) (by decide +kernel)
set_option maxRecDepth 20000 in
theorem gX12_keeps_X12_copies : GoodIn wsX12_keeps (va_wsS RX12 177 yX12_copies wsX12_copies) := goodIn_app (goodIn_of _ (by decide +kernel)) ggX12_keeps_X12_copies
theorem dX12_keeps_0 : decode cX12_keeps 0 = .ok (.aload_n 0, 1) := by decide +kernel
theorem dX12_keeps_1 : decode cX12_keeps 1 = .ok (.getfield 181, 3) := by decide +kernel
theorem dX12_keeps_4 : decode cX12_keeps 4 = .ok (.bipush 8, 2) := by decide +kernel
theorem dX12_keeps_6 : decode cX12_keeps 6 = .ok (.if_icmp .ne 44, 3) := by decide +kernel
theorem dX12_keeps_9 : decode cX12_keeps 9 = .ok (.iconst 0, 1) := by decide +kernel
theorem dX12_keeps_10 : decode cX12_keeps 10 = .ok (.istore_n 1, 1) := by decide +kernel
theorem dX12_keeps_11 : decode cX12_keeps 11 = .ok (.iload_n 1, 1) := by decide +kernel
theorem dX12_keeps_12 : decode cX12_keeps 12 = .ok (.sipush 5845, 3) := by decide +kernel
theorem dX12_keeps_15 : decode cX12_keeps 15 = .ok (.if_icmp .ge 25, 3) := by decide +kernel
theorem dX12_keeps_18 : decode cX12_keeps 18 = .ok (.aload_n 0, 1) := by decide +kernel
theorem dX12_keeps_19 : decode cX12_keeps 19 = .ok (.getfield 16, 3) := by decide +kernel
theorem dX12_keeps_22 : decode cX12_keeps 22 = .ok (.iload_n 1, 1) := by decide +kernel
theorem dX12_keeps_23 : decode cX12_keeps 23 = .ok (.aload_n 0, 1) := by decide +kernel
theorem dX12_keeps_24 : decode cX12_keeps 24 = .ok (.getfield 16, 3) := by decide +kernel
theorem dX12_keeps_27 : decode cX12_keeps 27 = .ok (.iload_n 1, 1) := by decide +kernel
theorem dX12_keeps_28 : decode cX12_keeps 28 = .ok (.sipush 835, 3) := by decide +kernel
theorem dX12_keeps_31 : decode cX12_keeps 31 = .ok (.iadd, 1) := by decide +kernel
theorem dX12_keeps_32 : decode cX12_keeps 32 = .ok (.iaload, 1) := by decide +kernel
theorem dX12_keeps_33 : decode cX12_keeps 33 = .ok (.iastore, 1) := by decide +kernel
theorem dX12_keeps_34 : decode cX12_keeps 34 = .ok (.iinc 1 1, 3) := by decide +kernel
theorem dX12_keeps_37 : decode cX12_keeps 37 = .ok (.goto (-26), 3) := by decide +kernel
theorem dX12_keeps_40 : decode cX12_keeps 40 = .ok (.aload_n 0, 1) := by decide +kernel
theorem dX12_keeps_41 : decode cX12_keeps 41 = .ok (.dup, 1) := by decide +kernel
theorem dX12_keeps_42 : decode cX12_keeps 42 = .ok (.getfield 181, 3) := by decide +kernel
theorem dX12_keeps_45 : decode cX12_keeps 45 = .ok (.iconst 1, 1) := by decide +kernel
theorem dX12_keeps_46 : decode cX12_keeps 46 = .ok (.isub, 1) := by decide +kernel
theorem dX12_keeps_47 : decode cX12_keeps 47 = .ok (.putfield 181, 3) := by decide +kernel
theorem dX12_keeps_50 : decode cX12_keeps 50 = .ok (.aload_n 0, 1) := by decide +kernel
theorem dX12_keeps_51 : decode cX12_keeps 51 = .ok (.getfield 7, 3) := by decide +kernel
theorem dX12_keeps_54 : decode cX12_keeps 54 = .ok (.iconst 0, 1) := by decide +kernel
theorem dX12_keeps_55 : decode cX12_keeps 55 = .ok (.aload_n 0, 1) := by decide +kernel
theorem dX12_keeps_56 : decode cX12_keeps 56 = .ok (.getfield 16, 3) := by decide +kernel
theorem dX12_keeps_59 : decode cX12_keeps 59 = .ok (.sipush 835, 3) := by decide +kernel
theorem dX12_keeps_62 : decode cX12_keeps 62 = .ok (.aload_n 0, 1) := by decide +kernel
theorem dX12_keeps_63 : decode cX12_keeps 63 = .ok (.getfield 181, 3) := by decide +kernel
theorem dX12_keeps_66 : decode cX12_keeps 66 = .ok (.imul, 1) := by decide +kernel
theorem dX12_keeps_67 : decode cX12_keeps 67 = .ok (.invokestatic 177, 3) := by decide +kernel
theorem dX12_keeps_70 : decode cX12_keeps 70 = .ok (.aload_n 0, 1) := by decide +kernel
theorem dX12_keeps_71 : decode cX12_keeps 71 = .ok (.dup, 1) := by decide +kernel
theorem dX12_keeps_72 : decode cX12_keeps 72 = .ok (.getfield 181, 3) := by decide +kernel
theorem dX12_keeps_75 : decode cX12_keeps 75 = .ok (.iconst 1, 1) := by decide +kernel
theorem dX12_keeps_76 : decode cX12_keeps 76 = .ok (.iadd, 1) := by decide +kernel
theorem dX12_keeps_77 : decode cX12_keeps 77 = .ok (.putfield 181, 3) := by decide +kernel
theorem dX12_keeps_80 : decode cX12_keeps 80 = .ok (.return_, 1) := by decide +kernel
set_option maxRecDepth 20000 in
theorem ggX12_undo_X12_copies : GoodIn wsX12_undo wsX12_copies := goodIn_r _ [7] (by decide +kernel) (by decide +kernel)
set_option maxRecDepth 20000 in
theorem gX12_undo_X12_copies : GoodIn wsX12_undo (va_wsS RX12 177 yX12_copies wsX12_copies) := goodIn_app (goodIn_of _ (by decide +kernel)) ggX12_undo_X12_copies
theorem dX12_undo_0 : decode cX12_undo 0 = .ok (.aload_n 0, 1) := by decide +kernel
theorem dX12_undo_1 : decode cX12_undo 1 = .ok (.getfield 181, 3) := by decide +kernel
theorem dX12_undo_4 : decode cX12_undo 4 = .ok (.ifCond .ne 5, 3) := by decide +kernel
theorem dX12_undo_7 : decode cX12_undo 7 = .ok (.iconst (-1), 1) := by decide +kernel
theorem dX12_undo_8 : decode cX12_undo 8 = .ok (.ireturn, 1) := by decide +kernel
theorem dX12_undo_9 : decode cX12_undo 9 = .ok (.aload_n 0, 1) := by decide +kernel
theorem dX12_undo_10 : decode cX12_undo 10 = .ok (.dup, 1) := by decide +kernel
theorem dX12_undo_11 : decode cX12_undo 11 = .ok (.getfield 181, 3) := by decide +kernel
theorem dX12_undo_14 : decode cX12_undo 14 = .ok (.iconst 1, 1) := by decide +kernel
theorem dX12_undo_15 : decode cX12_undo 15 = .ok (.isub, 1) := by decide +kernel
theorem dX12_undo_16 : decode cX12_undo 16 = .ok (.putfield 181, 3) := by decide +kernel
theorem dX12_undo_19 : decode cX12_undo 19 = .ok (.aload_n 0, 1) := by decide +kernel
theorem dX12_undo_20 : decode cX12_undo 20 = .ok (.getfield 16, 3) := by decide +kernel
theorem dX12_undo_23 : decode cX12_undo 23 = .ok (.sipush 835, 3) := by decide +kernel
theorem dX12_undo_26 : decode cX12_undo 26 = .ok (.aload_n 0, 1) := by decide +kernel
theorem dX12_undo_27 : decode cX12_undo 27 = .ok (.getfield 181, 3) := by decide +kernel
theorem dX12_undo_30 : decode cX12_undo 30 = .ok (.imul, 1) := by decide +kernel
theorem dX12_undo_31 : decode cX12_undo 31 = .ok (.aload_n 0, 1) := by decide +kernel
theorem dX12_undo_32 : decode cX12_undo 32 = .ok (.getfield 7, 3) := by decide +kernel
theorem dX12_undo_35 : decode cX12_undo 35 = .ok (.iconst 0, 1) := by decide +kernel
theorem dX12_undo_36 : decode cX12_undo 36 = .ok (.invokestatic 177, 3) := by decide +kernel
theorem dX12_undo_39 : decode cX12_undo 39 = .ok (.aload_n 0, 1) := by decide +kernel
theorem dX12_undo_40 : decode cX12_undo 40 = .ok (.getfield 181, 3) := by decide +kernel
theorem dX12_undo_43 : decode cX12_undo 43 = .ok (.ireturn, 1) := by decide +kernel
set_option maxRecDepth 20000 in
theorem ggX12_request_X12_isItem : GoodIn wsX12_request wsX12_isItem := goodIn_r _ [6, 1, 7, 8, 5, 9, 92, 93, 94, 95, 96, 97, 98, 99, 100, 101, 102, 103, 104, 105, 106, 107, 108, 109, 110, 111, 112, 113, 114, 115, 116, 117, 118, 119, 120, 121, 122, 123, 124, 125, 126, 127, 128, 129, 130, 131, 132, 133, 134, 135, 136, 137, 138] (by decide +kernel) (by decide +kernel)
set_option maxRecDepth 20000 in
theorem gX12_request_X12_isItem : GoodIn wsX12_request (wsV RX12 242 RX12 yX12_isItem wsX12_isItem) := goodIn_app (goodIn_of _ (by decide +kernel)) ggX12_request_X12_isItem
set_option maxRecDepth 20000 in
theorem ggX12_request_X12_call : GoodIn wsX12_request wsX12_call := goodIn_r _ [13, 14, 92, 93, 94, 95, 96, 97, 98, 99, 100, 101, 102, 103, 104, 105, 106, 107, 108, 109, 110, 111, 112, 113, 114, 115, 116, 117, 118, 119, 120, 121, 122, 123, 124, 125, 126, 127, 128, 129, 130, 131, 132, 133, 134, 135, 136, 137, 138] (by decide +kernel) (by decide +kernel)
set_option maxRecDepth 20000 in
theorem gX12_request_X12_call : GoodIn wsX12_request (wsV RX12 245 RX12 yX12_call wsX12_call) := goodIn_app (goodIn_of _ (by decide +kernel)) ggX12_request_X12_call
set_option maxRecDepth 20000 in
theorem ggX12_request_X12_keeps : GoodIn wsX12_request wsX12_keeps := goodIn_r _ [18, 19, 20, 1, 21, 22, 5, 23, 92, 93, 94, 95, 96, 97, 98, 99, 100, 101, 102, 103, 104, 105, 106, 107, 108, 109, 110, 111, 112, 113, 114, 115, 116, 117, 118, 119, 120, 121, 122, 123, 124, 125, 126, 127, 128, 129, 130, 131, 132, 133, 134, 135, 136, 137, 138] (by decide +kernel) (by decide +kernel)
set_option maxRecDepth 20000 in
theorem gX12_request_X12_keeps : GoodIn wsX12_request (wsV RX12 248 RX12 yX12_keeps wsX12_keeps) := goodIn_app (goodIn_of _ (by decide +kernel)) ggX12_request_X12_keeps
set_option maxRecDepth 20000 in
theorem ggX12_request_X12_logs : GoodIn wsX12_request wsX12_logs := goodIn_r _ [27, 1, 28, 29, 30, 5, 31, 32, 33, 34, 35, 36, 37, 38, 39, 40, 41, 42, 43, 44, 45, 46, 47, 48, 49, 50, 51, 52, 53, 54, 55, 56, 57, 58, 59, 60, 61, 62, 63, 64, 65, 66, 67, 68, 69, 70, 71, 72, 73, 74, 75, 76, 77, 78, 79, 80, 81, 82, 83, 84, 85, 14, 86, 87, 88, 89, 90, 91, 92, 93, 94, 95, 96, 97, 98, 99, 100, 101, 102, 103, 104, 105, 106, 107, 108, 109, 110, 111, 112, 113, 114, 115, 116, 117, 118, 119, 120, 121, 122, 123, 124, 125, 126, 127, 128, 129, 130, 131, 132, 133, 134, 135, 136, 137, 138] (by decide +kernel) (by decide +kernel)
set_option maxRecDepth 20000 in
theorem gX12_request_X12_logs : GoodIn wsX12_request (wsV RX12 251 RX12 yX12_logs wsX12_logs) := goodIn_app (goodIn_of _ (by decide +kernel)) ggX12_request_X12_logs
theorem dX12_request_0 : decode cX12_request 0 = .ok (.aload_n 0, 1) := by decide +kernel
theorem dX12_request_1 : decode cX12_request 1 = .ok (.iload_n 1, 1) := by decide +kernel
theorem dX12_request_2 : decode cX12_request 2 = .ok (.invokevirtual 242, 3) := by decide +kernel
theorem dX12_request_5 : decode cX12_request 5 = .ok (.ifCond .ne 6, 3) := by decide +kernel
theorem dX12_request_8 : decode cX12_request 8 = .ok (.bipush (-2), 2) := by decide +kernel
theorem dX12_request_10 : decode cX12_request 10 = .ok (.ireturn, 1) := by decide +kernel
theorem dX12_request_11 : decode cX12_request 11 = .ok (.aload_n 0, 1) := by decide +kernel
theorem dX12_request_12 : decode cX12_request 12 = .ok (.getfield 7, 3) := by decide +kernel
theorem dX12_request_15 : decode cX12_request 15 = .ok (.bipush 7, 2) := by decide +kernel
theorem dX12_request_17 : decode cX12_request 17 = .ok (.iaload, 1) := by decide +kernel
theorem dX12_request_18 : decode cX12_request 18 = .ok (.bipush 40, 2) := by decide +kernel
theorem dX12_request_20 : decode cX12_request 20 = .ok (.if_icmp .ne 6, 3) := by decide +kernel
theorem dX12_request_23 : decode cX12_request 23 = .ok (.bipush (-3), 2) := by decide +kernel
theorem dX12_request_25 : decode cX12_request 25 = .ok (.ireturn, 1) := by decide +kernel
theorem dX12_request_26 : decode cX12_request 26 = .ok (.aload_n 0, 1) := by decide +kernel
theorem dX12_request_27 : decode cX12_request 27 = .ok (.invokevirtual 245, 3) := by decide +kernel
theorem dX12_request_30 : decode cX12_request 30 = .ok (.aload_n 0, 1) := by decide +kernel
theorem dX12_request_31 : decode cX12_request 31 = .ok (.invokevirtual 248, 3) := by decide +kernel
theorem dX12_request_34 : decode cX12_request 34 = .ok (.aload_n 0, 1) := by decide +kernel
theorem dX12_request_35 : decode cX12_request 35 = .ok (.iload_n 1, 1) := by decide +kernel
theorem dX12_request_36 : decode cX12_request 36 = .ok (.invokevirtual 251, 3) := by decide +kernel
theorem dX12_request_39 : decode cX12_request 39 = .ok (.ireturn, 1) := by decide +kernel
set_option maxRecDepth 20000 in
theorem ggX12_readsSteps_X12_takes : GoodIn wsX12_readsSteps wsX12_takes := goodIn_r _ [13, 14, 15, 16, 17, 18, 19, 20, 12, 21, 22, 23, 24, 25, 26, 27, 7, 3, 28, 29, 30, 31, 32, 33, 34, 35, 36, 37, 38, 39, 40, 41, 42, 43, 69, 70, 71, 72, 73, 74, 75, 76, 77, 78, 79, 80, 81, 82, 83, 84, 85, 86, 87, 88, 89, 90, 91, 92, 93, 94, 95, 96, 97, 98, 99, 100, 101, 102, 103, 104, 105, 106, 107, 108, 109, 110, 111, 112, 113, 114, 115] (by decide +kernel) (by decide +kernel)
set_option maxRecDepth 20000 in
theorem gX12_readsSteps_X12_takes : GoodIn wsX12_readsSteps (wsV RX12 168 RX12 yX12_takes wsX12_takes) := goodIn_app (goodIn_of _ (by decide +kernel)) ggX12_readsSteps_X12_takes
set_option maxRecDepth 20000 in
theorem ggX12_readsSteps_X12_isSign : GoodIn wsX12_readsSteps wsX12_isSign := goodIn_r _ [47, 3, 7, 69, 70, 71, 72, 73, 74, 75, 76, 77, 78, 79, 80, 81, 82, 83, 84, 85, 86, 87, 88, 89, 90, 91, 92, 93, 94, 95, 96, 97, 98, 99, 100, 101, 102, 103, 104, 105, 106, 107, 108, 109, 110, 111, 112, 113, 114, 115] (by decide +kernel) (by decide +kernel)
set_option maxRecDepth 20000 in
theorem gX12_readsSteps_X12_isSign : GoodIn wsX12_readsSteps (wsV RX12 165 RX12 yX12_isSign wsX12_isSign) := goodIn_app (goodIn_of _ (by decide +kernel)) ggX12_readsSteps_X12_isSign
set_option maxRecDepth 20000 in
theorem ggX12_readsSteps_X12_next : GoodIn wsX12_readsSteps wsX12_next := goodIn_r _ [26, 17, 27, 7, 3, 28, 29, 30, 31, 32, 12, 33, 15, 34, 35, 36, 37, 38, 39, 40, 41, 42, 43, 69, 70, 71, 72, 73, 74, 75, 76, 77, 78, 79, 80, 81, 82, 83, 84, 85, 86, 87, 88, 89, 90, 91, 92, 93, 94, 95, 96, 97, 98, 99, 100, 101, 102, 103, 104, 105, 106, 107, 108, 109, 110, 111, 112, 113, 114, 115] (by decide +kernel) (by decide +kernel)
set_option maxRecDepth 20000 in
theorem gX12_readsSteps_X12_next : GoodIn wsX12_readsSteps (wsV RX12 135 RX12 yX12_next wsX12_next) := goodIn_app (goodIn_of _ (by decide +kernel)) ggX12_readsSteps_X12_next
set_option maxRecDepth 20000 in
theorem ggX12_readsSteps_X12_badHere : GoodIn wsX12_readsSteps wsX12_badHere := goodIn_r _ [51, 27, 18, 19, 20, 12, 21, 16, 22, 69, 70, 71, 72, 73, 74, 75, 76, 77, 78, 79, 80, 81, 82, 83, 84, 85, 86, 87, 88, 89, 90, 91, 92, 93, 94, 95, 96, 97, 98, 99, 100, 101, 102, 103, 104, 105, 106, 107, 108, 109, 110, 111, 112, 113, 114, 115] (by decide +kernel) (by decide +kernel)
set_option maxRecDepth 20000 in
theorem gX12_readsSteps_X12_badHere : GoodIn wsX12_readsSteps (wsV RX12 132 RX12 yX12_badHere wsX12_badHere) := goodIn_app (goodIn_of _ (by decide +kernel)) ggX12_readsSteps_X12_badHere
set_option maxRecDepth 20000 in
theorem ggX12_readsSteps_X12_isKnown : GoodIn wsX12_readsSteps wsX12_isKnown := goodIn_r _ [55, 3, 29, 28, 56, 69, 70, 71, 72, 73, 74, 75, 76, 77, 78, 79, 80, 81, 82, 83, 84, 85, 86, 87, 88, 89, 90, 91, 92, 93, 94, 95, 96, 97, 98, 99, 100, 101, 102, 103, 104, 105, 106, 107, 108, 109, 110, 111, 112, 113, 114, 115] (by decide +kernel) (by decide +kernel)
set_option maxRecDepth 20000 in
theorem gX12_readsSteps_X12_isKnown : GoodIn wsX12_readsSteps (wsV RX12 129 RX12 yX12_isKnown wsX12_isKnown) := goodIn_app (goodIn_of _ (by decide +kernel)) ggX12_readsSteps_X12_isKnown
set_option maxRecDepth 20000 in
theorem ggX12_readsSteps_X12_number : GoodIn wsX12_readsSteps wsX12_number := goodIn_r _ [60, 3, 7, 48, 49, 50, 12, 51, 27, 18, 19, 20, 21, 16, 22, 38, 39, 40, 69, 70, 71, 72, 73, 74, 75, 76, 77, 78, 79, 80, 81, 82, 83, 84, 85, 86, 87, 88, 89, 90, 91, 92, 93, 94, 95, 96, 97, 98, 99, 100, 101, 102, 103, 104, 105, 106, 107, 108, 109, 110, 111, 112, 113, 114, 115] (by decide +kernel) (by decide +kernel)
set_option maxRecDepth 20000 in
theorem gX12_readsSteps_X12_number : GoodIn wsX12_readsSteps (wsV RX12 146 RX12 yX12_number wsX12_number) := goodIn_app (goodIn_of _ (by decide +kernel)) ggX12_readsSteps_X12_number
set_option maxRecDepth 20000 in
theorem ggX12_readsSteps_X12_isName : GoodIn wsX12_readsSteps wsX12_isName := goodIn_r _ [64, 3, 52, 53, 54, 12, 55, 29, 28, 56, 69, 70, 71, 72, 73, 74, 75, 76, 77, 78, 79, 80, 81, 82, 83, 84, 85, 86, 87, 88, 89, 90, 91, 92, 93, 94, 95, 96, 97, 98, 99, 100, 101, 102, 103, 104, 105, 106, 107, 108, 109, 110, 111, 112, 113, 114, 115] (by decide +kernel) (by decide +kernel)
set_option maxRecDepth 20000 in
theorem gX12_readsSteps_X12_isName : GoodIn wsX12_readsSteps (wsV RX12 138 RX12 yX12_isName wsX12_isName) := goodIn_app (goodIn_of _ (by decide +kernel)) ggX12_readsSteps_X12_isName
set_option maxRecDepth 20000 in
theorem ggX12_readsSteps_X12_named : GoodIn wsX12_readsSteps wsX12_named := goodIn_r _ [68, 29, 28, 69, 70, 71, 72, 73, 74, 75, 76, 77, 78, 79, 80, 81, 82, 83, 84, 85, 86, 87, 88, 89, 90, 91, 92, 93, 94, 95, 96, 97, 98, 99, 100, 101, 102, 103, 104, 105, 106, 107, 108, 109, 110, 111, 112, 113, 114, 115] (by decide +kernel) (by decide +kernel)
set_option maxRecDepth 20000 in
theorem gX12_readsSteps_X12_named : GoodIn wsX12_readsSteps (wsV RX12 142 RX12 yX12_named wsX12_named) := goodIn_app (goodIn_of _ (by decide +kernel)) ggX12_readsSteps_X12_named
theorem dX12_readsSteps_0 : decode cX12_readsSteps 0 = .ok (.aload_n 0, 1) := by decide +kernel
theorem dX12_readsSteps_1 : decode cX12_readsSteps 1 = .ok (.invokevirtual 168, 3) := by decide +kernel
theorem dX12_readsSteps_4 : decode cX12_readsSteps 4 = .ok (.ifCond .ne 5, 3) := by decide +kernel
theorem dX12_readsSteps_7 : decode cX12_readsSteps 7 = .ok (.iconst 0, 1) := by decide +kernel
theorem dX12_readsSteps_8 : decode cX12_readsSteps 8 = .ok (.ireturn, 1) := by decide +kernel
theorem dX12_readsSteps_9 : decode cX12_readsSteps 9 = .ok (.aload_n 0, 1) := by decide +kernel
theorem dX12_readsSteps_10 : decode cX12_readsSteps 10 = .ok (.iconst 0, 1) := by decide +kernel
theorem dX12_readsSteps_11 : decode cX12_readsSteps 11 = .ok (.putfield 254, 3) := by decide +kernel
theorem dX12_readsSteps_14 : decode cX12_readsSteps 14 = .ok (.aload_n 0, 1) := by decide +kernel
theorem dX12_readsSteps_15 : decode cX12_readsSteps 15 = .ok (.iconst 0, 1) := by decide +kernel
theorem dX12_readsSteps_16 : decode cX12_readsSteps 16 = .ok (.putfield 257, 3) := by decide +kernel
theorem dX12_readsSteps_19 : decode cX12_readsSteps 19 = .ok (.aload_n 0, 1) := by decide +kernel
theorem dX12_readsSteps_20 : decode cX12_readsSteps 20 = .ok (.getfield 113, 3) := by decide +kernel
theorem dX12_readsSteps_23 : decode cX12_readsSteps 23 = .ok (.ifCond .ne 10, 3) := by decide +kernel
theorem dX12_readsSteps_26 : decode cX12_readsSteps 26 = .ok (.aload_n 0, 1) := by decide +kernel
theorem dX12_readsSteps_27 : decode cX12_readsSteps 27 = .ok (.getfield 257, 3) := by decide +kernel
theorem dX12_readsSteps_30 : decode cX12_readsSteps 30 = .ok (.ifCond .le 264, 3) := by decide +kernel
theorem dX12_readsSteps_33 : decode cX12_readsSteps 33 = .ok (.aload_n 0, 1) := by decide +kernel
theorem dX12_readsSteps_34 : decode cX12_readsSteps 34 = .ok (.getfield 257, 3) := by decide +kernel
theorem dX12_readsSteps_37 : decode cX12_readsSteps 37 = .ok (.ifCond .le 66, 3) := by decide +kernel
theorem dX12_readsSteps_40 : decode cX12_readsSteps 40 = .ok (.aload_n 0, 1) := by decide +kernel
theorem dX12_readsSteps_41 : decode cX12_readsSteps 41 = .ok (.bipush 93, 2) := by decide +kernel
theorem dX12_readsSteps_43 : decode cX12_readsSteps 43 = .ok (.invokevirtual 165, 3) := by decide +kernel
theorem dX12_readsSteps_46 : decode cX12_readsSteps 46 = .ok (.ifCond .eq 57, 3) := by decide +kernel
theorem dX12_readsSteps_49 : decode cX12_readsSteps 49 = .ok (.aload_n 0, 1) := by decide +kernel
theorem dX12_readsSteps_50 : decode cX12_readsSteps 50 = .ok (.invokevirtual 135, 3) := by decide +kernel
theorem dX12_readsSteps_53 : decode cX12_readsSteps 53 = .ok (.aload_n 0, 1) := by decide +kernel
theorem dX12_readsSteps_54 : decode cX12_readsSteps 54 = .ok (.dup, 1) := by decide +kernel
theorem dX12_readsSteps_55 : decode cX12_readsSteps 55 = .ok (.getfield 257, 3) := by decide +kernel
theorem dX12_readsSteps_58 : decode cX12_readsSteps 58 = .ok (.iconst 1, 1) := by decide +kernel
theorem dX12_readsSteps_59 : decode cX12_readsSteps 59 = .ok (.isub, 1) := by decide +kernel
theorem dX12_readsSteps_60 : decode cX12_readsSteps 60 = .ok (.putfield 257, 3) := by decide +kernel
theorem dX12_readsSteps_63 : decode cX12_readsSteps 63 = .ok (.aload_n 0, 1) := by decide +kernel
theorem dX12_readsSteps_64 : decode cX12_readsSteps 64 = .ok (.getfield 39, 3) := by decide +kernel
theorem dX12_readsSteps_67 : decode cX12_readsSteps 67 = .ok (.aload_n 0, 1) := by decide +kernel
theorem dX12_readsSteps_68 : decode cX12_readsSteps 68 = .ok (.getfield 42, 3) := by decide +kernel
theorem dX12_readsSteps_71 : decode cX12_readsSteps 71 = .ok (.aload_n 0, 1) := by decide +kernel
theorem dX12_readsSteps_72 : decode cX12_readsSteps 72 = .ok (.getfield 257, 3) := by decide +kernel
theorem dX12_readsSteps_75 : decode cX12_readsSteps 75 = .ok (.iaload, 1) := by decide +kernel
theorem dX12_readsSteps_76 : decode cX12_readsSteps 76 = .ok (.aload_n 0, 1) := by decide +kernel
theorem dX12_readsSteps_77 : decode cX12_readsSteps 77 = .ok (.getfield 254, 3) := by decide +kernel
theorem dX12_readsSteps_80 : decode cX12_readsSteps 80 = .ok (.iastore, 1) := by decide +kernel
theorem dX12_readsSteps_81 : decode cX12_readsSteps 81 = .ok (.aload_n 0, 1) := by decide +kernel
theorem dX12_readsSteps_82 : decode cX12_readsSteps 82 = .ok (.bipush 59, 2) := by decide +kernel
theorem dX12_readsSteps_84 : decode cX12_readsSteps 84 = .ok (.invokevirtual 165, 3) := by decide +kernel
theorem dX12_readsSteps_87 : decode cX12_readsSteps 87 = .ok (.ifCond .ne 9, 3) := by decide +kernel
theorem dX12_readsSteps_90 : decode cX12_readsSteps 90 = .ok (.aload_n 0, 1) := by decide +kernel
theorem dX12_readsSteps_91 : decode cX12_readsSteps 91 = .ok (.iconst 1, 1) := by decide +kernel
theorem dX12_readsSteps_92 : decode cX12_readsSteps 92 = .ok (.invokevirtual 132, 3) := by decide +kernel
theorem dX12_readsSteps_95 : decode cX12_readsSteps 95 = .ok (.ireturn, 1) := by decide +kernel
theorem dX12_readsSteps_96 : decode cX12_readsSteps 96 = .ok (.aload_n 0, 1) := by decide +kernel
theorem dX12_readsSteps_97 : decode cX12_readsSteps 97 = .ok (.invokevirtual 135, 3) := by decide +kernel
theorem dX12_readsSteps_100 : decode cX12_readsSteps 100 = .ok (.goto (-81), 3) := by decide +kernel
theorem dX12_readsSteps_103 : decode cX12_readsSteps 103 = .ok (.aload_n 0, 1) := by decide +kernel
theorem dX12_readsSteps_104 : decode cX12_readsSteps 104 = .ok (.iconst 3, 1) := by decide +kernel
theorem dX12_readsSteps_105 : decode cX12_readsSteps 105 = .ok (.invokevirtual 129, 3) := by decide +kernel
theorem dX12_readsSteps_108 : decode cX12_readsSteps 108 = .ok (.ifCond .eq 108, 3) := by decide +kernel
theorem dX12_readsSteps_111 : decode cX12_readsSteps 111 = .ok (.aload_n 0, 1) := by decide +kernel
theorem dX12_readsSteps_112 : decode cX12_readsSteps 112 = .ok (.getfield 257, 3) := by decide +kernel
theorem dX12_readsSteps_115 : decode cX12_readsSteps 115 = .ok (.iconst 2, 1) := by decide +kernel
theorem dX12_readsSteps_116 : decode cX12_readsSteps 116 = .ok (.if_icmp .ne 9, 3) := by decide +kernel
theorem dX12_readsSteps_119 : decode cX12_readsSteps 119 = .ok (.aload_n 0, 1) := by decide +kernel
theorem dX12_readsSteps_120 : decode cX12_readsSteps 120 = .ok (.iconst 5, 1) := by decide +kernel
theorem dX12_readsSteps_121 : decode cX12_readsSteps 121 = .ok (.invokevirtual 132, 3) := by decide +kernel
theorem dX12_readsSteps_124 : decode cX12_readsSteps 124 = .ok (.ireturn, 1) := by decide +kernel
theorem dX12_readsSteps_125 : decode cX12_readsSteps 125 = .ok (.aload_n 0, 1) := by decide +kernel
theorem dX12_readsSteps_126 : decode cX12_readsSteps 126 = .ok (.getfield 42, 3) := by decide +kernel
theorem dX12_readsSteps_129 : decode cX12_readsSteps 129 = .ok (.aload_n 0, 1) := by decide +kernel
theorem dX12_readsSteps_130 : decode cX12_readsSteps 130 = .ok (.getfield 257, 3) := by decide +kernel
theorem dX12_readsSteps_133 : decode cX12_readsSteps 133 = .ok (.aload_n 0, 1) := by decide +kernel
theorem dX12_readsSteps_134 : decode cX12_readsSteps 134 = .ok (.getfield 254, 3) := by decide +kernel
theorem dX12_readsSteps_137 : decode cX12_readsSteps 137 = .ok (.iastore, 1) := by decide +kernel
theorem dX12_readsSteps_138 : decode cX12_readsSteps 138 = .ok (.aload_n 0, 1) := by decide +kernel
theorem dX12_readsSteps_139 : decode cX12_readsSteps 139 = .ok (.dup, 1) := by decide +kernel
theorem dX12_readsSteps_140 : decode cX12_readsSteps 140 = .ok (.getfield 257, 3) := by decide +kernel
theorem dX12_readsSteps_143 : decode cX12_readsSteps 143 = .ok (.iconst 1, 1) := by decide +kernel
theorem dX12_readsSteps_144 : decode cX12_readsSteps 144 = .ok (.iadd, 1) := by decide +kernel
theorem dX12_readsSteps_145 : decode cX12_readsSteps 145 = .ok (.putfield 257, 3) := by decide +kernel
theorem dX12_readsSteps_148 : decode cX12_readsSteps 148 = .ok (.aload_n 0, 1) := by decide +kernel
theorem dX12_readsSteps_149 : decode cX12_readsSteps 149 = .ok (.invokevirtual 135, 3) := by decide +kernel
theorem dX12_readsSteps_152 : decode cX12_readsSteps 152 = .ok (.aload_n 0, 1) := by decide +kernel
theorem dX12_readsSteps_153 : decode cX12_readsSteps 153 = .ok (.iconst 1, 1) := by decide +kernel
theorem dX12_readsSteps_154 : decode cX12_readsSteps 154 = .ok (.bipush 9, 2) := by decide +kernel
theorem dX12_readsSteps_156 : decode cX12_readsSteps 156 = .ok (.invokevirtual 146, 3) := by decide +kernel
theorem dX12_readsSteps_159 : decode cX12_readsSteps 159 = .ok (.ifCond .ne 5, 3) := by decide +kernel
theorem dX12_readsSteps_162 : decode cX12_readsSteps 162 = .ok (.iconst 0, 1) := by decide +kernel
theorem dX12_readsSteps_163 : decode cX12_readsSteps 163 = .ok (.ireturn, 1) := by decide +kernel
theorem dX12_readsSteps_164 : decode cX12_readsSteps 164 = .ok (.aload_n 0, 1) := by decide +kernel
theorem dX12_readsSteps_165 : decode cX12_readsSteps 165 = .ok (.getfield 36, 3) := by decide +kernel
theorem dX12_readsSteps_168 : decode cX12_readsSteps 168 = .ok (.aload_n 0, 1) := by decide +kernel
theorem dX12_readsSteps_169 : decode cX12_readsSteps 169 = .ok (.getfield 254, 3) := by decide +kernel
theorem dX12_readsSteps_172 : decode cX12_readsSteps 172 = .ok (.bipush 100, 2) := by decide +kernel
theorem dX12_readsSteps_174 : decode cX12_readsSteps 174 = .ok (.aload_n 0, 1) := by decide +kernel
theorem dX12_readsSteps_175 : decode cX12_readsSteps 175 = .ok (.getfield 110, 3) := by decide +kernel
theorem dX12_readsSteps_178 : decode cX12_readsSteps 178 = .ok (.iadd, 1) := by decide +kernel
theorem dX12_readsSteps_179 : decode cX12_readsSteps 179 = .ok (.iastore, 1) := by decide +kernel
theorem dX12_readsSteps_180 : decode cX12_readsSteps 180 = .ok (.aload_n 0, 1) := by decide +kernel
theorem dX12_readsSteps_181 : decode cX12_readsSteps 181 = .ok (.dup, 1) := by decide +kernel
theorem dX12_readsSteps_182 : decode cX12_readsSteps 182 = .ok (.getfield 254, 3) := by decide +kernel
theorem dX12_readsSteps_185 : decode cX12_readsSteps 185 = .ok (.iconst 1, 1) := by decide +kernel
theorem dX12_readsSteps_186 : decode cX12_readsSteps 186 = .ok (.iadd, 1) := by decide +kernel
theorem dX12_readsSteps_187 : decode cX12_readsSteps 187 = .ok (.putfield 254, 3) := by decide +kernel
theorem dX12_readsSteps_190 : decode cX12_readsSteps 190 = .ok (.aload_n 0, 1) := by decide +kernel
theorem dX12_readsSteps_191 : decode cX12_readsSteps 191 = .ok (.invokevirtual 135, 3) := by decide +kernel
theorem dX12_readsSteps_194 : decode cX12_readsSteps 194 = .ok (.aload_n 0, 1) := by decide +kernel
theorem dX12_readsSteps_195 : decode cX12_readsSteps 195 = .ok (.bipush 91, 2) := by decide +kernel
theorem dX12_readsSteps_197 : decode cX12_readsSteps 197 = .ok (.invokevirtual 165, 3) := by decide +kernel
theorem dX12_readsSteps_200 : decode cX12_readsSteps 200 = .ok (.ifCond .ne 9, 3) := by decide +kernel
theorem dX12_readsSteps_203 : decode cX12_readsSteps 203 = .ok (.aload_n 0, 1) := by decide +kernel
theorem dX12_readsSteps_204 : decode cX12_readsSteps 204 = .ok (.iconst 1, 1) := by decide +kernel
theorem dX12_readsSteps_205 : decode cX12_readsSteps 205 = .ok (.invokevirtual 132, 3) := by decide +kernel
theorem dX12_readsSteps_208 : decode cX12_readsSteps 208 = .ok (.ireturn, 1) := by decide +kernel
theorem dX12_readsSteps_209 : decode cX12_readsSteps 209 = .ok (.aload_n 0, 1) := by decide +kernel
theorem dX12_readsSteps_210 : decode cX12_readsSteps 210 = .ok (.invokevirtual 135, 3) := by decide +kernel
theorem dX12_readsSteps_213 : decode cX12_readsSteps 213 = .ok (.goto (-194), 3) := by decide +kernel
theorem dX12_readsSteps_216 : decode cX12_readsSteps 216 = .ok (.aload_n 0, 1) := by decide +kernel
theorem dX12_readsSteps_217 : decode cX12_readsSteps 217 = .ok (.invokevirtual 138, 3) := by decide +kernel
theorem dX12_readsSteps_220 : decode cX12_readsSteps 220 = .ok (.ifCond .ne 9, 3) := by decide +kernel
theorem dX12_readsSteps_223 : decode cX12_readsSteps 223 = .ok (.aload_n 0, 1) := by decide +kernel
theorem dX12_readsSteps_224 : decode cX12_readsSteps 224 = .ok (.iconst 1, 1) := by decide +kernel
theorem dX12_readsSteps_225 : decode cX12_readsSteps 225 = .ok (.invokevirtual 132, 3) := by decide +kernel
theorem dX12_readsSteps_228 : decode cX12_readsSteps 228 = .ok (.ireturn, 1) := by decide +kernel
theorem dX12_readsSteps_229 : decode cX12_readsSteps 229 = .ok (.aload_n 0, 1) := by decide +kernel
theorem dX12_readsSteps_230 : decode cX12_readsSteps 230 = .ok (.aload_n 0, 1) := by decide +kernel
theorem dX12_readsSteps_231 : decode cX12_readsSteps 231 = .ok (.getfield 7, 3) := by decide +kernel
theorem dX12_readsSteps_234 : decode cX12_readsSteps 234 = .ok (.invokevirtual 142, 3) := by decide +kernel
theorem dX12_readsSteps_237 : decode cX12_readsSteps 237 = .ok (.istore_n 1, 1) := by decide +kernel
theorem dX12_readsSteps_238 : decode cX12_readsSteps 238 = .ok (.iload_n 1, 1) := by decide +kernel
theorem dX12_readsSteps_239 : decode cX12_readsSteps 239 = .ok (.ifCond .ge 9, 3) := by decide +kernel
theorem dX12_readsSteps_242 : decode cX12_readsSteps 242 = .ok (.aload_n 0, 1) := by decide +kernel
theorem dX12_readsSteps_243 : decode cX12_readsSteps 243 = .ok (.iconst 3, 1) := by decide +kernel
theorem dX12_readsSteps_244 : decode cX12_readsSteps 244 = .ok (.invokevirtual 132, 3) := by decide +kernel
theorem dX12_readsSteps_247 : decode cX12_readsSteps 247 = .ok (.ireturn, 1) := by decide +kernel
theorem dX12_readsSteps_248 : decode cX12_readsSteps 248 = .ok (.aload_n 0, 1) := by decide +kernel
theorem dX12_readsSteps_249 : decode cX12_readsSteps 249 = .ok (.getfield 36, 3) := by decide +kernel
theorem dX12_readsSteps_252 : decode cX12_readsSteps 252 = .ok (.aload_n 0, 1) := by decide +kernel
theorem dX12_readsSteps_253 : decode cX12_readsSteps 253 = .ok (.getfield 254, 3) := by decide +kernel
theorem dX12_readsSteps_256 : decode cX12_readsSteps 256 = .ok (.iload_n 1, 1) := by decide +kernel
theorem dX12_readsSteps_257 : decode cX12_readsSteps 257 = .ok (.iastore, 1) := by decide +kernel
theorem dX12_readsSteps_258 : decode cX12_readsSteps 258 = .ok (.aload_n 0, 1) := by decide +kernel
theorem dX12_readsSteps_259 : decode cX12_readsSteps 259 = .ok (.dup, 1) := by decide +kernel
theorem dX12_readsSteps_260 : decode cX12_readsSteps 260 = .ok (.getfield 254, 3) := by decide +kernel
theorem dX12_readsSteps_263 : decode cX12_readsSteps 263 = .ok (.iconst 1, 1) := by decide +kernel
theorem dX12_readsSteps_264 : decode cX12_readsSteps 264 = .ok (.iadd, 1) := by decide +kernel
theorem dX12_readsSteps_265 : decode cX12_readsSteps 265 = .ok (.putfield 254, 3) := by decide +kernel
theorem dX12_readsSteps_268 : decode cX12_readsSteps 268 = .ok (.aload_n 0, 1) := by decide +kernel
theorem dX12_readsSteps_269 : decode cX12_readsSteps 269 = .ok (.invokevirtual 135, 3) := by decide +kernel
theorem dX12_readsSteps_272 : decode cX12_readsSteps 272 = .ok (.aload_n 0, 1) := by decide +kernel
theorem dX12_readsSteps_273 : decode cX12_readsSteps 273 = .ok (.bipush 59, 2) := by decide +kernel
theorem dX12_readsSteps_275 : decode cX12_readsSteps 275 = .ok (.invokevirtual 165, 3) := by decide +kernel
theorem dX12_readsSteps_278 : decode cX12_readsSteps 278 = .ok (.ifCond .ne 9, 3) := by decide +kernel
theorem dX12_readsSteps_281 : decode cX12_readsSteps 281 = .ok (.aload_n 0, 1) := by decide +kernel
theorem dX12_readsSteps_282 : decode cX12_readsSteps 282 = .ok (.iconst 1, 1) := by decide +kernel
theorem dX12_readsSteps_283 : decode cX12_readsSteps 283 = .ok (.invokevirtual 132, 3) := by decide +kernel
theorem dX12_readsSteps_286 : decode cX12_readsSteps 286 = .ok (.ireturn, 1) := by decide +kernel
theorem dX12_readsSteps_287 : decode cX12_readsSteps 287 = .ok (.aload_n 0, 1) := by decide +kernel
theorem dX12_readsSteps_288 : decode cX12_readsSteps 288 = .ok (.invokevirtual 135, 3) := by decide +kernel
theorem dX12_readsSteps_291 : decode cX12_readsSteps 291 = .ok (.goto (-272), 3) := by decide +kernel
theorem dX12_readsSteps_294 : decode cX12_readsSteps 294 = .ok (.iconst 1, 1) := by decide +kernel
theorem dX12_readsSteps_295 : decode cX12_readsSteps 295 = .ok (.ireturn, 1) := by decide +kernel
set_option maxRecDepth 20000 in
theorem ggX12_doesSteps_X12_logs : GoodIn wsX12_doesSteps wsX12_logs := goodIn_r _ [11, 1, 12, 13, 14, 10, 15, 16, 17, 18, 19, 20, 21, 22, 23, 24, 25, 26, 27, 28, 29, 30, 31, 32, 33, 34, 35, 36, 37, 38, 39, 40, 41, 42, 43, 44, 45, 46, 47, 48, 49, 50, 51, 52, 53, 54, 55, 56, 57, 58, 59, 60, 61, 62, 63, 64, 65, 66, 67, 68, 69, 70, 71, 72, 73, 74, 75, 76, 77, 78, 79, 80, 81, 82, 83, 84, 85, 86, 87, 88, 89, 90, 91, 92, 93, 94, 95, 96, 97, 98, 99, 100, 101, 102, 103, 104, 105, 106, 107, 108, 109, 110, 111, 112, 113, 114, 115, 116, 117, 118, 119, 120, 121, 122, 123] (by decide +kernel) (by decide +kernel)
set_option maxRecDepth 20000 in
theorem gX12_doesSteps_X12_logs : GoodIn wsX12_doesSteps (wsV RX12 251 RX12 yX12_logs wsX12_logs) := goodIn_app (goodIn_of _ (by decide +kernel)) ggX12_doesSteps_X12_logs
theorem dX12_doesSteps_0 : decode cX12_doesSteps 0 = .ok (.iconst 0, 1) := by decide +kernel
theorem dX12_doesSteps_1 : decode cX12_doesSteps 1 = .ok (.istore_n 1, 1) := by decide +kernel
theorem dX12_doesSteps_2 : decode cX12_doesSteps 2 = .ok (.iconst 0, 1) := by decide +kernel
theorem dX12_doesSteps_3 : decode cX12_doesSteps 3 = .ok (.istore_n 2, 1) := by decide +kernel
theorem dX12_doesSteps_4 : decode cX12_doesSteps 4 = .ok (.iconst 0, 1) := by decide +kernel
theorem dX12_doesSteps_5 : decode cX12_doesSteps 5 = .ok (.istore_n 3, 1) := by decide +kernel
theorem dX12_doesSteps_6 : decode cX12_doesSteps 6 = .ok (.aload_n 0, 1) := by decide +kernel
theorem dX12_doesSteps_7 : decode cX12_doesSteps 7 = .ok (.getfield 7, 3) := by decide +kernel
theorem dX12_doesSteps_10 : decode cX12_doesSteps 10 = .ok (.bipush 7, 2) := by decide +kernel
theorem dX12_doesSteps_12 : decode cX12_doesSteps 12 = .ok (.iaload, 1) := by decide +kernel
theorem dX12_doesSteps_13 : decode cX12_doesSteps 13 = .ok (.bipush 40, 2) := by decide +kernel
theorem dX12_doesSteps_15 : decode cX12_doesSteps 15 = .ok (.if_icmp .ge 137, 3) := by decide +kernel
theorem dX12_doesSteps_18 : decode cX12_doesSteps 18 = .ok (.iload_n 3, 1) := by decide +kernel
theorem dX12_doesSteps_19 : decode cX12_doesSteps 19 = .ok (.aload_n 0, 1) := by decide +kernel
theorem dX12_doesSteps_20 : decode cX12_doesSteps 20 = .ok (.getfield 254, 3) := by decide +kernel
theorem dX12_doesSteps_23 : decode cX12_doesSteps 23 = .ok (.if_icmp .lt 7, 3) := by decide +kernel
theorem dX12_doesSteps_26 : decode cX12_doesSteps 26 = .ok (.iload_n 1, 1) := by decide +kernel
theorem dX12_doesSteps_27 : decode cX12_doesSteps 27 = .ok (.ifCond .le 125, 3) := by decide +kernel
theorem dX12_doesSteps_30 : decode cX12_doesSteps 30 = .ok (.iload_n 1, 1) := by decide +kernel
theorem dX12_doesSteps_31 : decode cX12_doesSteps 31 = .ok (.ifCond .le 63, 3) := by decide +kernel
theorem dX12_doesSteps_34 : decode cX12_doesSteps 34 = .ok (.iload_n 3, 1) := by decide +kernel
theorem dX12_doesSteps_35 : decode cX12_doesSteps 35 = .ok (.aload_n 0, 1) := by decide +kernel
theorem dX12_doesSteps_36 : decode cX12_doesSteps 36 = .ok (.getfield 39, 3) := by decide +kernel
theorem dX12_doesSteps_39 : decode cX12_doesSteps 39 = .ok (.aload_n 0, 1) := by decide +kernel
theorem dX12_doesSteps_40 : decode cX12_doesSteps 40 = .ok (.getfield 42, 3) := by decide +kernel
theorem dX12_doesSteps_43 : decode cX12_doesSteps 43 = .ok (.iload_n 1, 1) := by decide +kernel
theorem dX12_doesSteps_44 : decode cX12_doesSteps 44 = .ok (.iconst 1, 1) := by decide +kernel
theorem dX12_doesSteps_45 : decode cX12_doesSteps 45 = .ok (.isub, 1) := by decide +kernel
theorem dX12_doesSteps_46 : decode cX12_doesSteps 46 = .ok (.iaload, 1) := by decide +kernel
theorem dX12_doesSteps_47 : decode cX12_doesSteps 47 = .ok (.iaload, 1) := by decide +kernel
theorem dX12_doesSteps_48 : decode cX12_doesSteps 48 = .ok (.if_icmp .ne 46, 3) := by decide +kernel
theorem dX12_doesSteps_51 : decode cX12_doesSteps 51 = .ok (.aload_n 0, 1) := by decide +kernel
theorem dX12_doesSteps_52 : decode cX12_doesSteps 52 = .ok (.getfield 45, 3) := by decide +kernel
theorem dX12_doesSteps_55 : decode cX12_doesSteps 55 = .ok (.iload_n 1, 1) := by decide +kernel
theorem dX12_doesSteps_56 : decode cX12_doesSteps 56 = .ok (.iconst 1, 1) := by decide +kernel
theorem dX12_doesSteps_57 : decode cX12_doesSteps 57 = .ok (.isub, 1) := by decide +kernel
theorem dX12_doesSteps_58 : decode cX12_doesSteps 58 = .ok (.dup2, 1) := by decide +kernel
theorem dX12_doesSteps_59 : decode cX12_doesSteps 59 = .ok (.iaload, 1) := by decide +kernel
theorem dX12_doesSteps_60 : decode cX12_doesSteps 60 = .ok (.iconst 1, 1) := by decide +kernel
theorem dX12_doesSteps_61 : decode cX12_doesSteps 61 = .ok (.isub, 1) := by decide +kernel
theorem dX12_doesSteps_62 : decode cX12_doesSteps 62 = .ok (.iastore, 1) := by decide +kernel
theorem dX12_doesSteps_63 : decode cX12_doesSteps 63 = .ok (.aload_n 0, 1) := by decide +kernel
theorem dX12_doesSteps_64 : decode cX12_doesSteps 64 = .ok (.getfield 45, 3) := by decide +kernel
theorem dX12_doesSteps_67 : decode cX12_doesSteps 67 = .ok (.iload_n 1, 1) := by decide +kernel
theorem dX12_doesSteps_68 : decode cX12_doesSteps 68 = .ok (.iconst 1, 1) := by decide +kernel
theorem dX12_doesSteps_69 : decode cX12_doesSteps 69 = .ok (.isub, 1) := by decide +kernel
theorem dX12_doesSteps_70 : decode cX12_doesSteps 70 = .ok (.iaload, 1) := by decide +kernel
theorem dX12_doesSteps_71 : decode cX12_doesSteps 71 = .ok (.ifCond .le 17, 3) := by decide +kernel
theorem dX12_doesSteps_74 : decode cX12_doesSteps 74 = .ok (.aload_n 0, 1) := by decide +kernel
theorem dX12_doesSteps_75 : decode cX12_doesSteps 75 = .ok (.getfield 42, 3) := by decide +kernel
theorem dX12_doesSteps_78 : decode cX12_doesSteps 78 = .ok (.iload_n 1, 1) := by decide +kernel
theorem dX12_doesSteps_79 : decode cX12_doesSteps 79 = .ok (.iconst 1, 1) := by decide +kernel
theorem dX12_doesSteps_80 : decode cX12_doesSteps 80 = .ok (.isub, 1) := by decide +kernel
theorem dX12_doesSteps_81 : decode cX12_doesSteps 81 = .ok (.iaload, 1) := by decide +kernel
theorem dX12_doesSteps_82 : decode cX12_doesSteps 82 = .ok (.iconst 1, 1) := by decide +kernel
theorem dX12_doesSteps_83 : decode cX12_doesSteps 83 = .ok (.iadd, 1) := by decide +kernel
theorem dX12_doesSteps_84 : decode cX12_doesSteps 84 = .ok (.istore_n 3, 1) := by decide +kernel
theorem dX12_doesSteps_85 : decode cX12_doesSteps 85 = .ok (.goto (-79), 3) := by decide +kernel
theorem dX12_doesSteps_88 : decode cX12_doesSteps 88 = .ok (.iinc 1 (-1), 3) := by decide +kernel
theorem dX12_doesSteps_91 : decode cX12_doesSteps 91 = .ok (.goto (-85), 3) := by decide +kernel
theorem dX12_doesSteps_94 : decode cX12_doesSteps 94 = .ok (.aload_n 0, 1) := by decide +kernel
theorem dX12_doesSteps_95 : decode cX12_doesSteps 95 = .ok (.getfield 36, 3) := by decide +kernel
theorem dX12_doesSteps_98 : decode cX12_doesSteps 98 = .ok (.iload_n 3, 1) := by decide +kernel
theorem dX12_doesSteps_99 : decode cX12_doesSteps 99 = .ok (.iaload, 1) := by decide +kernel
theorem dX12_doesSteps_100 : decode cX12_doesSteps 100 = .ok (.bipush 99, 2) := by decide +kernel
theorem dX12_doesSteps_102 : decode cX12_doesSteps 102 = .ok (.if_icmp .le 31, 3) := by decide +kernel
theorem dX12_doesSteps_105 : decode cX12_doesSteps 105 = .ok (.aload_n 0, 1) := by decide +kernel
theorem dX12_doesSteps_106 : decode cX12_doesSteps 106 = .ok (.getfield 42, 3) := by decide +kernel
theorem dX12_doesSteps_109 : decode cX12_doesSteps 109 = .ok (.iload_n 1, 1) := by decide +kernel
theorem dX12_doesSteps_110 : decode cX12_doesSteps 110 = .ok (.iload_n 3, 1) := by decide +kernel
theorem dX12_doesSteps_111 : decode cX12_doesSteps 111 = .ok (.iastore, 1) := by decide +kernel
theorem dX12_doesSteps_112 : decode cX12_doesSteps 112 = .ok (.aload_n 0, 1) := by decide +kernel
theorem dX12_doesSteps_113 : decode cX12_doesSteps 113 = .ok (.getfield 45, 3) := by decide +kernel
theorem dX12_doesSteps_116 : decode cX12_doesSteps 116 = .ok (.iload_n 1, 1) := by decide +kernel
theorem dX12_doesSteps_117 : decode cX12_doesSteps 117 = .ok (.aload_n 0, 1) := by decide +kernel
theorem dX12_doesSteps_118 : decode cX12_doesSteps 118 = .ok (.getfield 36, 3) := by decide +kernel
theorem dX12_doesSteps_121 : decode cX12_doesSteps 121 = .ok (.iload_n 3, 1) := by decide +kernel
theorem dX12_doesSteps_122 : decode cX12_doesSteps 122 = .ok (.iaload, 1) := by decide +kernel
theorem dX12_doesSteps_123 : decode cX12_doesSteps 123 = .ok (.bipush 100, 2) := by decide +kernel
theorem dX12_doesSteps_125 : decode cX12_doesSteps 125 = .ok (.isub, 1) := by decide +kernel
theorem dX12_doesSteps_126 : decode cX12_doesSteps 126 = .ok (.iastore, 1) := by decide +kernel
theorem dX12_doesSteps_127 : decode cX12_doesSteps 127 = .ok (.iinc 1 1, 3) := by decide +kernel
theorem dX12_doesSteps_130 : decode cX12_doesSteps 130 = .ok (.goto 16, 3) := by decide +kernel
theorem dX12_doesSteps_133 : decode cX12_doesSteps 133 = .ok (.iload_n 2, 1) := by decide +kernel
theorem dX12_doesSteps_134 : decode cX12_doesSteps 134 = .ok (.aload_n 0, 1) := by decide +kernel
theorem dX12_doesSteps_135 : decode cX12_doesSteps 135 = .ok (.aload_n 0, 1) := by decide +kernel
theorem dX12_doesSteps_136 : decode cX12_doesSteps 136 = .ok (.getfield 36, 3) := by decide +kernel
theorem dX12_doesSteps_139 : decode cX12_doesSteps 139 = .ok (.iload_n 3, 1) := by decide +kernel
theorem dX12_doesSteps_140 : decode cX12_doesSteps 140 = .ok (.iaload, 1) := by decide +kernel
theorem dX12_doesSteps_141 : decode cX12_doesSteps 141 = .ok (.invokevirtual 251, 3) := by decide +kernel
theorem dX12_doesSteps_144 : decode cX12_doesSteps 144 = .ok (.iadd, 1) := by decide +kernel
theorem dX12_doesSteps_145 : decode cX12_doesSteps 145 = .ok (.istore_n 2, 1) := by decide +kernel
theorem dX12_doesSteps_146 : decode cX12_doesSteps 146 = .ok (.iinc 3 1, 3) := by decide +kernel
theorem dX12_doesSteps_149 : decode cX12_doesSteps 149 = .ok (.goto (-143), 3) := by decide +kernel
theorem dX12_doesSteps_152 : decode cX12_doesSteps 152 = .ok (.iload_n 2, 1) := by decide +kernel
theorem dX12_doesSteps_153 : decode cX12_doesSteps 153 = .ok (.ireturn, 1) := by decide +kernel
set_option maxRecDepth 20000 in
theorem ggX12_names_X12_readsSteps : GoodIn wsX12_names wsX12_readsSteps := goodIn_r _ [6, 7, 8, 9, 10, 11, 12, 13, 14, 15, 16, 17, 5, 18, 19, 20, 21, 22, 23, 24, 25, 26, 1, 27, 28, 29, 30, 31, 32, 33, 34, 35, 36, 37, 38, 39, 40, 41, 42, 43, 44, 45, 46, 47, 48, 49, 50, 51, 52, 53, 54, 55, 56, 57, 58, 59, 60, 61, 62, 63, 64, 65, 66, 67, 68, 69, 70, 71, 72, 160, 161, 162, 163, 164, 165, 166, 167, 168, 169, 170, 171, 172, 173, 174, 175, 176, 177, 178, 179, 180, 181, 182, 183, 184, 185, 186, 187, 188, 189, 190, 191, 192, 193, 194, 195, 196, 197, 198, 199, 200, 201, 202, 203, 204, 205, 206] (by decide +kernel) (by decide +kernel)
set_option maxRecDepth 20000 in
theorem gX12_names_X12_readsSteps : GoodIn wsX12_names (wsV RX12 260 RX12 yX12_readsSteps wsX12_readsSteps) := goodIn_app (goodIn_of _ (by decide +kernel)) ggX12_names_X12_readsSteps
set_option maxRecDepth 20000 in
theorem ggX12_names_X12_call : GoodIn wsX12_names wsX12_call := goodIn_r _ [76, 77, 160, 161, 162, 163, 164, 165, 166, 167, 168, 169, 170, 171, 172, 173, 174, 175, 176, 177, 178, 179, 180, 181, 182, 183, 184, 185, 186, 187, 188, 189, 190, 191, 192, 193, 194, 195, 196, 197, 198, 199, 200, 201, 202, 203, 204, 205, 206] (by decide +kernel) (by decide +kernel)
set_option maxRecDepth 20000 in
theorem gX12_names_X12_call : GoodIn wsX12_names (wsV RX12 245 RX12 yX12_call wsX12_call) := goodIn_app (goodIn_of _ (by decide +kernel)) ggX12_names_X12_call
set_option maxRecDepth 20000 in
theorem ggX12_names_X12_keeps : GoodIn wsX12_names wsX12_keeps := goodIn_r _ [81, 82, 83, 14, 84, 85, 5, 86, 160, 161, 162, 163, 164, 165, 166, 167, 168, 169, 170, 171, 172, 173, 174, 175, 176, 177, 178, 179, 180, 181, 182, 183, 184, 185, 186, 187, 188, 189, 190, 191, 192, 193, 194, 195, 196, 197, 198, 199, 200, 201, 202, 203, 204, 205, 206] (by decide +kernel) (by decide +kernel)
set_option maxRecDepth 20000 in
theorem gX12_names_X12_keeps : GoodIn wsX12_names (wsV RX12 248 RX12 yX12_keeps wsX12_keeps) := goodIn_app (goodIn_of _ (by decide +kernel)) ggX12_names_X12_keeps
set_option maxRecDepth 20000 in
theorem ggX12_names_X12_doesSteps : GoodIn wsX12_names wsX12_doesSteps := goodIn_r _ [90, 14, 7, 10, 11, 91, 12, 92, 93, 94, 5, 95, 96, 97, 98, 99, 100, 101, 102, 103, 104, 105, 106, 107, 108, 109, 110, 111, 112, 113, 114, 115, 116, 117, 118, 119, 120, 121, 122, 123, 124, 125, 126, 127, 128, 129, 130, 131, 132, 133, 134, 135, 136, 137, 138, 139, 140, 141, 142, 143, 144, 145, 146, 147, 148, 149, 150, 151, 152, 153, 77, 154, 155, 156, 157, 158, 159, 160, 161, 162, 163, 164, 165, 166, 167, 168, 169, 170, 171, 172, 173, 174, 175, 176, 177, 178, 179, 180, 181, 182, 183, 184, 185, 186, 187, 188, 189, 190, 191, 192, 193, 194, 195, 196, 197, 198, 199, 200, 201, 202, 203, 204, 205, 206] (by decide +kernel) (by decide +kernel)
set_option maxRecDepth 20000 in
theorem gX12_names_X12_doesSteps : GoodIn wsX12_names (wsV RX12 263 RX12 yX12_doesSteps wsX12_doesSteps) := goodIn_app (goodIn_of _ (by decide +kernel)) ggX12_names_X12_doesSteps
theorem dX12_names_0 : decode cX12_names 0 = .ok (.aload_n 0, 1) := by decide +kernel
theorem dX12_names_1 : decode cX12_names 1 = .ok (.invokevirtual 260, 3) := by decide +kernel
theorem dX12_names_4 : decode cX12_names 4 = .ok (.ifCond .ne 12, 3) := by decide +kernel
theorem dX12_names_7 : decode cX12_names 7 = .ok (.sipush (-1000), 3) := by decide +kernel
theorem dX12_names_10 : decode cX12_names 10 = .ok (.aload_n 0, 1) := by decide +kernel
theorem dX12_names_11 : decode cX12_names 11 = .ok (.getfield 96, 3) := by decide +kernel
theorem dX12_names_14 : decode cX12_names 14 = .ok (.isub, 1) := by decide +kernel
theorem dX12_names_15 : decode cX12_names 15 = .ok (.ireturn, 1) := by decide +kernel
theorem dX12_names_16 : decode cX12_names 16 = .ok (.aload_n 0, 1) := by decide +kernel
theorem dX12_names_17 : decode cX12_names 17 = .ok (.invokevirtual 245, 3) := by decide +kernel
theorem dX12_names_20 : decode cX12_names 20 = .ok (.aload_n 0, 1) := by decide +kernel
theorem dX12_names_21 : decode cX12_names 21 = .ok (.invokevirtual 248, 3) := by decide +kernel
theorem dX12_names_24 : decode cX12_names 24 = .ok (.aload_n 0, 1) := by decide +kernel
theorem dX12_names_25 : decode cX12_names 25 = .ok (.invokevirtual 263, 3) := by decide +kernel
theorem dX12_names_28 : decode cX12_names 28 = .ok (.ireturn, 1) := by decide +kernel
set_option maxRecDepth 20000 in
theorem ggX12_now_X12_lies : GoodIn wsX12_now wsX12_lies := goodIn_r _ [7, 1, 8, 9, 6, 10, 11, 12, 13, 14, 15, 16, 17, 18, 19, 20, 21, 22, 23, 24, 25, 26, 27, 28, 29, 30, 31, 32, 33, 34, 35, 36, 37, 38, 39, 40, 41, 42, 43, 44, 45, 46, 47, 48, 49, 50, 51, 52, 53, 54, 55, 56, 57] (by decide +kernel) (by decide +kernel)
set_option maxRecDepth 20000 in
theorem gX12_now_X12_lies : GoodIn wsX12_now (wsV RX12 206 RX12 yX12_lies wsX12_lies) := goodIn_app (goodIn_of _ (by decide +kernel)) ggX12_now_X12_lies
theorem dX12_now_0 : decode cX12_now 0 = .ok (.iload_n 1, 1) := by decide +kernel
theorem dX12_now_1 : decode cX12_now 1 = .ok (.tableswitch 130 0 9 #[55, 62, 69, 76, 83, 95, 102, 110, 115, 122], 55) := by decide +kernel
theorem dX12_now_56 : decode cX12_now 56 = .ok (.aload_n 0, 1) := by decide +kernel
theorem dX12_now_57 : decode cX12_now 57 = .ok (.getfield 7, 3) := by decide +kernel
theorem dX12_now_60 : decode cX12_now 60 = .ok (.iconst 0, 1) := by decide +kernel
theorem dX12_now_61 : decode cX12_now 61 = .ok (.iaload, 1) := by decide +kernel
theorem dX12_now_62 : decode cX12_now 62 = .ok (.ireturn, 1) := by decide +kernel
theorem dX12_now_63 : decode cX12_now 63 = .ok (.aload_n 0, 1) := by decide +kernel
theorem dX12_now_64 : decode cX12_now 64 = .ok (.getfield 7, 3) := by decide +kernel
theorem dX12_now_67 : decode cX12_now 67 = .ok (.iconst 1, 1) := by decide +kernel
theorem dX12_now_68 : decode cX12_now 68 = .ok (.iaload, 1) := by decide +kernel
theorem dX12_now_69 : decode cX12_now 69 = .ok (.ireturn, 1) := by decide +kernel
theorem dX12_now_70 : decode cX12_now 70 = .ok (.aload_n 0, 1) := by decide +kernel
theorem dX12_now_71 : decode cX12_now 71 = .ok (.getfield 7, 3) := by decide +kernel
theorem dX12_now_74 : decode cX12_now 74 = .ok (.iconst 2, 1) := by decide +kernel
theorem dX12_now_75 : decode cX12_now 75 = .ok (.iaload, 1) := by decide +kernel
theorem dX12_now_76 : decode cX12_now 76 = .ok (.ireturn, 1) := by decide +kernel
theorem dX12_now_77 : decode cX12_now 77 = .ok (.aload_n 0, 1) := by decide +kernel
theorem dX12_now_78 : decode cX12_now 78 = .ok (.getfield 7, 3) := by decide +kernel
theorem dX12_now_81 : decode cX12_now 81 = .ok (.iconst 3, 1) := by decide +kernel
theorem dX12_now_82 : decode cX12_now 82 = .ok (.iaload, 1) := by decide +kernel
theorem dX12_now_83 : decode cX12_now 83 = .ok (.ireturn, 1) := by decide +kernel
theorem dX12_now_84 : decode cX12_now 84 = .ok (.aload_n 0, 1) := by decide +kernel
theorem dX12_now_85 : decode cX12_now 85 = .ok (.getfield 7, 3) := by decide +kernel
theorem dX12_now_88 : decode cX12_now 88 = .ok (.iconst 0, 1) := by decide +kernel
theorem dX12_now_89 : decode cX12_now 89 = .ok (.iaload, 1) := by decide +kernel
theorem dX12_now_90 : decode cX12_now 90 = .ok (.aload_n 0, 1) := by decide +kernel
theorem dX12_now_91 : decode cX12_now 91 = .ok (.invokevirtual 206, 3) := by decide +kernel
theorem dX12_now_94 : decode cX12_now 94 = .ok (.isub, 1) := by decide +kernel
theorem dX12_now_95 : decode cX12_now 95 = .ok (.ireturn, 1) := by decide +kernel
theorem dX12_now_96 : decode cX12_now 96 = .ok (.aload_n 0, 1) := by decide +kernel
theorem dX12_now_97 : decode cX12_now 97 = .ok (.getfield 7, 3) := by decide +kernel
theorem dX12_now_100 : decode cX12_now 100 = .ok (.iconst 4, 1) := by decide +kernel
theorem dX12_now_101 : decode cX12_now 101 = .ok (.iaload, 1) := by decide +kernel
theorem dX12_now_102 : decode cX12_now 102 = .ok (.ireturn, 1) := by decide +kernel
theorem dX12_now_103 : decode cX12_now 103 = .ok (.aload_n 0, 1) := by decide +kernel
theorem dX12_now_104 : decode cX12_now 104 = .ok (.getfield 7, 3) := by decide +kernel
theorem dX12_now_107 : decode cX12_now 107 = .ok (.bipush 7, 2) := by decide +kernel
theorem dX12_now_109 : decode cX12_now 109 = .ok (.iaload, 1) := by decide +kernel
theorem dX12_now_110 : decode cX12_now 110 = .ok (.ireturn, 1) := by decide +kernel
theorem dX12_now_111 : decode cX12_now 111 = .ok (.aload_n 0, 1) := by decide +kernel
theorem dX12_now_112 : decode cX12_now 112 = .ok (.getfield 75, 3) := by decide +kernel
theorem dX12_now_115 : decode cX12_now 115 = .ok (.ireturn, 1) := by decide +kernel
theorem dX12_now_116 : decode cX12_now 116 = .ok (.aload_n 0, 1) := by decide +kernel
theorem dX12_now_117 : decode cX12_now 117 = .ok (.getfield 7, 3) := by decide +kernel
theorem dX12_now_120 : decode cX12_now 120 = .ok (.iconst 5, 1) := by decide +kernel
theorem dX12_now_121 : decode cX12_now 121 = .ok (.iaload, 1) := by decide +kernel
theorem dX12_now_122 : decode cX12_now 122 = .ok (.ireturn, 1) := by decide +kernel
theorem dX12_now_123 : decode cX12_now 123 = .ok (.aload_n 0, 1) := by decide +kernel
theorem dX12_now_124 : decode cX12_now 124 = .ok (.getfield 7, 3) := by decide +kernel
theorem dX12_now_127 : decode cX12_now 127 = .ok (.bipush 6, 2) := by decide +kernel
theorem dX12_now_129 : decode cX12_now 129 = .ok (.iaload, 1) := by decide +kernel
theorem dX12_now_130 : decode cX12_now 130 = .ok (.ireturn, 1) := by decide +kernel
theorem dX12_now_131 : decode cX12_now 131 = .ok (.iconst (-1), 1) := by decide +kernel
theorem dX12_now_132 : decode cX12_now 132 = .ok (.ireturn, 1) := by decide +kernel
set_option maxRecDepth 20000 in
theorem ggX12_item__X12_isItem : GoodIn wsX12_item_ wsX12_isItem := goodIn_r _ [6, 1, 7, 8, 5, 9, 10, 11, 12, 13, 14, 15, 16, 17, 18, 19, 20, 21, 22, 23, 24, 25, 26, 27, 28, 29, 30, 31, 32, 33, 34, 35, 36, 37, 38, 39, 40, 41, 42, 43, 44, 45, 46, 47, 48, 49, 50, 51, 52, 53, 54, 55, 56] (by decide +kernel) (by decide +kernel)
set_option maxRecDepth 20000 in
theorem gX12_item__X12_isItem : GoodIn wsX12_item_ (wsV RX12 242 RX12 yX12_isItem wsX12_isItem) := goodIn_app (goodIn_of _ (by decide +kernel)) ggX12_item__X12_isItem
theorem dX12_item__0 : decode cX12_item_ 0 = .ok (.aload_n 0, 1) := by decide +kernel
theorem dX12_item__1 : decode cX12_item_ 1 = .ok (.iload_n 1, 1) := by decide +kernel
theorem dX12_item__2 : decode cX12_item_ 2 = .ok (.invokevirtual 242, 3) := by decide +kernel
theorem dX12_item__5 : decode cX12_item_ 5 = .ok (.ifCond .ne 5, 3) := by decide +kernel
theorem dX12_item__8 : decode cX12_item_ 8 = .ok (.iconst (-1), 1) := by decide +kernel
theorem dX12_item__9 : decode cX12_item_ 9 = .ok (.ireturn, 1) := by decide +kernel
theorem dX12_item__10 : decode cX12_item_ 10 = .ok (.iload_n 2, 1) := by decide +kernel
theorem dX12_item__11 : decode cX12_item_ 11 = .ok (.tableswitch 97 0 5 #[37, 47, 57, 67, 77, 87], 37) := by decide +kernel
theorem dX12_item__48 : decode cX12_item_ 48 = .ok (.aload_n 0, 1) := by decide +kernel
theorem dX12_item__49 : decode cX12_item_ 49 = .ok (.getfield 7, 3) := by decide +kernel
theorem dX12_item__52 : decode cX12_item_ 52 = .ok (.bipush 8, 2) := by decide +kernel
theorem dX12_item__54 : decode cX12_item_ 54 = .ok (.iload_n 1, 1) := by decide +kernel
theorem dX12_item__55 : decode cX12_item_ 55 = .ok (.iadd, 1) := by decide +kernel
theorem dX12_item__56 : decode cX12_item_ 56 = .ok (.iaload, 1) := by decide +kernel
theorem dX12_item__57 : decode cX12_item_ 57 = .ok (.ireturn, 1) := by decide +kernel
theorem dX12_item__58 : decode cX12_item_ 58 = .ok (.aload_n 0, 1) := by decide +kernel
theorem dX12_item__59 : decode cX12_item_ 59 = .ok (.getfield 7, 3) := by decide +kernel
theorem dX12_item__62 : decode cX12_item_ 62 = .ok (.bipush 16, 2) := by decide +kernel
theorem dX12_item__64 : decode cX12_item_ 64 = .ok (.iload_n 1, 1) := by decide +kernel
theorem dX12_item__65 : decode cX12_item_ 65 = .ok (.iadd, 1) := by decide +kernel
theorem dX12_item__66 : decode cX12_item_ 66 = .ok (.iaload, 1) := by decide +kernel
theorem dX12_item__67 : decode cX12_item_ 67 = .ok (.ireturn, 1) := by decide +kernel
theorem dX12_item__68 : decode cX12_item_ 68 = .ok (.aload_n 0, 1) := by decide +kernel
theorem dX12_item__69 : decode cX12_item_ 69 = .ok (.getfield 7, 3) := by decide +kernel
theorem dX12_item__72 : decode cX12_item_ 72 = .ok (.bipush 24, 2) := by decide +kernel
theorem dX12_item__74 : decode cX12_item_ 74 = .ok (.iload_n 1, 1) := by decide +kernel
theorem dX12_item__75 : decode cX12_item_ 75 = .ok (.iadd, 1) := by decide +kernel
theorem dX12_item__76 : decode cX12_item_ 76 = .ok (.iaload, 1) := by decide +kernel
theorem dX12_item__77 : decode cX12_item_ 77 = .ok (.ireturn, 1) := by decide +kernel
theorem dX12_item__78 : decode cX12_item_ 78 = .ok (.aload_n 0, 1) := by decide +kernel
theorem dX12_item__79 : decode cX12_item_ 79 = .ok (.getfield 7, 3) := by decide +kernel
theorem dX12_item__82 : decode cX12_item_ 82 = .ok (.bipush 32, 2) := by decide +kernel
theorem dX12_item__84 : decode cX12_item_ 84 = .ok (.iload_n 1, 1) := by decide +kernel
theorem dX12_item__85 : decode cX12_item_ 85 = .ok (.iadd, 1) := by decide +kernel
theorem dX12_item__86 : decode cX12_item_ 86 = .ok (.iaload, 1) := by decide +kernel
theorem dX12_item__87 : decode cX12_item_ 87 = .ok (.ireturn, 1) := by decide +kernel
theorem dX12_item__88 : decode cX12_item_ 88 = .ok (.aload_n 0, 1) := by decide +kernel
theorem dX12_item__89 : decode cX12_item_ 89 = .ok (.getfield 7, 3) := by decide +kernel
theorem dX12_item__92 : decode cX12_item_ 92 = .ok (.bipush 40, 2) := by decide +kernel
theorem dX12_item__94 : decode cX12_item_ 94 = .ok (.iload_n 1, 1) := by decide +kernel
theorem dX12_item__95 : decode cX12_item_ 95 = .ok (.iadd, 1) := by decide +kernel
theorem dX12_item__96 : decode cX12_item_ 96 = .ok (.iaload, 1) := by decide +kernel
theorem dX12_item__97 : decode cX12_item_ 97 = .ok (.ireturn, 1) := by decide +kernel
theorem dX12_item__98 : decode cX12_item_ 98 = .ok (.aload_n 0, 1) := by decide +kernel
theorem dX12_item__99 : decode cX12_item_ 99 = .ok (.getfield 7, 3) := by decide +kernel
theorem dX12_item__102 : decode cX12_item_ 102 = .ok (.bipush 48, 2) := by decide +kernel
theorem dX12_item__104 : decode cX12_item_ 104 = .ok (.iload_n 1, 1) := by decide +kernel
theorem dX12_item__105 : decode cX12_item_ 105 = .ok (.iadd, 1) := by decide +kernel
theorem dX12_item__106 : decode cX12_item_ 106 = .ok (.iaload, 1) := by decide +kernel
theorem dX12_item__107 : decode cX12_item_ 107 = .ok (.ireturn, 1) := by decide +kernel
theorem dX12_item__108 : decode cX12_item_ 108 = .ok (.iconst (-1), 1) := by decide +kernel
theorem dX12_item__109 : decode cX12_item_ 109 = .ok (.ireturn, 1) := by decide +kernel
set_option maxRecDepth 20000 in
theorem ggX12_isLogged_X12_isIn : GoodIn wsX12_isLogged wsX12_isIn := goodIn_r _ [5] (by decide +kernel) (by decide +kernel)
set_option maxRecDepth 20000 in
theorem gX12_isLogged_X12_isIn : GoodIn wsX12_isLogged (va_wsS RX12 83 yX12_isIn wsX12_isIn) := goodIn_app (goodIn_of _ (by decide +kernel)) ggX12_isLogged_X12_isIn
theorem dX12_isLogged_0 : decode cX12_isLogged 0 = .ok (.iload_n 1, 1) := by decide +kernel
theorem dX12_isLogged_1 : decode cX12_isLogged 1 = .ok (.iconst 0, 1) := by decide +kernel
theorem dX12_isLogged_2 : decode cX12_isLogged 2 = .ok (.aload_n 0, 1) := by decide +kernel
theorem dX12_isLogged_3 : decode cX12_isLogged 3 = .ok (.getfield 7, 3) := by decide +kernel
theorem dX12_isLogged_6 : decode cX12_isLogged 6 = .ok (.bipush 7, 2) := by decide +kernel
theorem dX12_isLogged_8 : decode cX12_isLogged 8 = .ok (.iaload, 1) := by decide +kernel
theorem dX12_isLogged_9 : decode cX12_isLogged 9 = .ok (.iconst 1, 1) := by decide +kernel
theorem dX12_isLogged_10 : decode cX12_isLogged 10 = .ok (.isub, 1) := by decide +kernel
theorem dX12_isLogged_11 : decode cX12_isLogged 11 = .ok (.invokestatic 83, 3) := by decide +kernel
theorem dX12_isLogged_14 : decode cX12_isLogged 14 = .ok (.ireturn, 1) := by decide +kernel
set_option maxRecDepth 20000 in
theorem ggX12_log_X12_isLogged : GoodIn wsX12_log wsX12_isLogged := goodIn_r _ [6, 1, 7, 8, 5, 9, 10, 11, 12, 13, 14, 15, 16, 17, 18, 19, 20, 21, 22, 23, 24, 25, 26, 27, 28, 29, 30, 31, 32, 33, 34, 35, 36, 37, 38, 39, 40, 41, 42, 43, 44, 45, 46, 47, 48, 49, 50, 51, 52, 53, 54, 55, 56] (by decide +kernel) (by decide +kernel)
set_option maxRecDepth 20000 in
theorem gX12_log_X12_isLogged : GoodIn wsX12_log (wsV RX12 266 RX12 yX12_isLogged wsX12_isLogged) := goodIn_app (goodIn_of _ (by decide +kernel)) ggX12_log_X12_isLogged
theorem dX12_log_0 : decode cX12_log 0 = .ok (.aload_n 0, 1) := by decide +kernel
theorem dX12_log_1 : decode cX12_log 1 = .ok (.iload_n 1, 1) := by decide +kernel
theorem dX12_log_2 : decode cX12_log 2 = .ok (.invokevirtual 266, 3) := by decide +kernel
theorem dX12_log_5 : decode cX12_log 5 = .ok (.ifCond .ne 5, 3) := by decide +kernel
theorem dX12_log_8 : decode cX12_log 8 = .ok (.iconst (-1), 1) := by decide +kernel
theorem dX12_log_9 : decode cX12_log 9 = .ok (.ireturn, 1) := by decide +kernel
theorem dX12_log_10 : decode cX12_log 10 = .ok (.iload_n 2, 1) := by decide +kernel
theorem dX12_log_11 : decode cX12_log 11 = .ok (.ifCond .ne 15, 3) := by decide +kernel
theorem dX12_log_14 : decode cX12_log 14 = .ok (.aload_n 0, 1) := by decide +kernel
theorem dX12_log_15 : decode cX12_log 15 = .ok (.getfield 7, 3) := by decide +kernel
theorem dX12_log_18 : decode cX12_log 18 = .ok (.bipush 104, 2) := by decide +kernel
theorem dX12_log_20 : decode cX12_log 20 = .ok (.iload_n 1, 1) := by decide +kernel
theorem dX12_log_21 : decode cX12_log 21 = .ok (.iadd, 1) := by decide +kernel
theorem dX12_log_22 : decode cX12_log 22 = .ok (.iaload, 1) := by decide +kernel
theorem dX12_log_23 : decode cX12_log 23 = .ok (.goto 40, 3) := by decide +kernel
theorem dX12_log_26 : decode cX12_log 26 = .ok (.iload_n 2, 1) := by decide +kernel
theorem dX12_log_27 : decode cX12_log 27 = .ok (.iconst 1, 1) := by decide +kernel
theorem dX12_log_28 : decode cX12_log 28 = .ok (.if_icmp .ne 16, 3) := by decide +kernel
theorem dX12_log_31 : decode cX12_log 31 = .ok (.aload_n 0, 1) := by decide +kernel
theorem dX12_log_32 : decode cX12_log 32 = .ok (.getfield 7, 3) := by decide +kernel
theorem dX12_log_35 : decode cX12_log 35 = .ok (.sipush 144, 3) := by decide +kernel
theorem dX12_log_38 : decode cX12_log 38 = .ok (.iload_n 1, 1) := by decide +kernel
theorem dX12_log_39 : decode cX12_log 39 = .ok (.iadd, 1) := by decide +kernel
theorem dX12_log_40 : decode cX12_log 40 = .ok (.iaload, 1) := by decide +kernel
theorem dX12_log_41 : decode cX12_log 41 = .ok (.goto 22, 3) := by decide +kernel
theorem dX12_log_44 : decode cX12_log 44 = .ok (.iload_n 2, 1) := by decide +kernel
theorem dX12_log_45 : decode cX12_log 45 = .ok (.iconst 2, 1) := by decide +kernel
theorem dX12_log_46 : decode cX12_log 46 = .ok (.if_icmp .ne 16, 3) := by decide +kernel
theorem dX12_log_49 : decode cX12_log 49 = .ok (.aload_n 0, 1) := by decide +kernel
theorem dX12_log_50 : decode cX12_log 50 = .ok (.getfield 7, 3) := by decide +kernel
theorem dX12_log_53 : decode cX12_log 53 = .ok (.sipush 184, 3) := by decide +kernel
theorem dX12_log_56 : decode cX12_log 56 = .ok (.iload_n 1, 1) := by decide +kernel
theorem dX12_log_57 : decode cX12_log 57 = .ok (.iadd, 1) := by decide +kernel
theorem dX12_log_58 : decode cX12_log 58 = .ok (.iaload, 1) := by decide +kernel
theorem dX12_log_59 : decode cX12_log 59 = .ok (.goto 4, 3) := by decide +kernel
theorem dX12_log_62 : decode cX12_log 62 = .ok (.iconst (-1), 1) := by decide +kernel
theorem dX12_log_63 : decode cX12_log 63 = .ok (.ireturn, 1) := by decide +kernel
set_option maxRecDepth 20000 in
theorem ggX12_empties_X12_ones : GoodIn wsX12_empties wsX12_ones := goodIn_r _ [5] (by decide +kernel) (by decide +kernel)
set_option maxRecDepth 20000 in
theorem gX12_empties_X12_ones : GoodIn wsX12_empties (va_wsS RX12 269 yX12_ones wsX12_ones) := goodIn_app (goodIn_of _ (by decide +kernel)) ggX12_empties_X12_ones
theorem dX12_empties_0 : decode cX12_empties 0 = .ok (.aload_n 0, 1) := by decide +kernel
theorem dX12_empties_1 : decode cX12_empties 1 = .ok (.getfield 7, 3) := by decide +kernel
theorem dX12_empties_4 : decode cX12_empties 4 = .ok (.iconst 3, 1) := by decide +kernel
theorem dX12_empties_5 : decode cX12_empties 5 = .ok (.iaload, 1) := by decide +kernel
theorem dX12_empties_6 : decode cX12_empties 6 = .ok (.invokestatic 269, 3) := by decide +kernel
theorem dX12_empties_9 : decode cX12_empties 9 = .ok (.istore_n 1, 1) := by decide +kernel
theorem dX12_empties_10 : decode cX12_empties 10 = .ok (.aload_n 0, 1) := by decide +kernel
theorem dX12_empties_11 : decode cX12_empties 11 = .ok (.getfield 7, 3) := by decide +kernel
theorem dX12_empties_14 : decode cX12_empties 14 = .ok (.iconst 3, 1) := by decide +kernel
theorem dX12_empties_15 : decode cX12_empties 15 = .ok (.iconst 0, 1) := by decide +kernel
theorem dX12_empties_16 : decode cX12_empties 16 = .ok (.iastore, 1) := by decide +kernel
theorem dX12_empties_17 : decode cX12_empties 17 = .ok (.aload_n 0, 1) := by decide +kernel
theorem dX12_empties_18 : decode cX12_empties 18 = .ok (.getfield 7, 3) := by decide +kernel
theorem dX12_empties_21 : decode cX12_empties 21 = .ok (.bipush 7, 2) := by decide +kernel
theorem dX12_empties_23 : decode cX12_empties 23 = .ok (.iconst 0, 1) := by decide +kernel
theorem dX12_empties_24 : decode cX12_empties 24 = .ok (.iastore, 1) := by decide +kernel
theorem dX12_empties_25 : decode cX12_empties 25 = .ok (.iconst 0, 1) := by decide +kernel
theorem dX12_empties_26 : decode cX12_empties 26 = .ok (.istore_n 2, 1) := by decide +kernel
theorem dX12_empties_27 : decode cX12_empties 27 = .ok (.iload_n 2, 1) := by decide +kernel
theorem dX12_empties_28 : decode cX12_empties 28 = .ok (.bipush 8, 2) := by decide +kernel
theorem dX12_empties_30 : decode cX12_empties 30 = .ok (.if_icmp .ge 39, 3) := by decide +kernel
theorem dX12_empties_33 : decode cX12_empties 33 = .ok (.aload_n 0, 1) := by decide +kernel
theorem dX12_empties_34 : decode cX12_empties 34 = .ok (.getfield 7, 3) := by decide +kernel
theorem dX12_empties_37 : decode cX12_empties 37 = .ok (.bipush 32, 2) := by decide +kernel
theorem dX12_empties_39 : decode cX12_empties 39 = .ok (.iload_n 2, 1) := by decide +kernel
theorem dX12_empties_40 : decode cX12_empties 40 = .ok (.iadd, 1) := by decide +kernel
theorem dX12_empties_41 : decode cX12_empties 41 = .ok (.iconst 0, 1) := by decide +kernel
theorem dX12_empties_42 : decode cX12_empties 42 = .ok (.iastore, 1) := by decide +kernel
theorem dX12_empties_43 : decode cX12_empties 43 = .ok (.aload_n 0, 1) := by decide +kernel
theorem dX12_empties_44 : decode cX12_empties 44 = .ok (.getfield 7, 3) := by decide +kernel
theorem dX12_empties_47 : decode cX12_empties 47 = .ok (.bipush 40, 2) := by decide +kernel
theorem dX12_empties_49 : decode cX12_empties 49 = .ok (.iload_n 2, 1) := by decide +kernel
theorem dX12_empties_50 : decode cX12_empties 50 = .ok (.iadd, 1) := by decide +kernel
theorem dX12_empties_51 : decode cX12_empties 51 = .ok (.iconst 0, 1) := by decide +kernel
theorem dX12_empties_52 : decode cX12_empties 52 = .ok (.iastore, 1) := by decide +kernel
theorem dX12_empties_53 : decode cX12_empties 53 = .ok (.aload_n 0, 1) := by decide +kernel
theorem dX12_empties_54 : decode cX12_empties 54 = .ok (.getfield 7, 3) := by decide +kernel
theorem dX12_empties_57 : decode cX12_empties 57 = .ok (.bipush 48, 2) := by decide +kernel
theorem dX12_empties_59 : decode cX12_empties 59 = .ok (.iload_n 2, 1) := by decide +kernel
theorem dX12_empties_60 : decode cX12_empties 60 = .ok (.iadd, 1) := by decide +kernel
theorem dX12_empties_61 : decode cX12_empties 61 = .ok (.iconst 0, 1) := by decide +kernel
theorem dX12_empties_62 : decode cX12_empties 62 = .ok (.iastore, 1) := by decide +kernel
theorem dX12_empties_63 : decode cX12_empties 63 = .ok (.iinc 2 1, 3) := by decide +kernel
theorem dX12_empties_66 : decode cX12_empties 66 = .ok (.goto (-39), 3) := by decide +kernel
theorem dX12_empties_69 : decode cX12_empties 69 = .ok (.iload_n 1, 1) := by decide +kernel
theorem dX12_empties_70 : decode cX12_empties 70 = .ok (.ireturn, 1) := by decide +kernel
set_option maxRecDepth 20000 in
theorem ggX12_room_X12_isIn : GoodIn wsX12_room wsX12_isIn := goodIn_r _ [5] (by decide +kernel) (by decide +kernel)
set_option maxRecDepth 20000 in
theorem gX12_room_X12_isIn : GoodIn wsX12_room (va_wsS RX12 83 yX12_isIn wsX12_isIn) := goodIn_app (goodIn_of _ (by decide +kernel)) ggX12_room_X12_isIn
set_option maxRecDepth 20000 in
theorem ggX12_room_X12_keeps : GoodIn wsX12_room wsX12_keeps := goodIn_r _ [9, 10, 11, 1, 12, 13, 4, 14, 22, 23, 24, 25, 26, 27, 28, 29, 30, 31, 32, 33, 34, 35, 36, 37, 38, 39, 40, 41, 42, 43, 44, 45, 46, 47, 48, 49, 50, 51, 52, 53, 54, 55, 56, 57, 58, 59, 60, 61, 62, 63, 64, 65, 66, 67, 68] (by decide +kernel) (by decide +kernel)
set_option maxRecDepth 20000 in
theorem gX12_room_X12_keeps : GoodIn wsX12_room (wsV RX12 248 RX12 yX12_keeps wsX12_keeps) := goodIn_app (goodIn_of _ (by decide +kernel)) ggX12_room_X12_keeps
set_option maxRecDepth 20000 in
theorem ggX12_room_X12_empties : GoodIn wsX12_room wsX12_empties := goodIn_r _ [18, 1, 19, 20, 4, 21, 22, 23, 24, 25, 26, 27, 28, 29, 30, 31, 32, 33, 34, 35, 36, 37, 38, 39, 40, 41, 42, 43, 44, 45, 46, 47, 48, 49, 50, 51, 52, 53, 54, 55, 56, 57, 58, 59, 60, 61, 62, 63, 64, 65, 66, 67, 68] (by decide +kernel) (by decide +kernel)
set_option maxRecDepth 20000 in
theorem gX12_room_X12_empties : GoodIn wsX12_room (wsV RX12 272 RX12 yX12_empties wsX12_empties) := goodIn_app (goodIn_of _ (by decide +kernel)) ggX12_room_X12_empties
theorem dX12_room_0 : decode cX12_room 0 = .ok (.iload_n 1, 1) := by decide +kernel
theorem dX12_room_1 : decode cX12_room 1 = .ok (.iconst 1, 1) := by decide +kernel
theorem dX12_room_2 : decode cX12_room 2 = .ok (.bipush 20, 2) := by decide +kernel
theorem dX12_room_4 : decode cX12_room 4 = .ok (.invokestatic 83, 3) := by decide +kernel
theorem dX12_room_7 : decode cX12_room 7 = .ok (.ifCond .eq 13, 3) := by decide +kernel
theorem dX12_room_10 : decode cX12_room 10 = .ok (.iload_n 1, 1) := by decide +kernel
theorem dX12_room_11 : decode cX12_room 11 = .ok (.aload_n 0, 1) := by decide +kernel
theorem dX12_room_12 : decode cX12_room 12 = .ok (.getfield 7, 3) := by decide +kernel
theorem dX12_room_15 : decode cX12_room 15 = .ok (.iconst 0, 1) := by decide +kernel
theorem dX12_room_16 : decode cX12_room 16 = .ok (.iaload, 1) := by decide +kernel
theorem dX12_room_17 : decode cX12_room 17 = .ok (.if_icmp .ne 5, 3) := by decide +kernel
theorem dX12_room_20 : decode cX12_room 20 = .ok (.iconst (-1), 1) := by decide +kernel
theorem dX12_room_21 : decode cX12_room 21 = .ok (.ireturn, 1) := by decide +kernel
theorem dX12_room_22 : decode cX12_room 22 = .ok (.aload_n 0, 1) := by decide +kernel
theorem dX12_room_23 : decode cX12_room 23 = .ok (.invokevirtual 248, 3) := by decide +kernel
theorem dX12_room_26 : decode cX12_room 26 = .ok (.aload_n 0, 1) := by decide +kernel
theorem dX12_room_27 : decode cX12_room 27 = .ok (.getfield 7, 3) := by decide +kernel
theorem dX12_room_30 : decode cX12_room 30 = .ok (.iconst 0, 1) := by decide +kernel
theorem dX12_room_31 : decode cX12_room 31 = .ok (.iload_n 1, 1) := by decide +kernel
theorem dX12_room_32 : decode cX12_room 32 = .ok (.iastore, 1) := by decide +kernel
theorem dX12_room_33 : decode cX12_room 33 = .ok (.aload_n 0, 1) := by decide +kernel
theorem dX12_room_34 : decode cX12_room 34 = .ok (.invokevirtual 272, 3) := by decide +kernel
theorem dX12_room_37 : decode cX12_room 37 = .ok (.ireturn, 1) := by decide +kernel
set_option maxRecDepth 20000 in
theorem ggX12_rule_X12_isIn : GoodIn wsX12_rule wsX12_isIn := goodIn_r _ [5] (by decide +kernel) (by decide +kernel)
set_option maxRecDepth 20000 in
theorem gX12_rule_X12_isIn : GoodIn wsX12_rule (va_wsS RX12 83 yX12_isIn wsX12_isIn) := goodIn_app (goodIn_of _ (by decide +kernel)) ggX12_rule_X12_isIn
set_option maxRecDepth 20000 in
theorem ggX12_rule_X12_keeps : GoodIn wsX12_rule wsX12_keeps := goodIn_r _ [9, 10, 11, 1, 12, 13, 4, 14, 22, 23, 24, 25, 26, 27, 28, 29, 30, 31, 32, 33, 34, 35, 36, 37, 38, 39, 40, 41, 42, 43, 44, 45, 46, 47, 48, 49, 50, 51, 52, 53, 54, 55, 56, 57, 58, 59, 60, 61, 62, 63, 64, 65, 66, 67, 68] (by decide +kernel) (by decide +kernel)
set_option maxRecDepth 20000 in
theorem gX12_rule_X12_keeps : GoodIn wsX12_rule (wsV RX12 248 RX12 yX12_keeps wsX12_keeps) := goodIn_app (goodIn_of _ (by decide +kernel)) ggX12_rule_X12_keeps
set_option maxRecDepth 20000 in
theorem ggX12_rule_X12_empties : GoodIn wsX12_rule wsX12_empties := goodIn_r _ [18, 1, 19, 20, 4, 21, 22, 23, 24, 25, 26, 27, 28, 29, 30, 31, 32, 33, 34, 35, 36, 37, 38, 39, 40, 41, 42, 43, 44, 45, 46, 47, 48, 49, 50, 51, 52, 53, 54, 55, 56, 57, 58, 59, 60, 61, 62, 63, 64, 65, 66, 67, 68] (by decide +kernel) (by decide +kernel)
set_option maxRecDepth 20000 in
theorem gX12_rule_X12_empties : GoodIn wsX12_rule (wsV RX12 272 RX12 yX12_empties wsX12_empties) := goodIn_app (goodIn_of _ (by decide +kernel)) ggX12_rule_X12_empties
theorem dX12_rule_0 : decode cX12_rule 0 = .ok (.iload_n 1, 1) := by decide +kernel
theorem dX12_rule_1 : decode cX12_rule 1 = .ok (.iconst 0, 1) := by decide +kernel
theorem dX12_rule_2 : decode cX12_rule 2 = .ok (.iconst 2, 1) := by decide +kernel
theorem dX12_rule_3 : decode cX12_rule 3 = .ok (.invokestatic 83, 3) := by decide +kernel
theorem dX12_rule_6 : decode cX12_rule 6 = .ok (.ifCond .eq 13, 3) := by decide +kernel
theorem dX12_rule_9 : decode cX12_rule 9 = .ok (.iload_n 1, 1) := by decide +kernel
theorem dX12_rule_10 : decode cX12_rule 10 = .ok (.aload_n 0, 1) := by decide +kernel
theorem dX12_rule_11 : decode cX12_rule 11 = .ok (.getfield 7, 3) := by decide +kernel
theorem dX12_rule_14 : decode cX12_rule 14 = .ok (.iconst 1, 1) := by decide +kernel
theorem dX12_rule_15 : decode cX12_rule 15 = .ok (.iaload, 1) := by decide +kernel
theorem dX12_rule_16 : decode cX12_rule 16 = .ok (.if_icmp .ne 5, 3) := by decide +kernel
theorem dX12_rule_19 : decode cX12_rule 19 = .ok (.iconst (-1), 1) := by decide +kernel
theorem dX12_rule_20 : decode cX12_rule 20 = .ok (.ireturn, 1) := by decide +kernel
theorem dX12_rule_21 : decode cX12_rule 21 = .ok (.aload_n 0, 1) := by decide +kernel
theorem dX12_rule_22 : decode cX12_rule 22 = .ok (.invokevirtual 248, 3) := by decide +kernel
theorem dX12_rule_25 : decode cX12_rule 25 = .ok (.aload_n 0, 1) := by decide +kernel
theorem dX12_rule_26 : decode cX12_rule 26 = .ok (.getfield 7, 3) := by decide +kernel
theorem dX12_rule_29 : decode cX12_rule 29 = .ok (.iconst 1, 1) := by decide +kernel
theorem dX12_rule_30 : decode cX12_rule 30 = .ok (.iload_n 1, 1) := by decide +kernel
theorem dX12_rule_31 : decode cX12_rule 31 = .ok (.iastore, 1) := by decide +kernel
theorem dX12_rule_32 : decode cX12_rule 32 = .ok (.aload_n 0, 1) := by decide +kernel
theorem dX12_rule_33 : decode cX12_rule 33 = .ok (.invokevirtual 272, 3) := by decide +kernel
theorem dX12_rule_36 : decode cX12_rule 36 = .ok (.ireturn, 1) := by decide +kernel
set_option maxRecDepth 20000 in
theorem ggX12_carry_X12_isItem : GoodIn wsX12_carry wsX12_isItem := goodIn_r _ [6, 1, 7, 8, 5, 9, 52, 53, 54, 55, 56, 57, 58, 59, 60, 61, 62, 63, 64, 65, 66, 67, 68, 69, 70, 71, 72, 73, 74, 75, 76, 77, 78, 79, 80, 81, 82, 83, 84, 85, 86, 87, 88, 89, 90, 91, 92, 93, 94, 95, 96, 97, 98] (by decide +kernel) (by decide +kernel)
set_option maxRecDepth 20000 in
theorem gX12_carry_X12_isItem : GoodIn wsX12_carry (wsV RX12 242 RX12 yX12_isItem wsX12_isItem) := goodIn_app (goodIn_of _ (by decide +kernel)) ggX12_carry_X12_isItem
set_option maxRecDepth 20000 in
theorem ggX12_carry_X12_isIn : GoodIn wsX12_carry wsX12_isIn := goodIn_r _ [9] (by decide +kernel) (by decide +kernel)
set_option maxRecDepth 20000 in
theorem gX12_carry_X12_isIn : GoodIn wsX12_carry (va_wsS RX12 83 yX12_isIn wsX12_isIn) := goodIn_app (goodIn_of _ (by decide +kernel)) ggX12_carry_X12_isIn
set_option maxRecDepth 20000 in
theorem ggX12_carry_X12_call : GoodIn wsX12_carry wsX12_call := goodIn_r _ [13, 14, 52, 53, 54, 55, 56, 57, 58, 59, 60, 61, 62, 63, 64, 65, 66, 67, 68, 69, 70, 71, 72, 73, 74, 75, 76, 77, 78, 79, 80, 81, 82, 83, 84, 85, 86, 87, 88, 89, 90, 91, 92, 93, 94, 95, 96, 97, 98] (by decide +kernel) (by decide +kernel)
set_option maxRecDepth 20000 in
theorem gX12_carry_X12_call : GoodIn wsX12_carry (wsV RX12 245 RX12 yX12_call wsX12_call) := goodIn_app (goodIn_of _ (by decide +kernel)) ggX12_carry_X12_call
set_option maxRecDepth 20000 in
theorem ggX12_carry_X12_bitOf : GoodIn wsX12_carry wsX12_bitOf := goodIn_r _ [17] (by decide +kernel) (by decide +kernel)
set_option maxRecDepth 20000 in
theorem gX12_carry_X12_bitOf : GoodIn wsX12_carry (va_wsS RX12 196 yX12_bitOf wsX12_bitOf) := goodIn_app (goodIn_of _ (by decide +kernel)) ggX12_carry_X12_bitOf
set_option maxRecDepth 20000 in
theorem ggX12_carry_X12_lies : GoodIn wsX12_carry wsX12_lies := goodIn_r _ [21, 1, 15, 16, 5, 17, 52, 53, 54, 55, 56, 57, 58, 59, 60, 61, 62, 63, 64, 65, 66, 67, 68, 69, 70, 71, 72, 73, 74, 75, 76, 77, 78, 79, 80, 81, 82, 83, 84, 85, 86, 87, 88, 89, 90, 91, 92, 93, 94, 95, 96, 97, 98] (by decide +kernel) (by decide +kernel)
set_option maxRecDepth 20000 in
theorem gX12_carry_X12_lies : GoodIn wsX12_carry (wsV RX12 206 RX12 yX12_lies wsX12_lies) := goodIn_app (goodIn_of _ (by decide +kernel)) ggX12_carry_X12_lies
set_option maxRecDepth 20000 in
theorem ggX12_carry_X12_gatesOpen : GoodIn wsX12_carry wsX12_gatesOpen := goodIn_r _ [25, 14, 26, 27, 52, 53, 54, 55, 56, 57, 58, 59, 60, 61, 62, 63, 64, 65, 66, 67, 68, 69, 70, 71, 72, 73, 74, 75, 76, 77, 78, 79, 80, 81, 82, 83, 84, 85, 86, 87, 88, 89, 90, 91, 92, 93, 94, 95, 96, 97, 98] (by decide +kernel) (by decide +kernel)
set_option maxRecDepth 20000 in
theorem gX12_carry_X12_gatesOpen : GoodIn wsX12_carry (wsV RX12 203 RX12 yX12_gatesOpen wsX12_gatesOpen) := goodIn_app (goodIn_of _ (by decide +kernel)) ggX12_carry_X12_gatesOpen
set_option maxRecDepth 20000 in
theorem ggX12_carry_X12_keeps : GoodIn wsX12_carry wsX12_keeps := goodIn_r _ [31, 32, 33, 1, 34, 35, 5, 36, 52, 53, 54, 55, 56, 57, 58, 59, 60, 61, 62, 63, 64, 65, 66, 67, 68, 69, 70, 71, 72, 73, 74, 75, 76, 77, 78, 79, 80, 81, 82, 83, 84, 85, 86, 87, 88, 89, 90, 91, 92, 93, 94, 95, 96, 97, 98] (by decide +kernel) (by decide +kernel)
set_option maxRecDepth 20000 in
theorem gX12_carry_X12_keeps : GoodIn wsX12_carry (wsV RX12 248 RX12 yX12_keeps wsX12_keeps) := goodIn_app (goodIn_of _ (by decide +kernel)) ggX12_carry_X12_keeps
set_option maxRecDepth 20000 in
theorem ggX12_carry_X12_up : GoodIn wsX12_carry wsX12_up := goodIn_r _ [40, 1, 41, 42, 43, 5, 44, 45, 46, 47, 22, 23, 24, 25, 14, 26, 27, 52, 53, 54, 55, 56, 57, 58, 59, 60, 61, 62, 63, 64, 65, 66, 67, 68, 69, 70, 71, 72, 73, 74, 75, 76, 77, 78, 79, 80, 81, 82, 83, 84, 85, 86, 87, 88, 89, 90, 91, 92, 93, 94, 95, 96, 97, 98] (by decide +kernel) (by decide +kernel)
set_option maxRecDepth 20000 in
theorem gX12_carry_X12_up : GoodIn wsX12_carry (wsV RX12 235 RX12 yX12_up wsX12_up) := goodIn_app (goodIn_of _ (by decide +kernel)) ggX12_carry_X12_up
set_option maxRecDepth 20000 in
theorem ggX12_carry_X12_down : GoodIn wsX12_carry wsX12_down := goodIn_r _ [51, 1, 41, 42, 43, 5, 44, 45, 46, 47, 22, 23, 24, 25, 14, 26, 27, 52, 53, 54, 55, 56, 57, 58, 59, 60, 61, 62, 63, 64, 65, 66, 67, 68, 69, 70, 71, 72, 73, 74, 75, 76, 77, 78, 79, 80, 81, 82, 83, 84, 85, 86, 87, 88, 89, 90, 91, 92, 93, 94, 95, 96, 97, 98] (by decide +kernel) (by decide +kernel)
set_option maxRecDepth 20000 in
theorem gX12_carry_X12_down : GoodIn wsX12_carry (wsV RX12 212 RX12 yX12_down wsX12_down) := goodIn_app (goodIn_of _ (by decide +kernel)) ggX12_carry_X12_down
theorem dX12_carry_0 : decode cX12_carry 0 = .ok (.aload_n 0, 1) := by decide +kernel
theorem dX12_carry_1 : decode cX12_carry 1 = .ok (.iload_n 1, 1) := by decide +kernel
theorem dX12_carry_2 : decode cX12_carry 2 = .ok (.invokevirtual 242, 3) := by decide +kernel
theorem dX12_carry_5 : decode cX12_carry 5 = .ok (.ifCond .eq 12, 3) := by decide +kernel
theorem dX12_carry_8 : decode cX12_carry 8 = .ok (.iload_n 2, 1) := by decide +kernel
theorem dX12_carry_9 : decode cX12_carry 9 = .ok (.iconst 0, 1) := by decide +kernel
theorem dX12_carry_10 : decode cX12_carry 10 = .ok (.iconst 1, 1) := by decide +kernel
theorem dX12_carry_11 : decode cX12_carry 11 = .ok (.invokestatic 83, 3) := by decide +kernel
theorem dX12_carry_14 : decode cX12_carry 14 = .ok (.ifCond .ne 6, 3) := by decide +kernel
theorem dX12_carry_17 : decode cX12_carry 17 = .ok (.bipush (-2), 2) := by decide +kernel
theorem dX12_carry_19 : decode cX12_carry 19 = .ok (.ireturn, 1) := by decide +kernel
theorem dX12_carry_20 : decode cX12_carry 20 = .ok (.aload_n 0, 1) := by decide +kernel
theorem dX12_carry_21 : decode cX12_carry 21 = .ok (.invokevirtual 245, 3) := by decide +kernel
theorem dX12_carry_24 : decode cX12_carry 24 = .ok (.aload_n 0, 1) := by decide +kernel
theorem dX12_carry_25 : decode cX12_carry 25 = .ok (.getfield 7, 3) := by decide +kernel
theorem dX12_carry_28 : decode cX12_carry 28 = .ok (.iconst 3, 1) := by decide +kernel
theorem dX12_carry_29 : decode cX12_carry 29 = .ok (.iaload, 1) := by decide +kernel
theorem dX12_carry_30 : decode cX12_carry 30 = .ok (.iload_n 1, 1) := by decide +kernel
theorem dX12_carry_31 : decode cX12_carry 31 = .ok (.invokestatic 196, 3) := by decide +kernel
theorem dX12_carry_34 : decode cX12_carry 34 = .ok (.iload_n 2, 1) := by decide +kernel
theorem dX12_carry_35 : decode cX12_carry 35 = .ok (.iconst 1, 1) := by decide +kernel
theorem dX12_carry_36 : decode cX12_carry 36 = .ok (.if_icmp .ne 7, 3) := by decide +kernel
theorem dX12_carry_39 : decode cX12_carry 39 = .ok (.iconst 1, 1) := by decide +kernel
theorem dX12_carry_40 : decode cX12_carry 40 = .ok (.goto 4, 3) := by decide +kernel
theorem dX12_carry_43 : decode cX12_carry 43 = .ok (.iconst 0, 1) := by decide +kernel
theorem dX12_carry_44 : decode cX12_carry 44 = .ok (.if_icmp .ne 7, 3) := by decide +kernel
theorem dX12_carry_47 : decode cX12_carry 47 = .ok (.iconst 1, 1) := by decide +kernel
theorem dX12_carry_48 : decode cX12_carry 48 = .ok (.goto 36, 3) := by decide +kernel
theorem dX12_carry_51 : decode cX12_carry 51 = .ok (.iload_n 2, 1) := by decide +kernel
theorem dX12_carry_52 : decode cX12_carry 52 = .ok (.iconst 1, 1) := by decide +kernel
theorem dX12_carry_53 : decode cX12_carry 53 = .ok (.if_icmp .ne 30, 3) := by decide +kernel
theorem dX12_carry_56 : decode cX12_carry 56 = .ok (.aload_n 0, 1) := by decide +kernel
theorem dX12_carry_57 : decode cX12_carry 57 = .ok (.getfield 7, 3) := by decide +kernel
theorem dX12_carry_60 : decode cX12_carry 60 = .ok (.bipush 8, 2) := by decide +kernel
theorem dX12_carry_62 : decode cX12_carry 62 = .ok (.iload_n 1, 1) := by decide +kernel
theorem dX12_carry_63 : decode cX12_carry 63 = .ok (.iadd, 1) := by decide +kernel
theorem dX12_carry_64 : decode cX12_carry 64 = .ok (.iaload, 1) := by decide +kernel
theorem dX12_carry_65 : decode cX12_carry 65 = .ok (.aload_n 0, 1) := by decide +kernel
theorem dX12_carry_66 : decode cX12_carry 66 = .ok (.getfield 7, 3) := by decide +kernel
theorem dX12_carry_69 : decode cX12_carry 69 = .ok (.iconst 0, 1) := by decide +kernel
theorem dX12_carry_70 : decode cX12_carry 70 = .ok (.iaload, 1) := by decide +kernel
theorem dX12_carry_71 : decode cX12_carry 71 = .ok (.aload_n 0, 1) := by decide +kernel
theorem dX12_carry_72 : decode cX12_carry 72 = .ok (.invokevirtual 206, 3) := by decide +kernel
theorem dX12_carry_75 : decode cX12_carry 75 = .ok (.isub, 1) := by decide +kernel
theorem dX12_carry_76 : decode cX12_carry 76 = .ok (.if_icmp .le 7, 3) := by decide +kernel
theorem dX12_carry_79 : decode cX12_carry 79 = .ok (.iconst 2, 1) := by decide +kernel
theorem dX12_carry_80 : decode cX12_carry 80 = .ok (.goto 4, 3) := by decide +kernel
theorem dX12_carry_83 : decode cX12_carry 83 = .ok (.iconst 0, 1) := by decide +kernel
theorem dX12_carry_84 : decode cX12_carry 84 = .ok (.istore_n 3, 1) := by decide +kernel
theorem dX12_carry_85 : decode cX12_carry 85 = .ok (.iload_n 3, 1) := by decide +kernel
theorem dX12_carry_86 : decode cX12_carry 86 = .ok (.ifCond .le 9, 3) := by decide +kernel
theorem dX12_carry_89 : decode cX12_carry 89 = .ok (.aload_n 0, 1) := by decide +kernel
theorem dX12_carry_90 : decode cX12_carry 90 = .ok (.invokevirtual 203, 3) := by decide +kernel
theorem dX12_carry_93 : decode cX12_carry 93 = .ok (.iload_n 3, 1) := by decide +kernel
theorem dX12_carry_94 : decode cX12_carry 94 = .ok (.ireturn, 1) := by decide +kernel
theorem dX12_carry_95 : decode cX12_carry 95 = .ok (.aload_n 0, 1) := by decide +kernel
theorem dX12_carry_96 : decode cX12_carry 96 = .ok (.invokevirtual 248, 3) := by decide +kernel
theorem dX12_carry_99 : decode cX12_carry 99 = .ok (.iload_n 2, 1) := by decide +kernel
theorem dX12_carry_100 : decode cX12_carry 100 = .ok (.iconst 1, 1) := by decide +kernel
theorem dX12_carry_101 : decode cX12_carry 101 = .ok (.if_icmp .ne 11, 3) := by decide +kernel
theorem dX12_carry_104 : decode cX12_carry 104 = .ok (.aload_n 0, 1) := by decide +kernel
theorem dX12_carry_105 : decode cX12_carry 105 = .ok (.iload_n 1, 1) := by decide +kernel
theorem dX12_carry_106 : decode cX12_carry 106 = .ok (.invokevirtual 235, 3) := by decide +kernel
theorem dX12_carry_109 : decode cX12_carry 109 = .ok (.goto 8, 3) := by decide +kernel
theorem dX12_carry_112 : decode cX12_carry 112 = .ok (.aload_n 0, 1) := by decide +kernel
theorem dX12_carry_113 : decode cX12_carry 113 = .ok (.iload_n 1, 1) := by decide +kernel
theorem dX12_carry_114 : decode cX12_carry 114 = .ok (.invokevirtual 212, 3) := by decide +kernel
theorem dX12_carry_117 : decode cX12_carry 117 = .ok (.iconst 0, 1) := by decide +kernel
theorem dX12_carry_118 : decode cX12_carry 118 = .ok (.ireturn, 1) := by decide +kernel
set_option maxRecDepth 20000 in
theorem ggX12_sizeOf_X12_bitOf : GoodIn wsX12_sizeOf wsX12_bitOf := goodIn_r _ [5] (by decide +kernel) (by decide +kernel)
set_option maxRecDepth 20000 in
theorem gX12_sizeOf_X12_bitOf : GoodIn wsX12_sizeOf (va_wsS RX12 196 yX12_bitOf wsX12_bitOf) := goodIn_app (goodIn_of _ (by decide +kernel)) ggX12_sizeOf_X12_bitOf
theorem dX12_sizeOf_0 : decode cX12_sizeOf 0 = .ok (.iconst 0, 1) := by decide +kernel
theorem dX12_sizeOf_1 : decode cX12_sizeOf 1 = .ok (.istore_n 2, 1) := by decide +kernel
theorem dX12_sizeOf_2 : decode cX12_sizeOf 2 = .ok (.iconst 0, 1) := by decide +kernel
theorem dX12_sizeOf_3 : decode cX12_sizeOf 3 = .ok (.istore_n 3, 1) := by decide +kernel
theorem dX12_sizeOf_4 : decode cX12_sizeOf 4 = .ok (.iload_n 3, 1) := by decide +kernel
theorem dX12_sizeOf_5 : decode cX12_sizeOf 5 = .ok (.aload_n 0, 1) := by decide +kernel

theorem dX12_spent_47 : decode cX12_spent 47 = .ok (.if_icmp .eq 6, 3) := by decide +kernel
theorem dX12_spent_50 : decode cX12_spent 50 = .ok (.goto 48, 3) := by decide +kernel
theorem dX12_spent_53 : decode cX12_spent 53 = .ok (.iload_n 3, 1) := by decide +kernel
theorem dX12_spent_54 : decode cX12_spent 54 = .ok (.iload_n 2, 1) := by decide +kernel
theorem dX12_spent_55 : decode cX12_spent 55 = .ok (.iconst 2, 1) := by decide +kernel
theorem dX12_spent_56 : decode cX12_spent 56 = .ok (.if_icmp .ne 17, 3) := by decide +kernel
theorem dX12_spent_59 : decode cX12_spent 59 = .ok (.aload_n 0, 1) := by decide +kernel
theorem dX12_spent_60 : decode cX12_spent 60 = .ok (.getfield 7, 3) := by decide +kernel
theorem dX12_spent_63 : decode cX12_spent 63 = .ok (.sipush 144, 3) := by decide +kernel
theorem dX12_spent_66 : decode cX12_spent 66 = .ok (.iload 4, 2) := by decide +kernel
theorem dX12_spent_68 : decode cX12_spent 68 = .ok (.iadd, 1) := by decide +kernel
theorem dX12_spent_69 : decode cX12_spent 69 = .ok (.iaload, 1) := by decide +kernel
theorem dX12_spent_70 : decode cX12_spent 70 = .ok (.goto 26, 3) := by decide +kernel
theorem dX12_spent_73 : decode cX12_spent 73 = .ok (.iload_n 2, 1) := by decide +kernel
theorem dX12_spent_74 : decode cX12_spent 74 = .ok (.ifCond .eq 17, 3) := by decide +kernel
theorem dX12_spent_77 : decode cX12_spent 77 = .ok (.aload_n 0, 1) := by decide +kernel
theorem dX12_spent_78 : decode cX12_spent 78 = .ok (.getfield 7, 3) := by decide +kernel
theorem dX12_spent_81 : decode cX12_spent 81 = .ok (.sipush 144, 3) := by decide +kernel
theorem dX12_spent_84 : decode cX12_spent 84 = .ok (.iload 4, 2) := by decide +kernel
theorem dX12_spent_86 : decode cX12_spent 86 = .ok (.iadd, 1) := by decide +kernel
theorem dX12_spent_87 : decode cX12_spent 87 = .ok (.iaload, 1) := by decide +kernel
theorem dX12_spent_88 : decode cX12_spent 88 = .ok (.ifCond .ne 7, 3) := by decide +kernel
theorem dX12_spent_91 : decode cX12_spent 91 = .ok (.iconst 1, 1) := by decide +kernel
theorem dX12_spent_92 : decode cX12_spent 92 = .ok (.goto 4, 3) := by decide +kernel
theorem dX12_spent_95 : decode cX12_spent 95 = .ok (.iconst 0, 1) := by decide +kernel
theorem dX12_spent_96 : decode cX12_spent 96 = .ok (.iadd, 1) := by decide +kernel
theorem dX12_spent_97 : decode cX12_spent 97 = .ok (.istore_n 3, 1) := by decide +kernel
theorem dX12_spent_98 : decode cX12_spent 98 = .ok (.iinc 4 1, 3) := by decide +kernel
theorem dX12_spent_101 : decode cX12_spent 101 = .ok (.goto (-77), 3) := by decide +kernel
theorem dX12_spent_104 : decode cX12_spent 104 = .ok (.iload_n 3, 1) := by decide +kernel
theorem dX12_spent_105 : decode cX12_spent 105 = .ok (.ireturn, 1) := by decide +kernel
set_option maxRecDepth 20000 in
theorem ggX12_picture_X12_bitOf : GoodIn wsX12_picture wsX12_bitOf := goodIn_r _ [7] (by decide +kernel) (by decide +kernel)
set_option maxRecDepth 20000 in
theorem gX12_picture_X12_bitOf : GoodIn wsX12_picture (va_wsS RX12 196 yX12_bitOf wsX12_bitOf) := goodIn_app (goodIn_of _ (by decide +kernel)) ggX12_picture_X12_bitOf
theorem dX12_picture_0 : decode cX12_picture 0 = .ok (.aload_n 0, 1) := by decide +kernel
theorem dX12_picture_1 : decode cX12_picture 1 = .ok (.iconst 0, 1) := by decide +kernel
theorem dX12_picture_2 : decode cX12_picture 2 = .ok (.putfield 338, 3) := by decide +kernel
theorem dX12_picture_5 : decode cX12_picture 5 = .ok (.iconst 0, 1) := by decide +kernel
theorem dX12_picture_6 : decode cX12_picture 6 = .ok (.istore_n 1, 1) := by decide +kernel
theorem dX12_picture_7 : decode cX12_picture 7 = .ok (.iload_n 1, 1) := by decide +kernel
theorem dX12_picture_8 : decode cX12_picture 8 = .ok (.aload_n 0, 1) := by decide +kernel
theorem dX12_picture_9 : decode cX12_picture 9 = .ok (.getfield 7, 3) := by decide +kernel
theorem dX12_picture_12 : decode cX12_picture 12 = .ok (.iconst 2, 1) := by decide +kernel
theorem dX12_picture_13 : decode cX12_picture 13 = .ok (.iaload, 1) := by decide +kernel
theorem dX12_picture_14 : decode cX12_picture 14 = .ok (.if_icmp .ge 75, 3) := by decide +kernel
theorem dX12_picture_17 : decode cX12_picture 17 = .ok (.iconst 0, 1) := by decide +kernel
theorem dX12_picture_18 : decode cX12_picture 18 = .ok (.istore_n 2, 1) := by decide +kernel
theorem dX12_picture_19 : decode cX12_picture 19 = .ok (.iload_n 2, 1) := by decide +kernel
theorem dX12_picture_20 : decode cX12_picture 20 = .ok (.aload_n 0, 1) := by decide +kernel
theorem dX12_picture_21 : decode cX12_picture 21 = .ok (.getfield 7, 3) := by decide +kernel
theorem dX12_picture_24 : decode cX12_picture 24 = .ok (.bipush 8, 2) := by decide +kernel
theorem dX12_picture_26 : decode cX12_picture 26 = .ok (.iload_n 1, 1) := by decide +kernel
theorem dX12_picture_27 : decode cX12_picture 27 = .ok (.iadd, 1) := by decide +kernel
theorem dX12_picture_28 : decode cX12_picture 28 = .ok (.iaload, 1) := by decide +kernel
theorem dX12_picture_29 : decode cX12_picture 29 = .ok (.if_icmp .ge 54, 3) := by decide +kernel
theorem dX12_picture_32 : decode cX12_picture 32 = .ok (.aload_n 0, 1) := by decide +kernel
theorem dX12_picture_33 : decode cX12_picture 33 = .ok (.getfield 7, 3) := by decide +kernel
theorem dX12_picture_36 : decode cX12_picture 36 = .ok (.iconst 3, 1) := by decide +kernel
theorem dX12_picture_37 : decode cX12_picture 37 = .ok (.iaload, 1) := by decide +kernel
theorem dX12_picture_38 : decode cX12_picture 38 = .ok (.iload_n 1, 1) := by decide +kernel
theorem dX12_picture_39 : decode cX12_picture 39 = .ok (.invokestatic 196, 3) := by decide +kernel
theorem dX12_picture_42 : decode cX12_picture 42 = .ok (.ifCond .eq 41, 3) := by decide +kernel
theorem dX12_picture_45 : decode cX12_picture 45 = .ok (.aload_n 0, 1) := by decide +kernel
theorem dX12_picture_46 : decode cX12_picture 46 = .ok (.getfield 63, 3) := by decide +kernel
theorem dX12_picture_49 : decode cX12_picture 49 = .ok (.aload_n 0, 1) := by decide +kernel
theorem dX12_picture_50 : decode cX12_picture 50 = .ok (.getfield 338, 3) := by decide +kernel
theorem dX12_picture_53 : decode cX12_picture 53 = .ok (.aload_n 0, 1) := by decide +kernel
theorem dX12_picture_54 : decode cX12_picture 54 = .ok (.getfield 7, 3) := by decide +kernel
theorem dX12_picture_57 : decode cX12_picture 57 = .ok (.bipush 56, 2) := by decide +kernel
theorem dX12_picture_59 : decode cX12_picture 59 = .ok (.bipush 6, 2) := by decide +kernel
theorem dX12_picture_61 : decode cX12_picture 61 = .ok (.iload_n 1, 1) := by decide +kernel
theorem dX12_picture_62 : decode cX12_picture 62 = .ok (.imul, 1) := by decide +kernel
theorem dX12_picture_63 : decode cX12_picture 63 = .ok (.iadd, 1) := by decide +kernel
theorem dX12_picture_64 : decode cX12_picture 64 = .ok (.iaload, 1) := by decide +kernel
theorem dX12_picture_65 : decode cX12_picture 65 = .ok (.i2b, 1) := by decide +kernel
theorem dX12_picture_66 : decode cX12_picture 66 = .ok (.bastore, 1) := by decide +kernel
theorem dX12_picture_67 : decode cX12_picture 67 = .ok (.aload_n 0, 1) := by decide +kernel
theorem dX12_picture_68 : decode cX12_picture 68 = .ok (.dup, 1) := by decide +kernel
theorem dX12_picture_69 : decode cX12_picture 69 = .ok (.getfield 338, 3) := by decide +kernel
theorem dX12_picture_72 : decode cX12_picture 72 = .ok (.iconst 1, 1) := by decide +kernel
theorem dX12_picture_73 : decode cX12_picture 73 = .ok (.iadd, 1) := by decide +kernel
theorem dX12_picture_74 : decode cX12_picture 74 = .ok (.putfield 338, 3) := by decide +kernel
theorem dX12_picture_77 : decode cX12_picture 77 = .ok (.iinc 2 1, 3) := by decide +kernel
theorem dX12_picture_80 : decode cX12_picture 80 = .ok (.goto (-61), 3) := by decide +kernel
theorem dX12_picture_83 : decode cX12_picture 83 = .ok (.iinc 1 1, 3) := by decide +kernel
theorem dX12_picture_86 : decode cX12_picture 86 = .ok (.goto (-79), 3) := by decide +kernel
theorem dX12_picture_89 : decode cX12_picture 89 = .ok (.aload_n 0, 1) := by decide +kernel
theorem dX12_picture_90 : decode cX12_picture 90 = .ok (.getfield 338, 3) := by decide +kernel
theorem dX12_picture_93 : decode cX12_picture 93 = .ok (.aload_n 0, 1) := by decide +kernel
theorem dX12_picture_94 : decode cX12_picture 94 = .ok (.getfield 7, 3) := by decide +kernel
theorem dX12_picture_97 : decode cX12_picture 97 = .ok (.iconst 0, 1) := by decide +kernel
theorem dX12_picture_98 : decode cX12_picture 98 = .ok (.iaload, 1) := by decide +kernel
theorem dX12_picture_99 : decode cX12_picture 99 = .ok (.if_icmp .ge 27, 3) := by decide +kernel
theorem dX12_picture_102 : decode cX12_picture 102 = .ok (.aload_n 0, 1) := by decide +kernel
theorem dX12_picture_103 : decode cX12_picture 103 = .ok (.getfield 63, 3) := by decide +kernel
theorem dX12_picture_106 : decode cX12_picture 106 = .ok (.aload_n 0, 1) := by decide +kernel
theorem dX12_picture_107 : decode cX12_picture 107 = .ok (.getfield 338, 3) := by decide +kernel
theorem dX12_picture_110 : decode cX12_picture 110 = .ok (.bipush 46, 2) := by decide +kernel
theorem dX12_picture_112 : decode cX12_picture 112 = .ok (.bastore, 1) := by decide +kernel
theorem dX12_picture_113 : decode cX12_picture 113 = .ok (.aload_n 0, 1) := by decide +kernel
theorem dX12_picture_114 : decode cX12_picture 114 = .ok (.dup, 1) := by decide +kernel
theorem dX12_picture_115 : decode cX12_picture 115 = .ok (.getfield 338, 3) := by decide +kernel
theorem dX12_picture_118 : decode cX12_picture 118 = .ok (.iconst 1, 1) := by decide +kernel
theorem dX12_picture_119 : decode cX12_picture 119 = .ok (.iadd, 1) := by decide +kernel
theorem dX12_picture_120 : decode cX12_picture 120 = .ok (.putfield 338, 3) := by decide +kernel
theorem dX12_picture_123 : decode cX12_picture 123 = .ok (.goto (-34), 3) := by decide +kernel
theorem dX12_picture_126 : decode cX12_picture 126 = .ok (.aload_n 0, 1) := by decide +kernel
theorem dX12_picture_127 : decode cX12_picture 127 = .ok (.getfield 338, 3) := by decide +kernel
theorem dX12_picture_130 : decode cX12_picture 130 = .ok (.ireturn, 1) := by decide +kernel
set_option maxRecDepth 20000 in
theorem ggX12_byteAt_X12_isIn : GoodIn wsX12_byteAt wsX12_isIn := goodIn_r _ [6] (by decide +kernel) (by decide +kernel)
set_option maxRecDepth 20000 in
theorem gX12_byteAt_X12_isIn : GoodIn wsX12_byteAt (va_wsS RX12 83 yX12_isIn wsX12_isIn) := goodIn_app (goodIn_of _ (by decide +kernel)) ggX12_byteAt_X12_isIn
theorem dX12_byteAt_0 : decode cX12_byteAt 0 = .ok (.iload_n 1, 1) := by decide +kernel
theorem dX12_byteAt_1 : decode cX12_byteAt 1 = .ok (.iconst 0, 1) := by decide +kernel
theorem dX12_byteAt_2 : decode cX12_byteAt 2 = .ok (.aload_n 0, 1) := by decide +kernel
theorem dX12_byteAt_3 : decode cX12_byteAt 3 = .ok (.getfield 338, 3) := by decide +kernel
theorem dX12_byteAt_6 : decode cX12_byteAt 6 = .ok (.iconst 1, 1) := by decide +kernel
theorem dX12_byteAt_7 : decode cX12_byteAt 7 = .ok (.isub, 1) := by decide +kernel
theorem dX12_byteAt_8 : decode cX12_byteAt 8 = .ok (.invokestatic 83, 3) := by decide +kernel
theorem dX12_byteAt_11 : decode cX12_byteAt 11 = .ok (.ifCond .eq 12, 3) := by decide +kernel
theorem dX12_byteAt_14 : decode cX12_byteAt 14 = .ok (.aload_n 0, 1) := by decide +kernel
theorem dX12_byteAt_15 : decode cX12_byteAt 15 = .ok (.getfield 63, 3) := by decide +kernel
theorem dX12_byteAt_18 : decode cX12_byteAt 18 = .ok (.iload_n 1, 1) := by decide +kernel
theorem dX12_byteAt_19 : decode cX12_byteAt 19 = .ok (.baload, 1) := by decide +kernel
theorem dX12_byteAt_20 : decode cX12_byteAt 20 = .ok (.goto 4, 3) := by decide +kernel
theorem dX12_byteAt_23 : decode cX12_byteAt 23 = .ok (.iconst (-1), 1) := by decide +kernel
theorem dX12_byteAt_24 : decode cX12_byteAt 24 = .ok (.ireturn, 1) := by decide +kernel
set_option maxRecDepth 20000 in
theorem ggX12_ratio_X12_best : GoodIn wsX12_ratio wsX12_best := goodIn_r _ [6, 1, 7, 8, 9, 5, 10, 11, 12, 13, 14, 15, 16, 17, 18, 19, 20, 21, 22, 23, 24, 25, 26, 27, 28, 29, 30, 31, 32, 33, 34, 35, 36, 37, 38, 39, 40, 41, 42, 43, 56, 57, 58, 59, 60, 61, 62, 63, 64, 65, 66, 67, 68, 69, 70, 71, 72, 73, 74, 75, 76, 77, 78, 79, 80, 81, 82, 83, 84, 85, 86, 87, 88, 89, 90, 91, 92, 93, 94, 95, 96, 97, 98, 99, 100, 101, 102] (by decide +kernel) (by decide +kernel)
set_option maxRecDepth 20000 in
theorem gX12_ratio_X12_best : GoodIn wsX12_ratio (wsV RX12 341 RX12 yX12_best wsX12_best) := goodIn_app (goodIn_of _ (by decide +kernel)) ggX12_ratio_X12_best
set_option maxRecDepth 20000 in
theorem ggX12_ratio_Jxf58ca_floatToIntBits_5c35a : GoodIn wsX12_ratio wsJxf58ca_floatToIntBits_5c35a := goodIn_r _ [47, 48, 49, 50, 51, 52, 53, 54, 46, 55] (by decide +kernel) (by decide +kernel)
set_option maxRecDepth 20000 in
theorem gX12_ratio_Jxf58ca_floatToIntBits_5c35a : GoodIn wsX12_ratio (va_wsS RX12 222 yJxf58ca_floatToIntBits_5c35a wsJxf58ca_floatToIntBits_5c35a) := goodIn_app (goodIn_of _ (by decide +kernel)) ggX12_ratio_Jxf58ca_floatToIntBits_5c35a
theorem dX12_ratio_0 : decode cX12_ratio 0 = .ok (.aload_n 0, 1) := by decide +kernel
theorem dX12_ratio_1 : decode cX12_ratio 1 = .ok (.invokevirtual 341, 3) := by decide +kernel
theorem dX12_ratio_4 : decode cX12_ratio 4 = .ok (.istore_n 1, 1) := by decide +kernel
theorem dX12_ratio_5 : decode cX12_ratio 5 = .ok (.iload_n 1, 1) := by decide +kernel
theorem dX12_ratio_6 : decode cX12_ratio 6 = .ok (.iconst 1, 1) := by decide +kernel
theorem dX12_ratio_7 : decode cX12_ratio 7 = .ok (.if_icmp .ge 5, 3) := by decide +kernel
theorem dX12_ratio_10 : decode cX12_ratio 10 = .ok (.iconst (-1), 1) := by decide +kernel
theorem dX12_ratio_11 : decode cX12_ratio 11 = .ok (.ireturn, 1) := by decide +kernel
theorem dX12_ratio_12 : decode cX12_ratio 12 = .ok (.iconst 0, 1) := by decide +kernel
theorem dX12_ratio_13 : decode cX12_ratio 13 = .ok (.istore_n 2, 1) := by decide +kernel
theorem dX12_ratio_14 : decode cX12_ratio 14 = .ok (.iconst 0, 1) := by decide +kernel
theorem dX12_ratio_15 : decode cX12_ratio 15 = .ok (.istore_n 3, 1) := by decide +kernel
theorem dX12_ratio_16 : decode cX12_ratio 16 = .ok (.iload_n 3, 1) := by decide +kernel
theorem dX12_ratio_17 : decode cX12_ratio 17 = .ok (.aload_n 0, 1) := by decide +kernel
theorem dX12_ratio_18 : decode cX12_ratio 18 = .ok (.getfield 7, 3) := by decide +kernel
theorem dX12_ratio_21 : decode cX12_ratio 21 = .ok (.bipush 7, 2) := by decide +kernel
theorem dX12_ratio_23 : decode cX12_ratio 23 = .ok (.iaload, 1) := by decide +kernel
theorem dX12_ratio_24 : decode cX12_ratio 24 = .ok (.if_icmp .ge 22, 3) := by decide +kernel
theorem dX12_ratio_27 : decode cX12_ratio 27 = .ok (.iload_n 2, 1) := by decide +kernel
theorem dX12_ratio_28 : decode cX12_ratio 28 = .ok (.aload_n 0, 1) := by decide +kernel
theorem dX12_ratio_29 : decode cX12_ratio 29 = .ok (.getfield 7, 3) := by decide +kernel
theorem dX12_ratio_32 : decode cX12_ratio 32 = .ok (.sipush 144, 3) := by decide +kernel
theorem dX12_ratio_35 : decode cX12_ratio 35 = .ok (.iload_n 3, 1) := by decide +kernel
theorem dX12_ratio_36 : decode cX12_ratio 36 = .ok (.iadd, 1) := by decide +kernel
theorem dX12_ratio_37 : decode cX12_ratio 37 = .ok (.iaload, 1) := by decide +kernel
theorem dX12_ratio_38 : decode cX12_ratio 38 = .ok (.iadd, 1) := by decide +kernel
theorem dX12_ratio_39 : decode cX12_ratio 39 = .ok (.istore_n 2, 1) := by decide +kernel
theorem dX12_ratio_40 : decode cX12_ratio 40 = .ok (.iinc 3 1, 3) := by decide +kernel
theorem dX12_ratio_43 : decode cX12_ratio 43 = .ok (.goto (-27), 3) := by decide +kernel
theorem dX12_ratio_46 : decode cX12_ratio 46 = .ok (.iload_n 2, 1) := by decide +kernel
theorem dX12_ratio_47 : decode cX12_ratio 47 = .ok (.i2f, 1) := by decide +kernel
theorem dX12_ratio_48 : decode cX12_ratio 48 = .ok (.iload_n 1, 1) := by decide +kernel
theorem dX12_ratio_49 : decode cX12_ratio 49 = .ok (.i2f, 1) := by decide +kernel
theorem dX12_ratio_50 : decode cX12_ratio 50 = .ok (.fdiv, 1) := by decide +kernel
theorem dX12_ratio_51 : decode cX12_ratio 51 = .ok (.invokestatic 222, 3) := by decide +kernel
theorem dX12_ratio_54 : decode cX12_ratio 54 = .ok (.ireturn, 1) := by decide +kernel
set_option maxRecDepth 20000 in
theorem ggX12_isRide_X12_sizeOf : GoodIn wsX12_isRide wsX12_sizeOf := goodIn_r _ [8, 2, 9, 10, 7, 11, 12, 13, 14, 15, 16, 17, 18, 19, 20, 21, 22, 23, 24, 25, 26, 27, 28, 29, 30, 31, 32, 33, 34, 35, 36, 37, 38, 39, 40, 41, 42, 43, 44, 45, 46, 47, 48, 49, 50, 51, 52, 53, 54, 55, 56, 57, 58] (by decide +kernel) (by decide +kernel)
set_option maxRecDepth 20000 in
theorem gX12_isRide_X12_sizeOf : GoodIn wsX12_isRide (wsV RX12 275 RX12 yX12_sizeOf wsX12_sizeOf) := goodIn_app (goodIn_of _ (by decide +kernel)) ggX12_isRide_X12_sizeOf
theorem dX12_isRide_0 : decode cX12_isRide 0 = .ok (.iload_n 2, 1) := by decide +kernel
theorem dX12_isRide_1 : decode cX12_isRide 1 = .ok (.ifCond .eq 23, 3) := by decide +kernel
theorem dX12_isRide_4 : decode cX12_isRide 4 = .ok (.iload_n 2, 1) := by decide +kernel
theorem dX12_isRide_5 : decode cX12_isRide 5 = .ok (.iload_n 1, 1) := by decide +kernel
theorem dX12_isRide_6 : decode cX12_isRide 6 = .ok (.iconst (-1), 1) := by decide +kernel
theorem dX12_isRide_7 : decode cX12_isRide 7 = .ok (.ixor, 1) := by decide +kernel
theorem dX12_isRide_8 : decode cX12_isRide 8 = .ok (.iand, 1) := by decide +kernel
theorem dX12_isRide_9 : decode cX12_isRide 9 = .ok (.ifCond .ne 15, 3) := by decide +kernel
theorem dX12_isRide_12 : decode cX12_isRide 12 = .ok (.aload_n 0, 1) := by decide +kernel
theorem dX12_isRide_13 : decode cX12_isRide 13 = .ok (.iload_n 2, 1) := by decide +kernel
theorem dX12_isRide_14 : decode cX12_isRide 14 = .ok (.invokevirtual 275, 3) := by decide +kernel
theorem dX12_isRide_17 : decode cX12_isRide 17 = .ok (.aload_n 0, 1) := by decide +kernel
theorem dX12_isRide_18 : decode cX12_isRide 18 = .ok (.getfield 344, 3) := by decide +kernel
theorem dX12_isRide_21 : decode cX12_isRide 21 = .ok (.if_icmp .le 5, 3) := by decide +kernel
theorem dX12_isRide_24 : decode cX12_isRide 24 = .ok (.iconst 0, 1) := by decide +kernel
theorem dX12_isRide_25 : decode cX12_isRide 25 = .ok (.ireturn, 1) := by decide +kernel
theorem dX12_isRide_26 : decode cX12_isRide 26 = .ok (.aload_n 0, 1) := by decide +kernel
theorem dX12_isRide_27 : decode cX12_isRide 27 = .ok (.getfield 7, 3) := by decide +kernel
theorem dX12_isRide_30 : decode cX12_isRide 30 = .ok (.iconst 3, 1) := by decide +kernel
theorem dX12_isRide_31 : decode cX12_isRide 31 = .ok (.iaload, 1) := by decide +kernel
theorem dX12_isRide_32 : decode cX12_isRide 32 = .ok (.aload_n 0, 1) := by decide +kernel
theorem dX12_isRide_33 : decode cX12_isRide 33 = .ok (.getfield 347, 3) := by decide +kernel
theorem dX12_isRide_36 : decode cX12_isRide 36 = .ok (.iload_n 1, 1) := by decide +kernel
theorem dX12_isRide_37 : decode cX12_isRide 37 = .ok (.iconst (-1), 1) := by decide +kernel
theorem dX12_isRide_38 : decode cX12_isRide 38 = .ok (.ixor, 1) := by decide +kernel
theorem dX12_isRide_39 : decode cX12_isRide 39 = .ok (.iand, 1) := by decide +kernel
theorem dX12_isRide_40 : decode cX12_isRide 40 = .ok (.ixor, 1) := by decide +kernel
theorem dX12_isRide_41 : decode cX12_isRide 41 = .ok (.iload_n 2, 1) := by decide +kernel
theorem dX12_isRide_42 : decode cX12_isRide 42 = .ok (.ixor, 1) := by decide +kernel
theorem dX12_isRide_43 : decode cX12_isRide 43 = .ok (.istore_n 3, 1) := by decide +kernel
theorem dX12_isRide_44 : decode cX12_isRide 44 = .ok (.aload_n 0, 1) := by decide +kernel
theorem dX12_isRide_45 : decode cX12_isRide 45 = .ok (.iload_n 3, 1) := by decide +kernel
theorem dX12_isRide_46 : decode cX12_isRide 46 = .ok (.invokevirtual 275, 3) := by decide +kernel
theorem dX12_isRide_49 : decode cX12_isRide 49 = .ok (.aload_n 0, 1) := by decide +kernel
theorem dX12_isRide_50 : decode cX12_isRide 50 = .ok (.getfield 7, 3) := by decide +kernel
theorem dX12_isRide_53 : decode cX12_isRide 53 = .ok (.iconst 0, 1) := by decide +kernel
theorem dX12_isRide_54 : decode cX12_isRide 54 = .ok (.iaload, 1) := by decide +kernel
theorem dX12_isRide_55 : decode cX12_isRide 55 = .ok (.if_icmp .gt 7, 3) := by decide +kernel
theorem dX12_isRide_58 : decode cX12_isRide 58 = .ok (.iconst 1, 1) := by decide +kernel
theorem dX12_isRide_59 : decode cX12_isRide 59 = .ok (.goto 4, 3) := by decide +kernel
theorem dX12_isRide_62 : decode cX12_isRide 62 = .ok (.iconst 0, 1) := by decide +kernel
theorem dX12_isRide_63 : decode cX12_isRide 63 = .ok (.ireturn, 1) := by decide +kernel
set_option maxRecDepth 20000 in
theorem ggX12_laysFewest_X12_isRide : GoodIn wsX12_laysFewest wsX12_isRide := goodIn_r _ [9, 10, 1, 4, 11, 12, 13, 8, 14, 15, 16, 17, 18, 19, 20, 21, 22, 23, 24, 25, 26, 27, 28, 29, 30, 31, 32, 33, 34, 35, 36, 37, 38, 39, 40, 41, 42, 43, 44, 45, 46, 47, 48, 49, 50, 51, 52, 53, 54, 55, 56, 57, 58, 59, 60, 61, 62, 63, 64] (by decide +kernel) (by decide +kernel)
set_option maxRecDepth 20000 in
theorem gX12_laysFewest_X12_isRide : GoodIn wsX12_laysFewest (wsV RX12 350 RX12 yX12_isRide wsX12_isRide) := goodIn_app (goodIn_of _ (by decide +kernel)) ggX12_laysFewest_X12_isRide
theorem dX12_laysFewest_0 : decode cX12_laysFewest 0 = .ok (.iconst 0, 1) := by decide +kernel
theorem dX12_laysFewest_1 : decode cX12_laysFewest 1 = .ok (.istore_n 1, 1) := by decide +kernel
theorem dX12_laysFewest_2 : decode cX12_laysFewest 2 = .ok (.iload_n 1, 1) := by decide +kernel
theorem dX12_laysFewest_3 : decode cX12_laysFewest 3 = .ok (.iconst 1, 1) := by decide +kernel
theorem dX12_laysFewest_4 : decode cX12_laysFewest 4 = .ok (.aload_n 0, 1) := by decide +kernel
theorem dX12_laysFewest_5 : decode cX12_laysFewest 5 = .ok (.getfield 7, 3) := by decide +kernel
theorem dX12_laysFewest_8 : decode cX12_laysFewest 8 = .ok (.iconst 2, 1) := by decide +kernel
theorem dX12_laysFewest_9 : decode cX12_laysFewest 9 = .ok (.iaload, 1) := by decide +kernel
theorem dX12_laysFewest_10 : decode cX12_laysFewest 10 = .ok (.ishl, 1) := by decide +kernel
theorem dX12_laysFewest_11 : decode cX12_laysFewest 11 = .ok (.if_icmp .ge 101, 3) := by decide +kernel
theorem dX12_laysFewest_14 : decode cX12_laysFewest 14 = .ok (.aload_n 0, 1) := by decide +kernel
theorem dX12_laysFewest_15 : decode cX12_laysFewest 15 = .ok (.getfield 66, 3) := by decide +kernel
theorem dX12_laysFewest_18 : decode cX12_laysFewest 18 = .ok (.iload_n 1, 1) := by decide +kernel
theorem dX12_laysFewest_19 : decode cX12_laysFewest 19 = .ok (.iload_n 1, 1) := by decide +kernel
theorem dX12_laysFewest_20 : decode cX12_laysFewest 20 = .ok (.ifCond .ne 7, 3) := by decide +kernel
theorem dX12_laysFewest_23 : decode cX12_laysFewest 23 = .ok (.iconst 0, 1) := by decide +kernel
theorem dX12_laysFewest_24 : decode cX12_laysFewest 24 = .ok (.goto 6, 3) := by decide +kernel
theorem dX12_laysFewest_27 : decode cX12_laysFewest 27 = .ok (.ldc_w 284, 3) := by decide +kernel
theorem dX12_laysFewest_30 : decode cX12_laysFewest 30 = .ok (.iastore, 1) := by decide +kernel
theorem dX12_laysFewest_31 : decode cX12_laysFewest 31 = .ok (.iload_n 1, 1) := by decide +kernel
theorem dX12_laysFewest_32 : decode cX12_laysFewest 32 = .ok (.aload_n 0, 1) := by decide +kernel
theorem dX12_laysFewest_33 : decode cX12_laysFewest 33 = .ok (.getfield 347, 3) := by decide +kernel
theorem dX12_laysFewest_36 : decode cX12_laysFewest 36 = .ok (.iconst (-1), 1) := by decide +kernel
theorem dX12_laysFewest_37 : decode cX12_laysFewest 37 = .ok (.ixor, 1) := by decide +kernel
theorem dX12_laysFewest_38 : decode cX12_laysFewest 38 = .ok (.iand, 1) := by decide +kernel
theorem dX12_laysFewest_39 : decode cX12_laysFewest 39 = .ok (.ifCond .eq 6, 3) := by decide +kernel
theorem dX12_laysFewest_42 : decode cX12_laysFewest 42 = .ok (.goto 64, 3) := by decide +kernel
theorem dX12_laysFewest_45 : decode cX12_laysFewest 45 = .ok (.iconst 1, 1) := by decide +kernel
theorem dX12_laysFewest_46 : decode cX12_laysFewest 46 = .ok (.istore_n 2, 1) := by decide +kernel
theorem dX12_laysFewest_47 : decode cX12_laysFewest 47 = .ok (.iload_n 2, 1) := by decide +kernel
theorem dX12_laysFewest_48 : decode cX12_laysFewest 48 = .ok (.iload_n 1, 1) := by decide +kernel
theorem dX12_laysFewest_49 : decode cX12_laysFewest 49 = .ok (.if_icmp .gt 57, 3) := by decide +kernel
theorem dX12_laysFewest_52 : decode cX12_laysFewest 52 = .ok (.aload_n 0, 1) := by decide +kernel
theorem dX12_laysFewest_53 : decode cX12_laysFewest 53 = .ok (.iload_n 1, 1) := by decide +kernel
theorem dX12_laysFewest_54 : decode cX12_laysFewest 54 = .ok (.iload_n 2, 1) := by decide +kernel
theorem dX12_laysFewest_55 : decode cX12_laysFewest 55 = .ok (.invokevirtual 350, 3) := by decide +kernel
theorem dX12_laysFewest_58 : decode cX12_laysFewest 58 = .ok (.ifCond .eq 42, 3) := by decide +kernel
theorem dX12_laysFewest_61 : decode cX12_laysFewest 61 = .ok (.aload_n 0, 1) := by decide +kernel
theorem dX12_laysFewest_62 : decode cX12_laysFewest 62 = .ok (.getfield 66, 3) := by decide +kernel
theorem dX12_laysFewest_65 : decode cX12_laysFewest 65 = .ok (.iload_n 1, 1) := by decide +kernel
theorem dX12_laysFewest_66 : decode cX12_laysFewest 66 = .ok (.iload_n 2, 1) := by decide +kernel
theorem dX12_laysFewest_67 : decode cX12_laysFewest 67 = .ok (.iconst (-1), 1) := by decide +kernel
theorem dX12_laysFewest_68 : decode cX12_laysFewest 68 = .ok (.ixor, 1) := by decide +kernel
theorem dX12_laysFewest_69 : decode cX12_laysFewest 69 = .ok (.iand, 1) := by decide +kernel
theorem dX12_laysFewest_70 : decode cX12_laysFewest 70 = .ok (.iaload, 1) := by decide +kernel
theorem dX12_laysFewest_71 : decode cX12_laysFewest 71 = .ok (.iconst 1, 1) := by decide +kernel
theorem dX12_laysFewest_72 : decode cX12_laysFewest 72 = .ok (.iadd, 1) := by decide +kernel
theorem dX12_laysFewest_73 : decode cX12_laysFewest 73 = .ok (.aload_n 0, 1) := by decide +kernel
theorem dX12_laysFewest_74 : decode cX12_laysFewest 74 = .ok (.getfield 66, 3) := by decide +kernel
theorem dX12_laysFewest_77 : decode cX12_laysFewest 77 = .ok (.iload_n 1, 1) := by decide +kernel
theorem dX12_laysFewest_78 : decode cX12_laysFewest 78 = .ok (.iaload, 1) := by decide +kernel
theorem dX12_laysFewest_79 : decode cX12_laysFewest 79 = .ok (.if_icmp .ge 21, 3) := by decide +kernel
theorem dX12_laysFewest_82 : decode cX12_laysFewest 82 = .ok (.aload_n 0, 1) := by decide +kernel
theorem dX12_laysFewest_83 : decode cX12_laysFewest 83 = .ok (.getfield 66, 3) := by decide +kernel
theorem dX12_laysFewest_86 : decode cX12_laysFewest 86 = .ok (.iload_n 1, 1) := by decide +kernel
theorem dX12_laysFewest_87 : decode cX12_laysFewest 87 = .ok (.aload_n 0, 1) := by decide +kernel
theorem dX12_laysFewest_88 : decode cX12_laysFewest 88 = .ok (.getfield 66, 3) := by decide +kernel
theorem dX12_laysFewest_91 : decode cX12_laysFewest 91 = .ok (.iload_n 1, 1) := by decide +kernel
theorem dX12_laysFewest_92 : decode cX12_laysFewest 92 = .ok (.iload_n 2, 1) := by decide +kernel
theorem dX12_laysFewest_93 : decode cX12_laysFewest 93 = .ok (.iconst (-1), 1) := by decide +kernel
theorem dX12_laysFewest_94 : decode cX12_laysFewest 94 = .ok (.ixor, 1) := by decide +kernel
theorem dX12_laysFewest_95 : decode cX12_laysFewest 95 = .ok (.iand, 1) := by decide +kernel
theorem dX12_laysFewest_96 : decode cX12_laysFewest 96 = .ok (.iaload, 1) := by decide +kernel
theorem dX12_laysFewest_97 : decode cX12_laysFewest 97 = .ok (.iconst 1, 1) := by decide +kernel
theorem dX12_laysFewest_98 : decode cX12_laysFewest 98 = .ok (.iadd, 1) := by decide +kernel
theorem dX12_laysFewest_99 : decode cX12_laysFewest 99 = .ok (.iastore, 1) := by decide +kernel
theorem dX12_laysFewest_100 : decode cX12_laysFewest 100 = .ok (.iinc 2 1, 3) := by decide +kernel
theorem dX12_laysFewest_103 : decode cX12_laysFewest 103 = .ok (.goto (-56), 3) := by decide +kernel
theorem dX12_laysFewest_106 : decode cX12_laysFewest 106 = .ok (.iinc 1 1, 3) := by decide +kernel
theorem dX12_laysFewest_109 : decode cX12_laysFewest 109 = .ok (.goto (-107), 3) := by decide +kernel
theorem dX12_laysFewest_112 : decode cX12_laysFewest 112 = .ok (.return_, 1) := by decide +kernel
set_option maxRecDepth 20000 in
theorem ggX12_canShift_X12_isIn : GoodIn wsX12_canShift wsX12_isIn := goodIn_r _ [5] (by decide +kernel) (by decide +kernel)
set_option maxRecDepth 20000 in
theorem gX12_canShift_X12_isIn : GoodIn wsX12_canShift (va_wsS RX12 83 yX12_isIn wsX12_isIn) := goodIn_app (goodIn_of _ (by decide +kernel)) ggX12_canShift_X12_isIn
set_option maxRecDepth 20000 in
theorem ggX12_canShift_X12_sizeOf : GoodIn wsX12_canShift wsX12_sizeOf := goodIn_r _ [9, 1, 10, 11, 4, 12, 13, 14, 15, 16, 17, 18, 19, 20, 21, 22, 23, 24, 25, 26, 27, 28, 29, 30, 31, 32, 33, 34, 35, 36, 37, 38, 39, 40, 41, 42, 43, 44, 45, 46, 47, 48, 49, 50, 51, 52, 53, 54, 55, 56, 57, 58, 59] (by decide +kernel) (by decide +kernel)
set_option maxRecDepth 20000 in
theorem gX12_canShift_X12_sizeOf : GoodIn wsX12_canShift (wsV RX12 275 RX12 yX12_sizeOf wsX12_sizeOf) := goodIn_app (goodIn_of _ (by decide +kernel)) ggX12_canShift_X12_sizeOf
set_option maxRecDepth 20000 in
theorem ggX12_canShift_X12_bitOf : GoodIn wsX12_canShift wsX12_bitOf := goodIn_r _ [12] (by decide +kernel) (by decide +kernel)
set_option maxRecDepth 20000 in
theorem gX12_canShift_X12_bitOf : GoodIn wsX12_canShift (va_wsS RX12 196 yX12_bitOf wsX12_bitOf) := goodIn_app (goodIn_of _ (by decide +kernel)) ggX12_canShift_X12_bitOf
theorem dX12_canShift_0 : decode cX12_canShift 0 = .ok (.iload_n 1, 1) := by decide +kernel
theorem dX12_canShift_1 : decode cX12_canShift 1 = .ok (.ifCond .lt 39, 3) := by decide +kernel
theorem dX12_canShift_4 : decode cX12_canShift 4 = .ok (.iload_n 1, 1) := by decide +kernel
theorem dX12_canShift_5 : decode cX12_canShift 5 = .ok (.iconst 1, 1) := by decide +kernel
theorem dX12_canShift_6 : decode cX12_canShift 6 = .ok (.aload_n 0, 1) := by decide +kernel
theorem dX12_canShift_7 : decode cX12_canShift 7 = .ok (.getfield 7, 3) := by decide +kernel
theorem dX12_canShift_10 : decode cX12_canShift 10 = .ok (.iconst 2, 1) := by decide +kernel
theorem dX12_canShift_11 : decode cX12_canShift 11 = .ok (.iaload, 1) := by decide +kernel
theorem dX12_canShift_12 : decode cX12_canShift 12 = .ok (.ishl, 1) := by decide +kernel
theorem dX12_canShift_13 : decode cX12_canShift 13 = .ok (.if_icmp .ge 27, 3) := by decide +kernel
theorem dX12_canShift_16 : decode cX12_canShift 16 = .ok (.iload_n 2, 1) := by decide +kernel
theorem dX12_canShift_17 : decode cX12_canShift 17 = .ok (.iconst 1, 1) := by decide +kernel
theorem dX12_canShift_18 : decode cX12_canShift 18 = .ok (.bipush 40, 2) := by decide +kernel
theorem dX12_canShift_20 : decode cX12_canShift 20 = .ok (.invokestatic 83, 3) := by decide +kernel
theorem dX12_canShift_23 : decode cX12_canShift 23 = .ok (.ifCond .eq 17, 3) := by decide +kernel
theorem dX12_canShift_26 : decode cX12_canShift 26 = .ok (.aload_n 0, 1) := by decide +kernel
theorem dX12_canShift_27 : decode cX12_canShift 27 = .ok (.iload_n 1, 1) := by decide +kernel
theorem dX12_canShift_28 : decode cX12_canShift 28 = .ok (.invokevirtual 275, 3) := by decide +kernel
theorem dX12_canShift_31 : decode cX12_canShift 31 = .ok (.aload_n 0, 1) := by decide +kernel
theorem dX12_canShift_32 : decode cX12_canShift 32 = .ok (.getfield 7, 3) := by decide +kernel
theorem dX12_canShift_35 : decode cX12_canShift 35 = .ok (.iconst 0, 1) := by decide +kernel
theorem dX12_canShift_36 : decode cX12_canShift 36 = .ok (.iaload, 1) := by decide +kernel
theorem dX12_canShift_37 : decode cX12_canShift 37 = .ok (.if_icmp .le 5, 3) := by decide +kernel
theorem dX12_canShift_40 : decode cX12_canShift 40 = .ok (.iconst 0, 1) := by decide +kernel
theorem dX12_canShift_41 : decode cX12_canShift 41 = .ok (.ireturn, 1) := by decide +kernel
theorem dX12_canShift_42 : decode cX12_canShift 42 = .ok (.iconst 0, 1) := by decide +kernel
theorem dX12_canShift_43 : decode cX12_canShift 43 = .ok (.istore_n 3, 1) := by decide +kernel
theorem dX12_canShift_44 : decode cX12_canShift 44 = .ok (.iload_n 3, 1) := by decide +kernel
theorem dX12_canShift_45 : decode cX12_canShift 45 = .ok (.aload_n 0, 1) := by decide +kernel
theorem dX12_canShift_46 : decode cX12_canShift 46 = .ok (.getfield 7, 3) := by decide +kernel
theorem dX12_canShift_49 : decode cX12_canShift 49 = .ok (.iconst 2, 1) := by decide +kernel
theorem dX12_canShift_50 : decode cX12_canShift 50 = .ok (.iaload, 1) := by decide +kernel
theorem dX12_canShift_51 : decode cX12_canShift 51 = .ok (.if_icmp .ge 39, 3) := by decide +kernel
theorem dX12_canShift_54 : decode cX12_canShift 54 = .ok (.iload_n 1, 1) := by decide +kernel
theorem dX12_canShift_55 : decode cX12_canShift 55 = .ok (.aload_n 0, 1) := by decide +kernel
theorem dX12_canShift_56 : decode cX12_canShift 56 = .ok (.getfield 7, 3) := by decide +kernel
theorem dX12_canShift_59 : decode cX12_canShift 59 = .ok (.iconst 3, 1) := by decide +kernel
theorem dX12_canShift_60 : decode cX12_canShift 60 = .ok (.iaload, 1) := by decide +kernel
theorem dX12_canShift_61 : decode cX12_canShift 61 = .ok (.ixor, 1) := by decide +kernel
theorem dX12_canShift_62 : decode cX12_canShift 62 = .ok (.iload_n 3, 1) := by decide +kernel
theorem dX12_canShift_63 : decode cX12_canShift 63 = .ok (.invokestatic 196, 3) := by decide +kernel
theorem dX12_canShift_66 : decode cX12_canShift 66 = .ok (.ifCond .eq 18, 3) := by decide +kernel
theorem dX12_canShift_69 : decode cX12_canShift 69 = .ok (.aload_n 0, 1) := by decide +kernel
theorem dX12_canShift_70 : decode cX12_canShift 70 = .ok (.getfield 7, 3) := by decide +kernel
theorem dX12_canShift_73 : decode cX12_canShift 73 = .ok (.bipush 8, 2) := by decide +kernel
theorem dX12_canShift_75 : decode cX12_canShift 75 = .ok (.iload_n 3, 1) := by decide +kernel
theorem dX12_canShift_76 : decode cX12_canShift 76 = .ok (.iadd, 1) := by decide +kernel
theorem dX12_canShift_77 : decode cX12_canShift 77 = .ok (.iaload, 1) := by decide +kernel
theorem dX12_canShift_78 : decode cX12_canShift 78 = .ok (.iload_n 2, 1) := by decide +kernel
theorem dX12_canShift_79 : decode cX12_canShift 79 = .ok (.if_icmp .le 5, 3) := by decide +kernel
theorem dX12_canShift_82 : decode cX12_canShift 82 = .ok (.iconst 0, 1) := by decide +kernel
theorem dX12_canShift_83 : decode cX12_canShift 83 = .ok (.ireturn, 1) := by decide +kernel
theorem dX12_canShift_84 : decode cX12_canShift 84 = .ok (.iinc 3 1, 3) := by decide +kernel
theorem dX12_canShift_87 : decode cX12_canShift 87 = .ok (.goto (-43), 3) := by decide +kernel
theorem dX12_canShift_90 : decode cX12_canShift 90 = .ok (.iconst 1, 1) := by decide +kernel
theorem dX12_canShift_91 : decode cX12_canShift 91 = .ok (.ireturn, 1) := by decide +kernel
set_option maxRecDepth 20000 in
theorem ggX12_laysRides_X12_laysFewest : GoodIn wsX12_laysRides wsX12_laysFewest := goodIn_r _ [9, 1, 4, 10, 2, 11, 12, 13, 8, 14, 3, 15, 16, 17, 18, 19, 20, 21, 22, 23, 24, 25, 26, 27, 28, 29, 30, 31, 32, 33, 34, 35, 36, 37, 38, 39, 40, 41, 42, 43, 44, 45, 46, 47, 48, 49, 50, 51, 52, 53, 54, 55, 56, 57, 58, 59, 60, 61, 62, 63, 64, 65, 66, 67, 68] (by decide +kernel) (by decide +kernel)
set_option maxRecDepth 20000 in
theorem gX12_laysRides_X12_laysFewest : GoodIn wsX12_laysRides (wsV RX12 353 RX12 yX12_laysFewest wsX12_laysFewest) := goodIn_app (goodIn_of _ (by decide +kernel)) ggX12_laysRides_X12_laysFewest
set_option maxRecDepth 20000 in
theorem ggX12_laysRides_X12_isRide : GoodIn wsX12_laysRides wsX12_isRide := goodIn_r _ [14, 3, 1, 2, 15, 16, 17, 8, 18, 19, 20, 21, 22, 23, 24, 25, 26, 27, 28, 29, 30, 31, 32, 33, 34, 35, 36, 37, 38, 39, 40, 41, 42, 43, 44, 45, 46, 47, 48, 49, 50, 51, 52, 53, 54, 55, 56, 57, 58, 59, 60, 61, 62, 63, 64, 65, 66, 67, 68] (by decide +kernel) (by decide +kernel)
set_option maxRecDepth 20000 in
theorem gX12_laysRides_X12_isRide : GoodIn wsX12_laysRides (wsV RX12 350 RX12 yX12_isRide wsX12_isRide) := goodIn_app (goodIn_of _ (by decide +kernel)) ggX12_laysRides_X12_isRide
theorem dX12_laysRides_0 : decode cX12_laysRides 0 = .ok (.aload_n 0, 1) := by decide +kernel
theorem dX12_laysRides_1 : decode cX12_laysRides 1 = .ok (.iload_n 1, 1) := by decide +kernel
theorem dX12_laysRides_2 : decode cX12_laysRides 2 = .ok (.aload_n 0, 1) := by decide +kernel
theorem dX12_laysRides_3 : decode cX12_laysRides 3 = .ok (.getfield 7, 3) := by decide +kernel
theorem dX12_laysRides_6 : decode cX12_laysRides 6 = .ok (.iconst 3, 1) := by decide +kernel
theorem dX12_laysRides_7 : decode cX12_laysRides 7 = .ok (.iaload, 1) := by decide +kernel
theorem dX12_laysRides_8 : decode cX12_laysRides 8 = .ok (.ixor, 1) := by decide +kernel
theorem dX12_laysRides_9 : decode cX12_laysRides 9 = .ok (.putfield 347, 3) := by decide +kernel
theorem dX12_laysRides_12 : decode cX12_laysRides 12 = .ok (.aload_n 0, 1) := by decide +kernel
theorem dX12_laysRides_13 : decode cX12_laysRides 13 = .ok (.iload_n 2, 1) := by decide +kernel
theorem dX12_laysRides_14 : decode cX12_laysRides 14 = .ok (.putfield 344, 3) := by decide +kernel
theorem dX12_laysRides_17 : decode cX12_laysRides 17 = .ok (.aload_n 0, 1) := by decide +kernel
theorem dX12_laysRides_18 : decode cX12_laysRides 18 = .ok (.invokevirtual 353, 3) := by decide +kernel
theorem dX12_laysRides_21 : decode cX12_laysRides 21 = .ok (.aload_n 0, 1) := by decide +kernel
theorem dX12_laysRides_22 : decode cX12_laysRides 22 = .ok (.getfield 347, 3) := by decide +kernel
theorem dX12_laysRides_25 : decode cX12_laysRides 25 = .ok (.istore 4, 2) := by decide +kernel
theorem dX12_laysRides_27 : decode cX12_laysRides 27 = .ok (.iconst 0, 1) := by decide +kernel
theorem dX12_laysRides_28 : decode cX12_laysRides 28 = .ok (.istore 5, 2) := by decide +kernel
theorem dX12_laysRides_30 : decode cX12_laysRides 30 = .ok (.iload 4, 2) := by decide +kernel
theorem dX12_laysRides_32 : decode cX12_laysRides 32 = .ok (.ifCond .eq 68, 3) := by decide +kernel
theorem dX12_laysRides_35 : decode cX12_laysRides 35 = .ok (.iconst 1, 1) := by decide +kernel
theorem dX12_laysRides_36 : decode cX12_laysRides 36 = .ok (.istore 6, 2) := by decide +kernel
theorem dX12_laysRides_38 : decode cX12_laysRides 38 = .ok (.aload_n 0, 1) := by decide +kernel
theorem dX12_laysRides_39 : decode cX12_laysRides 39 = .ok (.iload 4, 2) := by decide +kernel
theorem dX12_laysRides_41 : decode cX12_laysRides 41 = .ok (.iload 6, 2) := by decide +kernel
theorem dX12_laysRides_43 : decode cX12_laysRides 43 = .ok (.invokevirtual 350, 3) := by decide +kernel
theorem dX12_laysRides_46 : decode cX12_laysRides 46 = .ok (.ifCond .eq 27, 3) := by decide +kernel
theorem dX12_laysRides_49 : decode cX12_laysRides 49 = .ok (.aload_n 0, 1) := by decide +kernel
theorem dX12_laysRides_50 : decode cX12_laysRides 50 = .ok (.getfield 66, 3) := by decide +kernel
theorem dX12_laysRides_53 : decode cX12_laysRides 53 = .ok (.iload 4, 2) := by decide +kernel
theorem dX12_laysRides_55 : decode cX12_laysRides 55 = .ok (.iload 6, 2) := by decide +kernel
theorem dX12_laysRides_57 : decode cX12_laysRides 57 = .ok (.iconst (-1), 1) := by decide +kernel
theorem dX12_laysRides_58 : decode cX12_laysRides 58 = .ok (.ixor, 1) := by decide +kernel
theorem dX12_laysRides_59 : decode cX12_laysRides 59 = .ok (.iand, 1) := by decide +kernel
theorem dX12_laysRides_60 : decode cX12_laysRides 60 = .ok (.iaload, 1) := by decide +kernel
theorem dX12_laysRides_61 : decode cX12_laysRides 61 = .ok (.aload_n 0, 1) := by decide +kernel
theorem dX12_laysRides_62 : decode cX12_laysRides 62 = .ok (.getfield 66, 3) := by decide +kernel
theorem dX12_laysRides_65 : decode cX12_laysRides 65 = .ok (.iload 4, 2) := by decide +kernel
theorem dX12_laysRides_67 : decode cX12_laysRides 67 = .ok (.iaload, 1) := by decide +kernel
theorem dX12_laysRides_68 : decode cX12_laysRides 68 = .ok (.iconst 1, 1) := by decide +kernel
theorem dX12_laysRides_69 : decode cX12_laysRides 69 = .ok (.isub, 1) := by decide +kernel
theorem dX12_laysRides_70 : decode cX12_laysRides 70 = .ok (.if_icmp .eq 9, 3) := by decide +kernel
theorem dX12_laysRides_73 : decode cX12_laysRides 73 = .ok (.iinc 6 1, 3) := by decide +kernel
theorem dX12_laysRides_76 : decode cX12_laysRides 76 = .ok (.goto (-38), 3) := by decide +kernel
theorem dX12_laysRides_79 : decode cX12_laysRides 79 = .ok (.aload_n 3, 1) := by decide +kernel
theorem dX12_laysRides_80 : decode cX12_laysRides 80 = .ok (.iload 5, 2) := by decide +kernel
theorem dX12_laysRides_82 : decode cX12_laysRides 82 = .ok (.iload 6, 2) := by decide +kernel
theorem dX12_laysRides_84 : decode cX12_laysRides 84 = .ok (.iastore, 1) := by decide +kernel
theorem dX12_laysRides_85 : decode cX12_laysRides 85 = .ok (.iinc 5 1, 3) := by decide +kernel
theorem dX12_laysRides_88 : decode cX12_laysRides 88 = .ok (.iload 4, 2) := by decide +kernel
theorem dX12_laysRides_90 : decode cX12_laysRides 90 = .ok (.iload 6, 2) := by decide +kernel
theorem dX12_laysRides_92 : decode cX12_laysRides 92 = .ok (.iconst (-1), 1) := by decide +kernel
theorem dX12_laysRides_93 : decode cX12_laysRides 93 = .ok (.ixor, 1) := by decide +kernel
theorem dX12_laysRides_94 : decode cX12_laysRides 94 = .ok (.iand, 1) := by decide +kernel
theorem dX12_laysRides_95 : decode cX12_laysRides 95 = .ok (.istore 4, 2) := by decide +kernel
theorem dX12_laysRides_97 : decode cX12_laysRides 97 = .ok (.goto (-67), 3) := by decide +kernel
theorem dX12_laysRides_100 : decode cX12_laysRides 100 = .ok (.iload 5, 2) := by decide +kernel
theorem dX12_laysRides_102 : decode cX12_laysRides 102 = .ok (.ireturn, 1) := by decide +kernel
set_option maxRecDepth 20000 in
theorem ggX12_rides_X12_canShift : GoodIn wsX12_rides wsX12_canShift := goodIn_r _ [7, 8, 9, 10, 6, 11, 12, 13, 14, 15, 16, 17, 18, 35, 36, 37, 38, 39, 40, 41, 42, 43, 44, 45, 46, 47, 48, 49, 50, 51, 52, 53, 54, 55, 56, 57, 58, 59, 60, 61, 62, 63, 64, 65, 66, 67, 68, 69, 70, 71, 72, 73, 74, 75, 76, 77, 78, 79, 80, 81] (by decide +kernel) (by decide +kernel)
set_option maxRecDepth 20000 in
theorem gX12_rides_X12_canShift : GoodIn wsX12_rides (wsV RX12 356 RX12 yX12_canShift wsX12_canShift) := goodIn_app (goodIn_of _ (by decide +kernel)) ggX12_rides_X12_canShift
set_option maxRecDepth 20000 in
theorem ggX12_rides_X12_laysRides : GoodIn wsX12_rides wsX12_laysRides := goodIn_r _ [22, 8, 23, 24, 25, 26, 27, 28, 6, 29, 30, 31, 32, 33, 34, 12, 13, 14, 15, 16, 17, 18, 35, 36, 37, 38, 39, 40, 41, 42, 43, 44, 45, 46, 47, 48, 49, 50, 51, 52, 53, 54, 55, 56, 57, 58, 59, 60, 61, 62, 63, 64, 65, 66, 67, 68, 69, 70, 71, 72, 73, 74, 75, 76, 77, 78, 79, 80, 81] (by decide +kernel) (by decide +kernel)
set_option maxRecDepth 20000 in
theorem gX12_rides_X12_laysRides : GoodIn wsX12_rides (wsV RX12 359 RX12 yX12_laysRides wsX12_laysRides) := goodIn_app (goodIn_of _ (by decide +kernel)) ggX12_rides_X12_laysRides
theorem dX12_rides_0 : decode cX12_rides 0 = .ok (.aload_n 0, 1) := by decide +kernel
theorem dX12_rides_1 : decode cX12_rides 1 = .ok (.iload_n 1, 1) := by decide +kernel
theorem dX12_rides_2 : decode cX12_rides 2 = .ok (.iload_n 2, 1) := by decide +kernel
theorem dX12_rides_3 : decode cX12_rides 3 = .ok (.invokevirtual 356, 3) := by decide +kernel
theorem dX12_rides_6 : decode cX12_rides 6 = .ok (.ifCond .ne 5, 3) := by decide +kernel
theorem dX12_rides_9 : decode cX12_rides 9 = .ok (.iconst (-1), 1) := by decide +kernel
theorem dX12_rides_10 : decode cX12_rides 10 = .ok (.ireturn, 1) := by decide +kernel
theorem dX12_rides_11 : decode cX12_rides 11 = .ok (.aload_n 0, 1) := by decide +kernel
theorem dX12_rides_12 : decode cX12_rides 12 = .ok (.aload_n 0, 1) := by decide +kernel
theorem dX12_rides_13 : decode cX12_rides 13 = .ok (.iload_n 1, 1) := by decide +kernel
theorem dX12_rides_14 : decode cX12_rides 14 = .ok (.iload_n 2, 1) := by decide +kernel
theorem dX12_rides_15 : decode cX12_rides 15 = .ok (.aload_n 0, 1) := by decide +kernel
theorem dX12_rides_16 : decode cX12_rides 16 = .ok (.getfield 69, 3) := by decide +kernel
theorem dX12_rides_19 : decode cX12_rides 19 = .ok (.invokevirtual 359, 3) := by decide +kernel
theorem dX12_rides_22 : decode cX12_rides 22 = .ok (.putfield 363, 3) := by decide +kernel
theorem dX12_rides_25 : decode cX12_rides 25 = .ok (.aload_n 0, 1) := by decide +kernel
theorem dX12_rides_26 : decode cX12_rides 26 = .ok (.getfield 363, 3) := by decide +kernel
theorem dX12_rides_29 : decode cX12_rides 29 = .ok (.ireturn, 1) := by decide +kernel
set_option maxRecDepth 20000 in
theorem ggX12_ride_X12_isIn : GoodIn wsX12_ride wsX12_isIn := goodIn_r _ [6] (by decide +kernel) (by decide +kernel)
set_option maxRecDepth 20000 in
theorem gX12_ride_X12_isIn : GoodIn wsX12_ride (va_wsS RX12 83 yX12_isIn wsX12_isIn) := goodIn_app (goodIn_of _ (by decide +kernel)) ggX12_ride_X12_isIn
theorem dX12_ride_0 : decode cX12_ride 0 = .ok (.iload_n 1, 1) := by decide +kernel
theorem dX12_ride_1 : decode cX12_ride 1 = .ok (.iconst 0, 1) := by decide +kernel
theorem dX12_ride_2 : decode cX12_ride 2 = .ok (.aload_n 0, 1) := by decide +kernel
theorem dX12_ride_3 : decode cX12_ride 3 = .ok (.getfield 363, 3) := by decide +kernel
theorem dX12_ride_6 : decode cX12_ride 6 = .ok (.iconst 1, 1) := by decide +kernel
theorem dX12_ride_7 : decode cX12_ride 7 = .ok (.isub, 1) := by decide +kernel
theorem dX12_ride_8 : decode cX12_ride 8 = .ok (.invokestatic 83, 3) := by decide +kernel
theorem dX12_ride_11 : decode cX12_ride 11 = .ok (.ifCond .eq 12, 3) := by decide +kernel
theorem dX12_ride_14 : decode cX12_ride 14 = .ok (.aload_n 0, 1) := by decide +kernel
theorem dX12_ride_15 : decode cX12_ride 15 = .ok (.getfield 69, 3) := by decide +kernel
theorem dX12_ride_18 : decode cX12_ride 18 = .ok (.iload_n 1, 1) := by decide +kernel
theorem dX12_ride_19 : decode cX12_ride 19 = .ok (.iaload, 1) := by decide +kernel
theorem dX12_ride_20 : decode cX12_ride 20 = .ok (.goto 4, 3) := by decide +kernel
theorem dX12_ride_23 : decode cX12_ride 23 = .ok (.iconst (-1), 1) := by decide +kernel
theorem dX12_ride_24 : decode cX12_ride 24 = .ok (.ireturn, 1) := by decide +kernel
set_option maxRecDepth 20000 in
theorem ggX12_shift_X12_canShift : GoodIn wsX12_shift wsX12_canShift := goodIn_r _ [8, 1, 9, 10, 7, 11, 12, 13, 14, 15, 16, 17, 18, 72, 73, 74, 75, 76, 77, 78, 79, 80, 81, 82, 83, 84, 85, 86, 87, 88, 89, 90, 91, 92, 93, 94, 95, 96, 97, 98, 99, 100, 101, 102, 103, 104, 105, 106, 107, 108, 109, 110, 111, 112, 113, 114, 115, 116, 117, 118] (by decide +kernel) (by decide +kernel)
set_option maxRecDepth 20000 in
theorem gX12_shift_X12_canShift : GoodIn wsX12_shift (wsV RX12 356 RX12 yX12_canShift wsX12_canShift) := goodIn_app (goodIn_of _ (by decide +kernel)) ggX12_shift_X12_canShift
set_option maxRecDepth 20000 in
theorem ggX12_shift_X12_laysRides : GoodIn wsX12_shift wsX12_laysRides := goodIn_r _ [22, 1, 3, 23, 24, 25, 26, 27, 7, 28, 29, 30, 31, 32, 33, 12, 13, 14, 15, 16, 17, 18, 72, 73, 74, 75, 76, 77, 78, 79, 80, 81, 82, 83, 84, 85, 86, 87, 88, 89, 90, 91, 92, 93, 94, 95, 96, 97, 98, 99, 100, 101, 102, 103, 104, 105, 106, 107, 108, 109, 110, 111, 112, 113, 114, 115, 116, 117, 118] (by decide +kernel) (by decide +kernel)
set_option maxRecDepth 20000 in
theorem gX12_shift_X12_laysRides : GoodIn wsX12_shift (wsV RX12 359 RX12 yX12_laysRides wsX12_laysRides) := goodIn_app (goodIn_of _ (by decide +kernel)) ggX12_shift_X12_laysRides
set_option maxRecDepth 20000 in
theorem ggX12_shift_X12_ones : GoodIn wsX12_shift wsX12_ones := goodIn_r _ [36] (by decide +kernel) (by decide +kernel)
set_option maxRecDepth 20000 in
theorem gX12_shift_X12_ones : GoodIn wsX12_shift (va_wsS RX12 269 yX12_ones wsX12_ones) := goodIn_app (goodIn_of _ (by decide +kernel)) ggX12_shift_X12_ones
set_option maxRecDepth 20000 in
theorem ggX12_shift_X12_call : GoodIn wsX12_shift wsX12_call := goodIn_r _ [40, 41, 72, 73, 74, 75, 76, 77, 78, 79, 80, 81, 82, 83, 84, 85, 86, 87, 88, 89, 90, 91, 92, 93, 94, 95, 96, 97, 98, 99, 100, 101, 102, 103, 104, 105, 106, 107, 108, 109, 110, 111, 112, 113, 114, 115, 116, 117, 118] (by decide +kernel) (by decide +kernel)
set_option maxRecDepth 20000 in
theorem gX12_shift_X12_call : GoodIn wsX12_shift (wsV RX12 245 RX12 yX12_call wsX12_call) := goodIn_app (goodIn_of _ (by decide +kernel)) ggX12_shift_X12_call
set_option maxRecDepth 20000 in
theorem ggX12_shift_X12_keeps : GoodIn wsX12_shift wsX12_keeps := goodIn_r _ [45, 46, 47, 1, 48, 49, 7, 50, 72, 73, 74, 75, 76, 77, 78, 79, 80, 81, 82, 83, 84, 85, 86, 87, 88, 89, 90, 91, 92, 93, 94, 95, 96, 97, 98, 99, 100, 101, 102, 103, 104, 105, 106, 107, 108, 109, 110, 111, 112, 113, 114, 115, 116, 117, 118] (by decide +kernel) (by decide +kernel)
set_option maxRecDepth 20000 in
theorem gX12_shift_X12_keeps : GoodIn wsX12_shift (wsV RX12 248 RX12 yX12_keeps wsX12_keeps) := goodIn_app (goodIn_of _ (by decide +kernel)) ggX12_shift_X12_keeps
set_option maxRecDepth 20000 in
theorem ggX12_shift_X12_bitOf : GoodIn wsX12_shift wsX12_bitOf := goodIn_r _ [18] (by decide +kernel) (by decide +kernel)
set_option maxRecDepth 20000 in
theorem gX12_shift_X12_bitOf : GoodIn wsX12_shift (va_wsS RX12 196 yX12_bitOf wsX12_bitOf) := goodIn_app (goodIn_of _ (by decide +kernel)) ggX12_shift_X12_bitOf
set_option maxRecDepth 20000 in
theorem ggX12_shift_X12_down : GoodIn wsX12_shift wsX12_down := goodIn_r _ [54, 1, 55, 56, 57, 7, 58, 59, 60, 61, 62, 63, 64, 65, 41, 66, 67, 72, 73, 74, 75, 76, 77, 78, 79, 80, 81, 82, 83, 84, 85, 86, 87, 88, 89, 90, 91, 92, 93, 94, 95, 96, 97, 98, 99, 100, 101, 102, 103, 104, 105, 106, 107, 108, 109, 110, 111, 112, 113, 114, 115, 116, 117, 118] (by decide +kernel) (by decide +kernel)
set_option maxRecDepth 20000 in
theorem gX12_shift_X12_down : GoodIn wsX12_shift (wsV RX12 212 RX12 yX12_down wsX12_down) := goodIn_app (goodIn_of _ (by decide +kernel)) ggX12_shift_X12_down
set_option maxRecDepth 20000 in
theorem ggX12_shift_X12_up : GoodIn wsX12_shift wsX12_up := goodIn_r _ [71, 1, 55, 56, 57, 7, 58, 59, 60, 61, 62, 63, 64, 65, 41, 66, 67, 72, 73, 74, 75, 76, 77, 78, 79, 80, 81, 82, 83, 84, 85, 86, 87, 88, 89, 90, 91, 92, 93, 94, 95, 96, 97, 98, 99, 100, 101, 102, 103, 104, 105, 106, 107, 108, 109, 110, 111, 112, 113, 114, 115, 116, 117, 118] (by decide +kernel) (by decide +kernel)
set_option maxRecDepth 20000 in
theorem gX12_shift_X12_up : GoodIn wsX12_shift (wsV RX12 235 RX12 yX12_up wsX12_up) := goodIn_app (goodIn_of _ (by decide +kernel)) ggX12_shift_X12_up
theorem dX12_shift_0 : decode cX12_shift 0 = .ok (.aload_n 0, 1) := by decide +kernel
theorem dX12_shift_1 : decode cX12_shift 1 = .ok (.iload_n 1, 1) := by decide +kernel
theorem dX12_shift_2 : decode cX12_shift 2 = .ok (.iload_n 2, 1) := by decide +kernel
theorem dX12_shift_3 : decode cX12_shift 3 = .ok (.invokevirtual 356, 3) := by decide +kernel
theorem dX12_shift_6 : decode cX12_shift 6 = .ok (.ifCond .ne 5, 3) := by decide +kernel
theorem dX12_shift_9 : decode cX12_shift 9 = .ok (.iconst (-1), 1) := by decide +kernel
theorem dX12_shift_10 : decode cX12_shift 10 = .ok (.ireturn, 1) := by decide +kernel
theorem dX12_shift_11 : decode cX12_shift 11 = .ok (.iload_n 1, 1) := by decide +kernel
theorem dX12_shift_12 : decode cX12_shift 12 = .ok (.aload_n 0, 1) := by decide +kernel
theorem dX12_shift_13 : decode cX12_shift 13 = .ok (.getfield 7, 3) := by decide +kernel
theorem dX12_shift_16 : decode cX12_shift 16 = .ok (.iconst 3, 1) := by decide +kernel
theorem dX12_shift_17 : decode cX12_shift 17 = .ok (.iaload, 1) := by decide +kernel
theorem dX12_shift_18 : decode cX12_shift 18 = .ok (.if_icmp .ne 5, 3) := by decide +kernel
theorem dX12_shift_21 : decode cX12_shift 21 = .ok (.iconst 0, 1) := by decide +kernel
theorem dX12_shift_22 : decode cX12_shift 22 = .ok (.ireturn, 1) := by decide +kernel
theorem dX12_shift_23 : decode cX12_shift 23 = .ok (.aload_n 0, 1) := by decide +kernel
theorem dX12_shift_24 : decode cX12_shift 24 = .ok (.iload_n 1, 1) := by decide +kernel
theorem dX12_shift_25 : decode cX12_shift 25 = .ok (.iload_n 2, 1) := by decide +kernel
theorem dX12_shift_26 : decode cX12_shift 26 = .ok (.aload_n 0, 1) := by decide +kernel
theorem dX12_shift_27 : decode cX12_shift 27 = .ok (.getfield 72, 3) := by decide +kernel
theorem dX12_shift_30 : decode cX12_shift 30 = .ok (.invokevirtual 359, 3) := by decide +kernel
theorem dX12_shift_33 : decode cX12_shift 33 = .ok (.istore_n 3, 1) := by decide +kernel
theorem dX12_shift_34 : decode cX12_shift 34 = .ok (.aload_n 0, 1) := by decide +kernel
theorem dX12_shift_35 : decode cX12_shift 35 = .ok (.getfield 347, 3) := by decide +kernel
theorem dX12_shift_38 : decode cX12_shift 38 = .ok (.invokestatic 269, 3) := by decide +kernel
theorem dX12_shift_41 : decode cX12_shift 41 = .ok (.istore 4, 2) := by decide +kernel
theorem dX12_shift_43 : decode cX12_shift 43 = .ok (.aload_n 0, 1) := by decide +kernel
theorem dX12_shift_44 : decode cX12_shift 44 = .ok (.invokevirtual 245, 3) := by decide +kernel
theorem dX12_shift_47 : decode cX12_shift 47 = .ok (.aload_n 0, 1) := by decide +kernel
theorem dX12_shift_48 : decode cX12_shift 48 = .ok (.invokevirtual 248, 3) := by decide +kernel
theorem dX12_shift_51 : decode cX12_shift 51 = .ok (.iconst 0, 1) := by decide +kernel
theorem dX12_shift_52 : decode cX12_shift 52 = .ok (.istore 5, 2) := by decide +kernel
theorem dX12_shift_54 : decode cX12_shift 54 = .ok (.iload 5, 2) := by decide +kernel
theorem dX12_shift_56 : decode cX12_shift 56 = .ok (.iload_n 3, 1) := by decide +kernel
theorem dX12_shift_57 : decode cX12_shift 57 = .ok (.if_icmp .ge 107, 3) := by decide +kernel
theorem dX12_shift_60 : decode cX12_shift 60 = .ok (.aload_n 0, 1) := by decide +kernel
theorem dX12_shift_61 : decode cX12_shift 61 = .ok (.getfield 7, 3) := by decide +kernel
theorem dX12_shift_64 : decode cX12_shift 64 = .ok (.iconst 3, 1) := by decide +kernel
theorem dX12_shift_65 : decode cX12_shift 65 = .ok (.iaload, 1) := by decide +kernel
theorem dX12_shift_66 : decode cX12_shift 66 = .ok (.istore 6, 2) := by decide +kernel
theorem dX12_shift_68 : decode cX12_shift 68 = .ok (.iconst 0, 1) := by decide +kernel
theorem dX12_shift_69 : decode cX12_shift 69 = .ok (.istore 7, 2) := by decide +kernel
theorem dX12_shift_71 : decode cX12_shift 71 = .ok (.iload 7, 2) := by decide +kernel
theorem dX12_shift_73 : decode cX12_shift 73 = .ok (.aload_n 0, 1) := by decide +kernel
theorem dX12_shift_74 : decode cX12_shift 74 = .ok (.getfield 7, 3) := by decide +kernel
theorem dX12_shift_77 : decode cX12_shift 77 = .ok (.iconst 2, 1) := by decide +kernel
theorem dX12_shift_78 : decode cX12_shift 78 = .ok (.iaload, 1) := by decide +kernel
theorem dX12_shift_79 : decode cX12_shift 79 = .ok (.if_icmp .ge 33, 3) := by decide +kernel
theorem dX12_shift_82 : decode cX12_shift 82 = .ok (.aload_n 0, 1) := by decide +kernel
theorem dX12_shift_83 : decode cX12_shift 83 = .ok (.getfield 72, 3) := by decide +kernel
theorem dX12_shift_86 : decode cX12_shift 86 = .ok (.iload 5, 2) := by decide +kernel
theorem dX12_shift_88 : decode cX12_shift 88 = .ok (.iaload, 1) := by decide +kernel
theorem dX12_shift_89 : decode cX12_shift 89 = .ok (.iload 6, 2) := by decide +kernel
theorem dX12_shift_91 : decode cX12_shift 91 = .ok (.iand, 1) := by decide +kernel
theorem dX12_shift_92 : decode cX12_shift 92 = .ok (.iload 7, 2) := by decide +kernel
theorem dX12_shift_94 : decode cX12_shift 94 = .ok (.invokestatic 196, 3) := by decide +kernel
theorem dX12_shift_97 : decode cX12_shift 97 = .ok (.ifCond .eq 9, 3) := by decide +kernel
theorem dX12_shift_100 : decode cX12_shift 100 = .ok (.aload_n 0, 1) := by decide +kernel
theorem dX12_shift_101 : decode cX12_shift 101 = .ok (.iload 7, 2) := by decide +kernel
theorem dX12_shift_103 : decode cX12_shift 103 = .ok (.invokevirtual 212, 3) := by decide +kernel
theorem dX12_shift_106 : decode cX12_shift 106 = .ok (.iinc 7 1, 3) := by decide +kernel
theorem dX12_shift_109 : decode cX12_shift 109 = .ok (.goto (-38), 3) := by decide +kernel
theorem dX12_shift_112 : decode cX12_shift 112 = .ok (.iconst 0, 1) := by decide +kernel
theorem dX12_shift_113 : decode cX12_shift 113 = .ok (.istore 7, 2) := by decide +kernel
theorem dX12_shift_115 : decode cX12_shift 115 = .ok (.iload 7, 2) := by decide +kernel
theorem dX12_shift_117 : decode cX12_shift 117 = .ok (.aload_n 0, 1) := by decide +kernel
theorem dX12_shift_118 : decode cX12_shift 118 = .ok (.getfield 7, 3) := by decide +kernel
theorem dX12_shift_121 : decode cX12_shift 121 = .ok (.iconst 2, 1) := by decide +kernel
theorem dX12_shift_122 : decode cX12_shift 122 = .ok (.iaload, 1) := by decide +kernel
theorem dX12_shift_123 : decode cX12_shift 123 = .ok (.if_icmp .ge 35, 3) := by decide +kernel
theorem dX12_shift_126 : decode cX12_shift 126 = .ok (.aload_n 0, 1) := by decide +kernel
theorem dX12_shift_127 : decode cX12_shift 127 = .ok (.getfield 72, 3) := by decide +kernel
theorem dX12_shift_130 : decode cX12_shift 130 = .ok (.iload 5, 2) := by decide +kernel
theorem dX12_shift_132 : decode cX12_shift 132 = .ok (.iaload, 1) := by decide +kernel
theorem dX12_shift_133 : decode cX12_shift 133 = .ok (.iload 6, 2) := by decide +kernel
theorem dX12_shift_135 : decode cX12_shift 135 = .ok (.iconst (-1), 1) := by decide +kernel
theorem dX12_shift_136 : decode cX12_shift 136 = .ok (.ixor, 1) := by decide +kernel
theorem dX12_shift_137 : decode cX12_shift 137 = .ok (.iand, 1) := by decide +kernel
theorem dX12_shift_138 : decode cX12_shift 138 = .ok (.iload 7, 2) := by decide +kernel
theorem dX12_shift_140 : decode cX12_shift 140 = .ok (.invokestatic 196, 3) := by decide +kernel
theorem dX12_shift_143 : decode cX12_shift 143 = .ok (.ifCond .eq 9, 3) := by decide +kernel
theorem dX12_shift_146 : decode cX12_shift 146 = .ok (.aload_n 0, 1) := by decide +kernel
theorem dX12_shift_147 : decode cX12_shift 147 = .ok (.iload 7, 2) := by decide +kernel
theorem dX12_shift_149 : decode cX12_shift 149 = .ok (.invokevirtual 235, 3) := by decide +kernel
theorem dX12_shift_152 : decode cX12_shift 152 = .ok (.iinc 7 1, 3) := by decide +kernel
theorem dX12_shift_155 : decode cX12_shift 155 = .ok (.goto (-40), 3) := by decide +kernel
theorem dX12_shift_158 : decode cX12_shift 158 = .ok (.iinc 5 1, 3) := by decide +kernel
theorem dX12_shift_161 : decode cX12_shift 161 = .ok (.goto (-107), 3) := by decide +kernel
theorem dX12_shift_164 : decode cX12_shift 164 = .ok (.iload 4, 2) := by decide +kernel
theorem dX12_shift_166 : decode cX12_shift 166 = .ok (.ireturn, 1) := by decide +kernel
theorem dX12_draw_0 : decode cX12_draw 0 = .ok (.aload_n 0, 1) := by decide +kernel
theorem dX12_draw_1 : decode cX12_draw 1 = .ok (.aload_n 0, 1) := by decide +kernel
theorem dX12_draw_2 : decode cX12_draw 2 = .ok (.getfield 366, 3) := by decide +kernel
theorem dX12_draw_5 : decode cX12_draw 5 = .ok (.ldc_w 369, 3) := by decide +kernel
theorem dX12_draw_8 : decode cX12_draw 8 = .ok (.imul, 1) := by decide +kernel
theorem dX12_draw_9 : decode cX12_draw 9 = .ok (.sipush 12345, 3) := by decide +kernel
theorem dX12_draw_12 : decode cX12_draw 12 = .ok (.iadd, 1) := by decide +kernel
theorem dX12_draw_13 : decode cX12_draw 13 = .ok (.putfield 366, 3) := by decide +kernel
theorem dX12_draw_16 : decode cX12_draw 16 = .ok (.aload_n 0, 1) := by decide +kernel
theorem dX12_draw_17 : decode cX12_draw 17 = .ok (.getfield 366, 3) := by decide +kernel
theorem dX12_draw_20 : decode cX12_draw 20 = .ok (.bipush 8, 2) := by decide +kernel
theorem dX12_draw_22 : decode cX12_draw 22 = .ok (.iushr, 1) := by decide +kernel
theorem dX12_draw_23 : decode cX12_draw 23 = .ok (.iload_n 1, 1) := by decide +kernel
theorem dX12_draw_24 : decode cX12_draw 24 = .ok (.irem, 1) := by decide +kernel
theorem dX12_draw_25 : decode cX12_draw 25 = .ok (.ireturn, 1) := by decide +kernel
set_option maxRecDepth 20000 in
theorem ggX12_drawn_X12_isIn : GoodIn wsX12_drawn wsX12_isIn := goodIn_r _ [6] (by decide +kernel) (by decide +kernel)
set_option maxRecDepth 20000 in
theorem gX12_drawn_X12_isIn : GoodIn wsX12_drawn (va_wsS RX12 83 yX12_isIn wsX12_isIn) := goodIn_app (goodIn_of _ (by decide +kernel)) ggX12_drawn_X12_isIn
set_option maxRecDepth 20000 in
theorem ggX12_drawn_X12_call : GoodIn wsX12_drawn wsX12_call := goodIn_r _ [10, 11, 94, 95, 96, 97, 98, 99, 100, 101, 102, 103, 104, 105, 106, 107, 108, 109, 110, 111, 112, 113, 114, 115, 116, 117, 118, 119, 120, 121, 122, 123, 124, 125, 126, 127, 128, 129, 130, 131, 132, 133, 134, 135, 136, 137, 138, 139, 140] (by decide +kernel) (by decide +kernel)
set_option maxRecDepth 20000 in
theorem gX12_drawn_X12_call : GoodIn wsX12_drawn (wsV RX12 245 RX12 yX12_call wsX12_call) := goodIn_app (goodIn_of _ (by decide +kernel)) ggX12_drawn_X12_call
set_option maxRecDepth 20000 in
theorem ggX12_drawn_X12_keeps : GoodIn wsX12_drawn wsX12_keeps := goodIn_r _ [15, 16, 17, 1, 18, 19, 5, 20, 94, 95, 96, 97, 98, 99, 100, 101, 102, 103, 104, 105, 106, 107, 108, 109, 110, 111, 112, 113, 114, 115, 116, 117, 118, 119, 120, 121, 122, 123, 124, 125, 126, 127, 128, 129, 130, 131, 132, 133, 134, 135, 136, 137, 138, 139, 140] (by decide +kernel) (by decide +kernel)
set_option maxRecDepth 20000 in
theorem gX12_drawn_X12_keeps : GoodIn wsX12_drawn (wsV RX12 248 RX12 yX12_keeps wsX12_keeps) := goodIn_app (goodIn_of _ (by decide +kernel)) ggX12_drawn_X12_keeps
set_option maxRecDepth 20000 in
theorem ggX12_drawn_X12_draw : GoodIn wsX12_drawn wsX12_draw := goodIn_r _ [24, 2, 25, 94, 95, 96, 97, 98, 99, 100, 101, 102, 103, 104, 105, 106, 107, 108, 109, 110, 111, 112, 113, 114, 115, 116, 117, 118, 119, 120, 121, 122, 123, 124, 125, 126, 127, 128, 129, 130, 131, 132, 133, 134, 135, 136, 137, 138, 139, 140] (by decide +kernel) (by decide +kernel)
set_option maxRecDepth 20000 in
theorem gX12_drawn_X12_draw : GoodIn wsX12_drawn (wsV RX12 370 RX12 yX12_draw wsX12_draw) := goodIn_app (goodIn_of _ (by decide +kernel)) ggX12_drawn_X12_draw
set_option maxRecDepth 20000 in
theorem ggX12_drawn_X12_logs : GoodIn wsX12_drawn wsX12_logs := goodIn_r _ [29, 1, 30, 31, 32, 5, 33, 34, 35, 36, 37, 38, 39, 40, 41, 42, 43, 44, 45, 46, 47, 48, 49, 50, 51, 52, 53, 54, 55, 56, 57, 58, 59, 60, 61, 62, 63, 64, 65, 66, 67, 68, 69, 70, 71, 72, 73, 74, 75, 76, 77, 78, 79, 80, 81, 82, 83, 84, 85, 86, 87, 11, 88, 89, 90, 91, 92, 93, 94, 95, 96, 97, 98, 99, 100, 101, 102, 103, 104, 105, 106, 107, 108, 109, 110, 111, 112, 113, 114, 115, 116, 117, 118, 119, 120, 121, 122, 123, 124, 125, 126, 127, 128, 129, 130, 131, 132, 133, 134, 135, 136, 137, 138, 139, 140] (by decide +kernel) (by decide +kernel)
set_option maxRecDepth 20000 in
theorem gX12_drawn_X12_logs : GoodIn wsX12_drawn (wsV RX12 251 RX12 yX12_logs wsX12_logs) := goodIn_app (goodIn_of _ (by decide +kernel)) ggX12_drawn_X12_logs
theorem dX12_drawn_0 : decode cX12_drawn 0 = .ok (.iload_n 1, 1) := by decide +kernel
theorem dX12_drawn_1 : decode cX12_drawn 1 = .ok (.iconst 1, 1) := by decide +kernel
theorem dX12_drawn_2 : decode cX12_drawn 2 = .ok (.bipush 40, 2) := by decide +kernel
theorem dX12_drawn_4 : decode cX12_drawn 4 = .ok (.invokestatic 83, 3) := by decide +kernel
theorem dX12_drawn_7 : decode cX12_drawn 7 = .ok (.ifCond .eq 12, 3) := by decide +kernel
theorem dX12_drawn_10 : decode cX12_drawn 10 = .ok (.aload_n 0, 1) := by decide +kernel
theorem dX12_drawn_11 : decode cX12_drawn 11 = .ok (.getfield 7, 3) := by decide +kernel
theorem dX12_drawn_14 : decode cX12_drawn 14 = .ok (.iconst 2, 1) := by decide +kernel
theorem dX12_drawn_15 : decode cX12_drawn 15 = .ok (.iaload, 1) := by decide +kernel
theorem dX12_drawn_16 : decode cX12_drawn 16 = .ok (.ifCond .ne 5, 3) := by decide +kernel
theorem dX12_drawn_19 : decode cX12_drawn 19 = .ok (.iconst (-1), 1) := by decide +kernel
theorem dX12_drawn_20 : decode cX12_drawn 20 = .ok (.ireturn, 1) := by decide +kernel
theorem dX12_drawn_21 : decode cX12_drawn 21 = .ok (.aload_n 0, 1) := by decide +kernel
theorem dX12_drawn_22 : decode cX12_drawn 22 = .ok (.invokevirtual 245, 3) := by decide +kernel
theorem dX12_drawn_25 : decode cX12_drawn 25 = .ok (.aload_n 0, 1) := by decide +kernel
theorem dX12_drawn_26 : decode cX12_drawn 26 = .ok (.invokevirtual 248, 3) := by decide +kernel
theorem dX12_drawn_29 : decode cX12_drawn 29 = .ok (.aload_n 0, 1) := by decide +kernel
theorem dX12_drawn_30 : decode cX12_drawn 30 = .ok (.iload_n 2, 1) := by decide +kernel
theorem dX12_drawn_31 : decode cX12_drawn 31 = .ok (.putfield 366, 3) := by decide +kernel
theorem dX12_drawn_34 : decode cX12_drawn 34 = .ok (.iconst 0, 1) := by decide +kernel
theorem dX12_drawn_35 : decode cX12_drawn 35 = .ok (.istore_n 3, 1) := by decide +kernel
theorem dX12_drawn_36 : decode cX12_drawn 36 = .ok (.iconst 0, 1) := by decide +kernel
theorem dX12_drawn_37 : decode cX12_drawn 37 = .ok (.istore 4, 2) := by decide +kernel
theorem dX12_drawn_39 : decode cX12_drawn 39 = .ok (.iload 4, 2) := by decide +kernel
theorem dX12_drawn_41 : decode cX12_drawn 41 = .ok (.iload_n 1, 1) := by decide +kernel
theorem dX12_drawn_42 : decode cX12_drawn 42 = .ok (.if_icmp .ge 72, 3) := by decide +kernel
theorem dX12_drawn_45 : decode cX12_drawn 45 = .ok (.aload_n 0, 1) := by decide +kernel
theorem dX12_drawn_46 : decode cX12_drawn 46 = .ok (.getfield 7, 3) := by decide +kernel
theorem dX12_drawn_49 : decode cX12_drawn 49 = .ok (.bipush 7, 2) := by decide +kernel
theorem dX12_drawn_51 : decode cX12_drawn 51 = .ok (.iaload, 1) := by decide +kernel
theorem dX12_drawn_52 : decode cX12_drawn 52 = .ok (.bipush 40, 2) := by decide +kernel
theorem dX12_drawn_54 : decode cX12_drawn 54 = .ok (.if_icmp .ge 60, 3) := by decide +kernel
theorem dX12_drawn_57 : decode cX12_drawn 57 = .ok (.aload_n 0, 1) := by decide +kernel
theorem dX12_drawn_58 : decode cX12_drawn 58 = .ok (.iconst 3, 1) := by decide +kernel
theorem dX12_drawn_59 : decode cX12_drawn 59 = .ok (.invokevirtual 370, 3) := by decide +kernel
theorem dX12_drawn_62 : decode cX12_drawn 62 = .ok (.ifCond .ne 7, 3) := by decide +kernel
theorem dX12_drawn_65 : decode cX12_drawn 65 = .ok (.iconst 1, 1) := by decide +kernel
theorem dX12_drawn_66 : decode cX12_drawn 66 = .ok (.goto 4, 3) := by decide +kernel
theorem dX12_drawn_69 : decode cX12_drawn 69 = .ok (.iconst 0, 1) := by decide +kernel
theorem dX12_drawn_70 : decode cX12_drawn 70 = .ok (.istore 5, 2) := by decide +kernel
theorem dX12_drawn_72 : decode cX12_drawn 72 = .ok (.aload_n 0, 1) := by decide +kernel
theorem dX12_drawn_73 : decode cX12_drawn 73 = .ok (.aload_n 0, 1) := by decide +kernel
theorem dX12_drawn_74 : decode cX12_drawn 74 = .ok (.getfield 7, 3) := by decide +kernel
theorem dX12_drawn_77 : decode cX12_drawn 77 = .ok (.iconst 2, 1) := by decide +kernel
theorem dX12_drawn_78 : decode cX12_drawn 78 = .ok (.iaload, 1) := by decide +kernel
theorem dX12_drawn_79 : decode cX12_drawn 79 = .ok (.invokevirtual 370, 3) := by decide +kernel
theorem dX12_drawn_82 : decode cX12_drawn 82 = .ok (.istore 6, 2) := by decide +kernel
theorem dX12_drawn_84 : decode cX12_drawn 84 = .ok (.iload 5, 2) := by decide +kernel
theorem dX12_drawn_86 : decode cX12_drawn 86 = .ok (.ifCond .ne 13, 3) := by decide +kernel
theorem dX12_drawn_89 : decode cX12_drawn 89 = .ok (.aload_n 0, 1) := by decide +kernel
theorem dX12_drawn_90 : decode cX12_drawn 90 = .ok (.iload 6, 2) := by decide +kernel
theorem dX12_drawn_92 : decode cX12_drawn 92 = .ok (.iconst 1, 1) := by decide +kernel
theorem dX12_drawn_93 : decode cX12_drawn 93 = .ok (.iadd, 1) := by decide +kernel
theorem dX12_drawn_94 : decode cX12_drawn 94 = .ok (.invokevirtual 370, 3) := by decide +kernel
theorem dX12_drawn_97 : decode cX12_drawn 97 = .ok (.istore 6, 2) := by decide +kernel
theorem dX12_drawn_99 : decode cX12_drawn 99 = .ok (.iload_n 3, 1) := by decide +kernel
theorem dX12_drawn_100 : decode cX12_drawn 100 = .ok (.aload_n 0, 1) := by decide +kernel
theorem dX12_drawn_101 : decode cX12_drawn 101 = .ok (.iload 6, 2) := by decide +kernel
theorem dX12_drawn_103 : decode cX12_drawn 103 = .ok (.invokevirtual 251, 3) := by decide +kernel
theorem dX12_drawn_106 : decode cX12_drawn 106 = .ok (.iadd, 1) := by decide +kernel
theorem dX12_drawn_107 : decode cX12_drawn 107 = .ok (.istore_n 3, 1) := by decide +kernel
theorem dX12_drawn_108 : decode cX12_drawn 108 = .ok (.iinc 4 1, 3) := by decide +kernel
theorem dX12_drawn_111 : decode cX12_drawn 111 = .ok (.goto (-72), 3) := by decide +kernel
theorem dX12_drawn_114 : decode cX12_drawn 114 = .ok (.iload_n 3, 1) := by decide +kernel
theorem dX12_drawn_115 : decode cX12_drawn 115 = .ok (.ireturn, 1) := by decide +kernel
set_option maxRecDepth 20000 in
theorem ggX12_image_X12_isIn : GoodIn wsX12_image wsX12_isIn := goodIn_r _ [7] (by decide +kernel) (by decide +kernel)
set_option maxRecDepth 20000 in
theorem gX12_image_X12_isIn : GoodIn wsX12_image (va_wsS RX12 83 yX12_isIn wsX12_isIn) := goodIn_app (goodIn_of _ (by decide +kernel)) ggX12_image_X12_isIn
set_option maxRecDepth 20000 in
theorem ggX12_image_X12_copies : GoodIn wsX12_image wsX12_copies := goodIn_r _ [10] (by decide +kernel) (by decide +kernel)
set_option maxRecDepth 20000 in
theorem gX12_image_X12_copies : GoodIn wsX12_image (va_wsS RX12 177 yX12_copies wsX12_copies) := goodIn_app (goodIn_of _ (by decide +kernel)) ggX12_image_X12_copies
theorem dX12_image_0 : decode cX12_image 0 = .ok (.iload_n 1, 1) := by decide +kernel
theorem dX12_image_1 : decode cX12_image 1 = .ok (.iconst 0, 1) := by decide +kernel
theorem dX12_image_2 : decode cX12_image 2 = .ok (.iconst 1, 1) := by decide +kernel
theorem dX12_image_3 : decode cX12_image 3 = .ok (.invokestatic 83, 3) := by decide +kernel
theorem dX12_image_6 : decode cX12_image 6 = .ok (.ifCond .ne 5, 3) := by decide +kernel
theorem dX12_image_9 : decode cX12_image 9 = .ok (.iconst 0, 1) := by decide +kernel
theorem dX12_image_10 : decode cX12_image 10 = .ok (.ireturn, 1) := by decide +kernel
theorem dX12_image_11 : decode cX12_image 11 = .ok (.aload_n 0, 1) := by decide +kernel
theorem dX12_image_12 : decode cX12_image 12 = .ok (.getfield 7, 3) := by decide +kernel
theorem dX12_image_15 : decode cX12_image 15 = .ok (.iconst 0, 1) := by decide +kernel
theorem dX12_image_16 : decode cX12_image 16 = .ok (.aload_n 0, 1) := by decide +kernel
theorem dX12_image_17 : decode cX12_image 17 = .ok (.getfield 13, 3) := by decide +kernel
theorem dX12_image_20 : decode cX12_image 20 = .ok (.sipush 835, 3) := by decide +kernel
theorem dX12_image_23 : decode cX12_image 23 = .ok (.iload_n 1, 1) := by decide +kernel
theorem dX12_image_24 : decode cX12_image 24 = .ok (.imul, 1) := by decide +kernel
theorem dX12_image_25 : decode cX12_image 25 = .ok (.invokestatic 177, 3) := by decide +kernel
theorem dX12_image_28 : decode cX12_image 28 = .ok (.aload_n 0, 1) := by decide +kernel
theorem dX12_image_29 : decode cX12_image 29 = .ok (.getfield 22, 3) := by decide +kernel
theorem dX12_image_32 : decode cX12_image 32 = .ok (.iload_n 1, 1) := by decide +kernel
theorem dX12_image_33 : decode cX12_image 33 = .ok (.iconst 1, 1) := by decide +kernel
theorem dX12_image_34 : decode cX12_image 34 = .ok (.bastore, 1) := by decide +kernel
theorem dX12_image_35 : decode cX12_image 35 = .ok (.iconst 1, 1) := by decide +kernel
theorem dX12_image_36 : decode cX12_image 36 = .ok (.ireturn, 1) := by decide +kernel
set_option maxRecDepth 20000 in
theorem ggX12_restore_X12_isIn : GoodIn wsX12_restore wsX12_isIn := goodIn_r _ [8] (by decide +kernel) (by decide +kernel)
set_option maxRecDepth 20000 in
theorem gX12_restore_X12_isIn : GoodIn wsX12_restore (va_wsS RX12 83 yX12_isIn wsX12_isIn) := goodIn_app (goodIn_of _ (by decide +kernel)) ggX12_restore_X12_isIn
set_option maxRecDepth 20000 in
theorem ggX12_restore_X12_copies : GoodIn wsX12_restore wsX12_copies := goodIn_r _ [11] (by decide +kernel) (by decide +kernel)
set_option maxRecDepth 20000 in
theorem gX12_restore_X12_copies : GoodIn wsX12_restore (va_wsS RX12 177 yX12_copies wsX12_copies) := goodIn_app (goodIn_of _ (by decide +kernel)) ggX12_restore_X12_copies
theorem dX12_restore_0 : decode cX12_restore 0 = .ok (.iload_n 1, 1) := by decide +kernel
theorem dX12_restore_1 : decode cX12_restore 1 = .ok (.iconst 0, 1) := by decide +kernel
theorem dX12_restore_2 : decode cX12_restore 2 = .ok (.iconst 1, 1) := by decide +kernel
theorem dX12_restore_3 : decode cX12_restore 3 = .ok (.invokestatic 83, 3) := by decide +kernel
theorem dX12_restore_6 : decode cX12_restore 6 = .ok (.ifCond .eq 12, 3) := by decide +kernel
theorem dX12_restore_9 : decode cX12_restore 9 = .ok (.aload_n 0, 1) := by decide +kernel
theorem dX12_restore_10 : decode cX12_restore 10 = .ok (.getfield 22, 3) := by decide +kernel
theorem dX12_restore_13 : decode cX12_restore 13 = .ok (.iload_n 1, 1) := by decide +kernel
theorem dX12_restore_14 : decode cX12_restore 14 = .ok (.baload, 1) := by decide +kernel
theorem dX12_restore_15 : decode cX12_restore 15 = .ok (.ifCond .ne 5, 3) := by decide +kernel
theorem dX12_restore_18 : decode cX12_restore 18 = .ok (.iconst 0, 1) := by decide +kernel
theorem dX12_restore_19 : decode cX12_restore 19 = .ok (.ireturn, 1) := by decide +kernel
theorem dX12_restore_20 : decode cX12_restore 20 = .ok (.aload_n 0, 1) := by decide +kernel
theorem dX12_restore_21 : decode cX12_restore 21 = .ok (.getfield 13, 3) := by decide +kernel
theorem dX12_restore_24 : decode cX12_restore 24 = .ok (.sipush 835, 3) := by decide +kernel
theorem dX12_restore_27 : decode cX12_restore 27 = .ok (.iload_n 1, 1) := by decide +kernel
theorem dX12_restore_28 : decode cX12_restore 28 = .ok (.imul, 1) := by decide +kernel
theorem dX12_restore_29 : decode cX12_restore 29 = .ok (.aload_n 0, 1) := by decide +kernel
theorem dX12_restore_30 : decode cX12_restore 30 = .ok (.getfield 7, 3) := by decide +kernel
theorem dX12_restore_33 : decode cX12_restore 33 = .ok (.iconst 0, 1) := by decide +kernel
theorem dX12_restore_34 : decode cX12_restore 34 = .ok (.invokestatic 177, 3) := by decide +kernel
theorem dX12_restore_37 : decode cX12_restore 37 = .ok (.aload_n 0, 1) := by decide +kernel
theorem dX12_restore_38 : decode cX12_restore 38 = .ok (.iconst 0, 1) := by decide +kernel
theorem dX12_restore_39 : decode cX12_restore 39 = .ok (.putfield 181, 3) := by decide +kernel
theorem dX12_restore_42 : decode cX12_restore 42 = .ok (.iconst 1, 1) := by decide +kernel
theorem dX12_restore_43 : decode cX12_restore 43 = .ok (.ireturn, 1) := by decide +kernel
theorem dJxf58ca_isNaN_12338_0 : decode cJxf58ca_isNaN_12338 0 = .ok (.fload_n 0, 1) := by decide +kernel
theorem dJxf58ca_isNaN_12338_1 : decode cJxf58ca_isNaN_12338 1 = .ok (.fload_n 0, 1) := by decide +kernel
theorem dJxf58ca_isNaN_12338_2 : decode cJxf58ca_isNaN_12338 2 = .ok (.fcmp .l, 1) := by decide +kernel
theorem dJxf58ca_isNaN_12338_3 : decode cJxf58ca_isNaN_12338 3 = .ok (.ifCond .eq 7, 3) := by decide +kernel
theorem dJxf58ca_isNaN_12338_6 : decode cJxf58ca_isNaN_12338 6 = .ok (.iconst 1, 1) := by decide +kernel
theorem dJxf58ca_isNaN_12338_7 : decode cJxf58ca_isNaN_12338 7 = .ok (.goto 4, 3) := by decide +kernel
theorem dJxf58ca_isNaN_12338_10 : decode cJxf58ca_isNaN_12338 10 = .ok (.iconst 0, 1) := by decide +kernel
theorem dJxf58ca_isNaN_12338_11 : decode cJxf58ca_isNaN_12338 11 = .ok (.ireturn, 1) := by decide +kernel
set_option maxRecDepth 20000 in
theorem ggJxf58ca_floatToIntBits_5c35a_Jxf58ca_isNaN_12338 : GoodIn wsJxf58ca_floatToIntBits_5c35a wsJxf58ca_isNaN_12338 := goodIn_r _ [9] (by decide +kernel) (by decide +kernel)
set_option maxRecDepth 20000 in
theorem gJxf58ca_floatToIntBits_5c35a_Jxf58ca_isNaN_12338 : GoodIn wsJxf58ca_floatToIntBits_5c35a (va_wsS RJxf58ca 59 yJxf58ca_isNaN_12338 wsJxf58ca_isNaN_12338) := goodIn_app (goodIn_of _ (by decide +kernel)) ggJxf58ca_floatToIntBits_5c35a_Jxf58ca_isNaN_12338
theorem dJxf58ca_floatToIntBits_5c35a_0 : decode cJxf58ca_floatToIntBits_5c35a 0 = .ok (.fload_n 0, 1) := by decide +kernel
theorem dJxf58ca_floatToIntBits_5c35a_1 : decode cJxf58ca_floatToIntBits_5c35a 1 = .ok (.invokestatic 59, 3) := by decide +kernel
theorem dJxf58ca_floatToIntBits_5c35a_4 : decode cJxf58ca_floatToIntBits_5c35a 4 = .ok (.ifCond .ne 8, 3) := by decide +kernel
theorem dJxf58ca_floatToIntBits_5c35a_7 : decode cJxf58ca_floatToIntBits_5c35a 7 = .ok (.fload_n 0, 1) := by decide +kernel
theorem dJxf58ca_floatToIntBits_5c35a_8 : decode cJxf58ca_floatToIntBits_5c35a 8 = .ok (.invokestatic 74, 3) := by decide +kernel
theorem dJxf58ca_floatToIntBits_5c35a_11 : decode cJxf58ca_floatToIntBits_5c35a 11 = .ok (.ireturn, 1) := by decide +kernel
theorem dJxf58ca_floatToIntBits_5c35a_12 : decode cJxf58ca_floatToIntBits_5c35a 12 = .ok (.ldc 77, 2) := by decide +kernel
theorem dJxf58ca_floatToIntBits_5c35a_14 : decode cJxf58ca_floatToIntBits_5c35a 14 = .ok (.ireturn, 1) := by decide +kernel
theorem dJ6_bitCount_0f7a4_0 : decode cJ6_bitCount_0f7a4 0 = .ok (.iload_n 0, 1) := by decide +kernel
theorem dJ6_bitCount_0f7a4_1 : decode cJ6_bitCount_0f7a4 1 = .ok (.iload_n 0, 1) := by decide +kernel
theorem dJ6_bitCount_0f7a4_2 : decode cJ6_bitCount_0f7a4 2 = .ok (.iconst 1, 1) := by decide +kernel
theorem dJ6_bitCount_0f7a4_3 : decode cJ6_bitCount_0f7a4 3 = .ok (.iushr, 1) := by decide +kernel
theorem dJ6_bitCount_0f7a4_4 : decode cJ6_bitCount_0f7a4 4 = .ok (.ldc_w 265, 3) := by decide +kernel
theorem dJ6_bitCount_0f7a4_7 : decode cJ6_bitCount_0f7a4 7 = .ok (.iand, 1) := by decide +kernel
theorem dJ6_bitCount_0f7a4_8 : decode cJ6_bitCount_0f7a4 8 = .ok (.isub, 1) := by decide +kernel
theorem dJ6_bitCount_0f7a4_9 : decode cJ6_bitCount_0f7a4 9 = .ok (.istore_n 0, 1) := by decide +kernel
theorem dJ6_bitCount_0f7a4_10 : decode cJ6_bitCount_0f7a4 10 = .ok (.iload_n 0, 1) := by decide +kernel
theorem dJ6_bitCount_0f7a4_11 : decode cJ6_bitCount_0f7a4 11 = .ok (.ldc_w 266, 3) := by decide +kernel
theorem dJ6_bitCount_0f7a4_14 : decode cJ6_bitCount_0f7a4 14 = .ok (.iand, 1) := by decide +kernel
theorem dJ6_bitCount_0f7a4_15 : decode cJ6_bitCount_0f7a4 15 = .ok (.iload_n 0, 1) := by decide +kernel
theorem dJ6_bitCount_0f7a4_16 : decode cJ6_bitCount_0f7a4 16 = .ok (.iconst 2, 1) := by decide +kernel
theorem dJ6_bitCount_0f7a4_17 : decode cJ6_bitCount_0f7a4 17 = .ok (.iushr, 1) := by decide +kernel
theorem dJ6_bitCount_0f7a4_18 : decode cJ6_bitCount_0f7a4 18 = .ok (.ldc_w 266, 3) := by decide +kernel
theorem dJ6_bitCount_0f7a4_21 : decode cJ6_bitCount_0f7a4 21 = .ok (.iand, 1) := by decide +kernel
theorem dJ6_bitCount_0f7a4_22 : decode cJ6_bitCount_0f7a4 22 = .ok (.iadd, 1) := by decide +kernel
theorem dJ6_bitCount_0f7a4_23 : decode cJ6_bitCount_0f7a4 23 = .ok (.istore_n 0, 1) := by decide +kernel
theorem dJ6_bitCount_0f7a4_24 : decode cJ6_bitCount_0f7a4 24 = .ok (.iload_n 0, 1) := by decide +kernel
theorem dJ6_bitCount_0f7a4_25 : decode cJ6_bitCount_0f7a4 25 = .ok (.iload_n 0, 1) := by decide +kernel
theorem dJ6_bitCount_0f7a4_26 : decode cJ6_bitCount_0f7a4 26 = .ok (.iconst 4, 1) := by decide +kernel
theorem dJ6_bitCount_0f7a4_27 : decode cJ6_bitCount_0f7a4 27 = .ok (.iushr, 1) := by decide +kernel
theorem dJ6_bitCount_0f7a4_28 : decode cJ6_bitCount_0f7a4 28 = .ok (.iadd, 1) := by decide +kernel
theorem dJ6_bitCount_0f7a4_29 : decode cJ6_bitCount_0f7a4 29 = .ok (.ldc_w 267, 3) := by decide +kernel
theorem dJ6_bitCount_0f7a4_32 : decode cJ6_bitCount_0f7a4 32 = .ok (.iand, 1) := by decide +kernel
theorem dJ6_bitCount_0f7a4_33 : decode cJ6_bitCount_0f7a4 33 = .ok (.istore_n 0, 1) := by decide +kernel
theorem dJ6_bitCount_0f7a4_34 : decode cJ6_bitCount_0f7a4 34 = .ok (.iload_n 0, 1) := by decide +kernel
theorem dJ6_bitCount_0f7a4_35 : decode cJ6_bitCount_0f7a4 35 = .ok (.iload_n 0, 1) := by decide +kernel
theorem dJ6_bitCount_0f7a4_36 : decode cJ6_bitCount_0f7a4 36 = .ok (.bipush 8, 2) := by decide +kernel
theorem dJ6_bitCount_0f7a4_38 : decode cJ6_bitCount_0f7a4 38 = .ok (.iushr, 1) := by decide +kernel
theorem dJ6_bitCount_0f7a4_39 : decode cJ6_bitCount_0f7a4 39 = .ok (.iadd, 1) := by decide +kernel
theorem dJ6_bitCount_0f7a4_40 : decode cJ6_bitCount_0f7a4 40 = .ok (.istore_n 0, 1) := by decide +kernel
theorem dJ6_bitCount_0f7a4_41 : decode cJ6_bitCount_0f7a4 41 = .ok (.iload_n 0, 1) := by decide +kernel
theorem dJ6_bitCount_0f7a4_42 : decode cJ6_bitCount_0f7a4 42 = .ok (.iload_n 0, 1) := by decide +kernel
theorem dJ6_bitCount_0f7a4_43 : decode cJ6_bitCount_0f7a4 43 = .ok (.bipush 16, 2) := by decide +kernel
theorem dJ6_bitCount_0f7a4_45 : decode cJ6_bitCount_0f7a4 45 = .ok (.iushr, 1) := by decide +kernel
theorem dJ6_bitCount_0f7a4_46 : decode cJ6_bitCount_0f7a4 46 = .ok (.iadd, 1) := by decide +kernel
theorem dJ6_bitCount_0f7a4_47 : decode cJ6_bitCount_0f7a4 47 = .ok (.istore_n 0, 1) := by decide +kernel
theorem dJ6_bitCount_0f7a4_48 : decode cJ6_bitCount_0f7a4 48 = .ok (.iload_n 0, 1) := by decide +kernel
theorem dJ6_bitCount_0f7a4_49 : decode cJ6_bitCount_0f7a4 49 = .ok (.bipush 63, 2) := by decide +kernel
theorem dJ6_bitCount_0f7a4_51 : decode cJ6_bitCount_0f7a4 51 = .ok (.iand, 1) := by decide +kernel
theorem dJ6_bitCount_0f7a4_52 : decode cJ6_bitCount_0f7a4 52 = .ok (.ireturn, 1) := by decide +kernel
set_option maxRecDepth 20000 in
theorem ggJ0_length_8abf5_J0_coder_7d493 : GoodIn wsJ0_length_8abf5 wsJ0_coder_7d493 := goodIn_r _ [6, 7, 8] (by decide +kernel) (by decide +kernel)
set_option maxRecDepth 20000 in
theorem gJ0_length_8abf5_J0_coder_7d493 : GoodIn wsJ0_length_8abf5 (wsV RJ0 335 RJ0 yJ0_coder_7d493 wsJ0_coder_7d493) := goodIn_app (goodIn_of _ (by decide +kernel)) ggJ0_length_8abf5_J0_coder_7d493
theorem dJ0_length_8abf5_0 : decode cJ0_length_8abf5 0 = .ok (.aload_n 0, 1) := by decide +kernel
theorem dJ0_length_8abf5_1 : decode cJ0_length_8abf5 1 = .ok (.getfield 9, 3) := by decide +kernel
theorem dJ0_length_8abf5_4 : decode cJ0_length_8abf5 4 = .ok (.arraylength, 1) := by decide +kernel
theorem dJ0_length_8abf5_5 : decode cJ0_length_8abf5 5 = .ok (.aload_n 0, 1) := by decide +kernel
theorem dJ0_length_8abf5_6 : decode cJ0_length_8abf5 6 = .ok (.invokevirtual 335, 3) := by decide +kernel
theorem dJ0_length_8abf5_9 : decode cJ0_length_8abf5 9 = .ok (.ishr, 1) := by decide +kernel
theorem dJ0_length_8abf5_10 : decode cJ0_length_8abf5 10 = .ok (.ireturn, 1) := by decide +kernel
set_option maxRecDepth 20000 in
theorem ggJ0_charAt_5068e_J0_isLatin1_aae02 : GoodIn wsJ0_charAt_5068e wsJ0_isLatin1_aae02 := goodIn_r _ [6, 7, 8] (by decide +kernel) (by decide +kernel)
set_option maxRecDepth 20000 in
theorem gJ0_charAt_5068e_J0_isLatin1_aae02 : GoodIn wsJ0_charAt_5068e (wsV RJ0 492 RJ0 yJ0_isLatin1_aae02 wsJ0_isLatin1_aae02) := goodIn_app (goodIn_of _ (by decide +kernel)) ggJ0_charAt_5068e_J0_isLatin1_aae02
set_option maxRecDepth 20000 in
theorem ggJ0_charAt_5068e_J1_charAt_3b067 : GoodIn wsJ0_charAt_5068e wsJ1_charAt_3b067 := goodIn_r _ [12, 13, 14, 5, 15, 16, 17, 18, 19, 20] (by decide +kernel) (by decide +kernel)
set_option maxRecDepth 20000 in
theorem gJ0_charAt_5068e_J1_charAt_3b067 : GoodIn wsJ0_charAt_5068e (va_wsS RJ0 495 yJ1_charAt_3b067 wsJ1_charAt_3b067) := goodIn_app (goodIn_of _ (by decide +kernel)) ggJ0_charAt_5068e_J1_charAt_3b067
set_option maxRecDepth 20000 in
theorem ggJ0_charAt_5068e_J2_charAt_3b067 : GoodIn wsJ0_charAt_5068e wsJ2_charAt_3b067 := goodIn_r _ [24, 25, 26, 23, 27, 28, 29, 30, 31, 14, 5, 15, 16, 17, 18, 19, 20, 32, 33, 34, 35, 36, 37] (by decide +kernel) (by decide +kernel)
set_option maxRecDepth 20000 in
theorem gJ0_charAt_5068e_J2_charAt_3b067 : GoodIn wsJ0_charAt_5068e (va_wsS RJ0 498 yJ2_charAt_3b067 wsJ2_charAt_3b067) := goodIn_app (goodIn_of _ (by decide +kernel)) ggJ0_charAt_5068e_J2_charAt_3b067
theorem dJ0_charAt_5068e_0 : decode cJ0_charAt_5068e 0 = .ok (.aload_n 0, 1) := by decide +kernel
theorem dJ0_charAt_5068e_1 : decode cJ0_charAt_5068e 1 = .ok (.invokevirtual 492, 3) := by decide +kernel
theorem dJ0_charAt_5068e_4 : decode cJ0_charAt_5068e 4 = .ok (.ifCond .eq 12, 3) := by decide +kernel
theorem dJ0_charAt_5068e_7 : decode cJ0_charAt_5068e 7 = .ok (.aload_n 0, 1) := by decide +kernel
theorem dJ0_charAt_5068e_8 : decode cJ0_charAt_5068e 8 = .ok (.getfield 9, 3) := by decide +kernel
theorem dJ0_charAt_5068e_11 : decode cJ0_charAt_5068e 11 = .ok (.iload_n 1, 1) := by decide +kernel
theorem dJ0_charAt_5068e_12 : decode cJ0_charAt_5068e 12 = .ok (.invokestatic 495, 3) := by decide +kernel
theorem dJ0_charAt_5068e_15 : decode cJ0_charAt_5068e 15 = .ok (.ireturn, 1) := by decide +kernel
theorem dJ0_charAt_5068e_16 : decode cJ0_charAt_5068e 16 = .ok (.aload_n 0, 1) := by decide +kernel
theorem dJ0_charAt_5068e_17 : decode cJ0_charAt_5068e 17 = .ok (.getfield 9, 3) := by decide +kernel
theorem dJ0_charAt_5068e_20 : decode cJ0_charAt_5068e 20 = .ok (.iload_n 1, 1) := by decide +kernel
theorem dJ0_charAt_5068e_21 : decode cJ0_charAt_5068e 21 = .ok (.invokestatic 498, 3) := by decide +kernel
theorem dJ0_charAt_5068e_24 : decode cJ0_charAt_5068e 24 = .ok (.ireturn, 1) := by decide +kernel
theorem dJ0_coder_7d493_0 : decode cJ0_coder_7d493 0 = .ok (.getstatic 38, 3) := by decide +kernel
theorem dJ0_coder_7d493_3 : decode cJ0_coder_7d493 3 = .ok (.ifCond .eq 10, 3) := by decide +kernel
theorem dJ0_coder_7d493_6 : decode cJ0_coder_7d493 6 = .ok (.aload_n 0, 1) := by decide +kernel
theorem dJ0_coder_7d493_7 : decode cJ0_coder_7d493 7 = .ok (.getfield 15, 3) := by decide +kernel
theorem dJ0_coder_7d493_10 : decode cJ0_coder_7d493 10 = .ok (.goto 4, 3) := by decide +kernel
theorem dJ0_coder_7d493_13 : decode cJ0_coder_7d493 13 = .ok (.iconst 1, 1) := by decide +kernel
theorem dJ0_coder_7d493_14 : decode cJ0_coder_7d493 14 = .ok (.ireturn, 1) := by decide +kernel
theorem dJ0_isLatin1_aae02_0 : decode cJ0_isLatin1_aae02 0 = .ok (.getstatic 38, 3) := by decide +kernel
theorem dJ0_isLatin1_aae02_3 : decode cJ0_isLatin1_aae02 3 = .ok (.ifCond .eq 14, 3) := by decide +kernel
theorem dJ0_isLatin1_aae02_6 : decode cJ0_isLatin1_aae02 6 = .ok (.aload_n 0, 1) := by decide +kernel
theorem dJ0_isLatin1_aae02_7 : decode cJ0_isLatin1_aae02 7 = .ok (.getfield 15, 3) := by decide +kernel
theorem dJ0_isLatin1_aae02_10 : decode cJ0_isLatin1_aae02 10 = .ok (.ifCond .ne 7, 3) := by decide +kernel
theorem dJ0_isLatin1_aae02_13 : decode cJ0_isLatin1_aae02 13 = .ok (.iconst 1, 1) := by decide +kernel
theorem dJ0_isLatin1_aae02_14 : decode cJ0_isLatin1_aae02 14 = .ok (.goto 4, 3) := by decide +kernel
theorem dJ0_isLatin1_aae02_17 : decode cJ0_isLatin1_aae02 17 = .ok (.iconst 0, 1) := by decide +kernel
theorem dJ0_isLatin1_aae02_18 : decode cJ0_isLatin1_aae02 18 = .ok (.ireturn, 1) := by decide +kernel
set_option maxRecDepth 20000 in
theorem ggJ0_checkIndex_df160_J3_checkIndex_8e157 : GoodIn wsJ0_checkIndex_df160 wsJ3_checkIndex_8e157 := goodIn_r _ [5] (by decide +kernel) (by decide +kernel)
set_option maxRecDepth 20000 in
theorem gJ0_checkIndex_df160_J3_checkIndex_8e157 : GoodIn wsJ0_checkIndex_df160 (va_wsS RJ0 1059 yJ3_checkIndex_8e157 wsJ3_checkIndex_8e157) := goodIn_app (goodIn_of _ (by decide +kernel)) ggJ0_checkIndex_df160_J3_checkIndex_8e157
theorem dJ0_checkIndex_df160_0 : decode cJ0_checkIndex_df160 0 = .ok (.iload_n 0, 1) := by decide +kernel
theorem dJ0_checkIndex_df160_1 : decode cJ0_checkIndex_df160 1 = .ok (.iload_n 1, 1) := by decide +kernel
theorem dJ0_checkIndex_df160_2 : decode cJ0_checkIndex_df160 2 = .ok (.getstatic 1053, 3) := by decide +kernel
theorem dJ0_checkIndex_df160_5 : decode cJ0_checkIndex_df160 5 = .ok (.invokestatic 1059, 3) := by decide +kernel
theorem dJ0_checkIndex_df160_8 : decode cJ0_checkIndex_df160 8 = .ok (.pop, 1) := by decide +kernel
theorem dJ0_checkIndex_df160_9 : decode cJ0_checkIndex_df160 9 = .ok (.return_, 1) := by decide +kernel
set_option maxRecDepth 20000 in
theorem ggJ1_charAt_3b067_J0_checkIndex_df160 : GoodIn wsJ1_charAt_3b067 wsJ0_checkIndex_df160 := goodIn_r _ [4, 5, 6, 7, 8, 9] (by decide +kernel) (by decide +kernel)
set_option maxRecDepth 20000 in
theorem gJ1_charAt_3b067_J0_checkIndex_df160 : GoodIn wsJ1_charAt_3b067 (va_wsS RJ1 9 yJ0_checkIndex_df160 wsJ0_checkIndex_df160) := goodIn_app (goodIn_of _ (by decide +kernel)) ggJ1_charAt_3b067_J0_checkIndex_df160
theorem dJ1_charAt_3b067_0 : decode cJ1_charAt_3b067 0 = .ok (.iload_n 1, 1) := by decide +kernel
theorem dJ1_charAt_3b067_1 : decode cJ1_charAt_3b067 1 = .ok (.aload_n 0, 1) := by decide +kernel
theorem dJ1_charAt_3b067_2 : decode cJ1_charAt_3b067 2 = .ok (.arraylength, 1) := by decide +kernel
theorem dJ1_charAt_3b067_3 : decode cJ1_charAt_3b067 3 = .ok (.invokestatic 9, 3) := by decide +kernel
theorem dJ1_charAt_3b067_6 : decode cJ1_charAt_3b067 6 = .ok (.aload_n 0, 1) := by decide +kernel
theorem dJ1_charAt_3b067_7 : decode cJ1_charAt_3b067 7 = .ok (.iload_n 1, 1) := by decide +kernel
theorem dJ1_charAt_3b067_8 : decode cJ1_charAt_3b067 8 = .ok (.baload, 1) := by decide +kernel
theorem dJ1_charAt_3b067_9 : decode cJ1_charAt_3b067 9 = .ok (.sipush 255, 3) := by decide +kernel
theorem dJ1_charAt_3b067_12 : decode cJ1_charAt_3b067 12 = .ok (.iand, 1) := by decide +kernel
theorem dJ1_charAt_3b067_13 : decode cJ1_charAt_3b067 13 = .ok (.i2c, 1) := by decide +kernel
theorem dJ1_charAt_3b067_14 : decode cJ1_charAt_3b067 14 = .ok (.ireturn, 1) := by decide +kernel
set_option maxRecDepth 20000 in
theorem ggJ2_getChar_3b067_J2_length_9d52b : GoodIn wsJ2_getChar_3b067 wsJ2_length_9d52b := goodIn_r _ [7] (by decide +kernel) (by decide +kernel)
set_option maxRecDepth 20000 in
theorem gJ2_getChar_3b067_J2_length_9d52b : GoodIn wsJ2_getChar_3b067 (va_wsS RJ2 48 yJ2_length_9d52b wsJ2_length_9d52b) := goodIn_app (goodIn_of _ (by decide +kernel)) ggJ2_getChar_3b067_J2_length_9d52b
theorem dJ2_getChar_3b067_0 : decode cJ2_getChar_3b067 0 = .ok (.getstatic 44, 3) := by decide +kernel
theorem dJ2_getChar_3b067_3 : decode cJ2_getChar_3b067 3 = .ok (.ifCond .ne 25, 3) := by decide +kernel
theorem dJ2_getChar_3b067_6 : decode cJ2_getChar_3b067 6 = .ok (.iload_n 1, 1) := by decide +kernel
theorem dJ2_getChar_3b067_7 : decode cJ2_getChar_3b067 7 = .ok (.ifCond .lt 11, 3) := by decide +kernel
theorem dJ2_getChar_3b067_10 : decode cJ2_getChar_3b067 10 = .ok (.iload_n 1, 1) := by decide +kernel
theorem dJ2_getChar_3b067_11 : decode cJ2_getChar_3b067 11 = .ok (.aload_n 0, 1) := by decide +kernel
theorem dJ2_getChar_3b067_12 : decode cJ2_getChar_3b067 12 = .ok (.invokestatic 48, 3) := by decide +kernel
theorem dJ2_getChar_3b067_15 : decode cJ2_getChar_3b067 15 = .ok (.if_icmp .lt 13, 3) := by decide +kernel
theorem dJ2_getChar_3b067_18 : decode cJ2_getChar_3b067 18 = .ok (.new 52, 3) := by decide +kernel
theorem dJ2_getChar_3b067_21 : decode cJ2_getChar_3b067 21 = .ok (.dup, 1) := by decide +kernel
theorem dJ2_getChar_3b067_22 : decode cJ2_getChar_3b067 22 = .ok (.ldc 54, 2) := by decide +kernel
theorem dJ2_getChar_3b067_24 : decode cJ2_getChar_3b067 24 = .ok (.invokespecial 56, 3) := by decide +kernel
theorem dJ2_getChar_3b067_27 : decode cJ2_getChar_3b067 27 = .ok (.athrow, 1) := by decide +kernel
theorem dJ2_getChar_3b067_28 : decode cJ2_getChar_3b067 28 = .ok (.iload_n 1, 1) := by decide +kernel
theorem dJ2_getChar_3b067_29 : decode cJ2_getChar_3b067 29 = .ok (.iconst 1, 1) := by decide +kernel
theorem dJ2_getChar_3b067_30 : decode cJ2_getChar_3b067 30 = .ok (.ishl, 1) := by decide +kernel
theorem dJ2_getChar_3b067_31 : decode cJ2_getChar_3b067 31 = .ok (.istore_n 1, 1) := by decide +kernel
theorem dJ2_getChar_3b067_32 : decode cJ2_getChar_3b067 32 = .ok (.aload_n 0, 1) := by decide +kernel
theorem dJ2_getChar_3b067_33 : decode cJ2_getChar_3b067 33 = .ok (.iload_n 1, 1) := by decide +kernel
theorem dJ2_getChar_3b067_34 : decode cJ2_getChar_3b067 34 = .ok (.iinc 1 1, 3) := by decide +kernel
theorem dJ2_getChar_3b067_37 : decode cJ2_getChar_3b067 37 = .ok (.baload, 1) := by decide +kernel
theorem dJ2_getChar_3b067_38 : decode cJ2_getChar_3b067 38 = .ok (.sipush 255, 3) := by decide +kernel
theorem dJ2_getChar_3b067_41 : decode cJ2_getChar_3b067 41 = .ok (.iand, 1) := by decide +kernel
theorem dJ2_getChar_3b067_42 : decode cJ2_getChar_3b067 42 = .ok (.getstatic 59, 3) := by decide +kernel
theorem dJ2_getChar_3b067_45 : decode cJ2_getChar_3b067 45 = .ok (.ishl, 1) := by decide +kernel
theorem dJ2_getChar_3b067_46 : decode cJ2_getChar_3b067 46 = .ok (.aload_n 0, 1) := by decide +kernel
theorem dJ2_getChar_3b067_47 : decode cJ2_getChar_3b067 47 = .ok (.iload_n 1, 1) := by decide +kernel
theorem dJ2_getChar_3b067_48 : decode cJ2_getChar_3b067 48 = .ok (.baload, 1) := by decide +kernel
theorem dJ2_getChar_3b067_49 : decode cJ2_getChar_3b067 49 = .ok (.sipush 255, 3) := by decide +kernel
theorem dJ2_getChar_3b067_52 : decode cJ2_getChar_3b067 52 = .ok (.iand, 1) := by decide +kernel
theorem dJ2_getChar_3b067_53 : decode cJ2_getChar_3b067 53 = .ok (.getstatic 63, 3) := by decide +kernel
theorem dJ2_getChar_3b067_56 : decode cJ2_getChar_3b067 56 = .ok (.ishl, 1) := by decide +kernel
theorem dJ2_getChar_3b067_57 : decode cJ2_getChar_3b067 57 = .ok (.ior, 1) := by decide +kernel
theorem dJ2_getChar_3b067_58 : decode cJ2_getChar_3b067 58 = .ok (.i2c, 1) := by decide +kernel
theorem dJ2_getChar_3b067_59 : decode cJ2_getChar_3b067 59 = .ok (.ireturn, 1) := by decide +kernel
theorem dJ2_length_9d52b_0 : decode cJ2_length_9d52b 0 = .ok (.aload_n 0, 1) := by decide +kernel
theorem dJ2_length_9d52b_1 : decode cJ2_length_9d52b 1 = .ok (.arraylength, 1) := by decide +kernel
theorem dJ2_length_9d52b_2 : decode cJ2_length_9d52b 2 = .ok (.iconst 1, 1) := by decide +kernel
theorem dJ2_length_9d52b_3 : decode cJ2_length_9d52b 3 = .ok (.ishr, 1) := by decide +kernel
theorem dJ2_length_9d52b_4 : decode cJ2_length_9d52b 4 = .ok (.ireturn, 1) := by decide +kernel
set_option maxRecDepth 20000 in
theorem ggJ2_charAt_3b067_J2_checkIndex_2214a : GoodIn wsJ2_charAt_3b067 wsJ2_checkIndex_2214a := goodIn_r _ [4, 5, 6, 3, 7, 8, 9, 10, 11, 12, 13, 14, 15, 16] (by decide +kernel) (by decide +kernel)
set_option maxRecDepth 20000 in
theorem gJ2_charAt_3b067_J2_checkIndex_2214a : GoodIn wsJ2_charAt_3b067 (va_wsS RJ2 67 yJ2_checkIndex_2214a wsJ2_checkIndex_2214a) := goodIn_app (goodIn_of _ (by decide +kernel)) ggJ2_charAt_3b067_J2_checkIndex_2214a
set_option maxRecDepth 20000 in
theorem ggJ2_charAt_3b067_J2_getChar_3b067 : GoodIn wsJ2_charAt_3b067 wsJ2_getChar_3b067 := goodIn_r _ [19, 20, 21, 22, 5, 6, 3, 7] (by decide +kernel) (by decide +kernel)
set_option maxRecDepth 20000 in
theorem gJ2_charAt_3b067_J2_getChar_3b067 : GoodIn wsJ2_charAt_3b067 (va_wsS RJ2 71 yJ2_getChar_3b067 wsJ2_getChar_3b067) := goodIn_app (goodIn_of _ (by decide +kernel)) ggJ2_charAt_3b067_J2_getChar_3b067
theorem dJ2_charAt_3b067_0 : decode cJ2_charAt_3b067 0 = .ok (.iload_n 1, 1) := by decide +kernel
theorem dJ2_charAt_3b067_1 : decode cJ2_charAt_3b067 1 = .ok (.aload_n 0, 1) := by decide +kernel
theorem dJ2_charAt_3b067_2 : decode cJ2_charAt_3b067 2 = .ok (.invokestatic 67, 3) := by decide +kernel
theorem dJ2_charAt_3b067_5 : decode cJ2_charAt_3b067 5 = .ok (.aload_n 0, 1) := by decide +kernel
theorem dJ2_charAt_3b067_6 : decode cJ2_charAt_3b067 6 = .ok (.iload_n 1, 1) := by decide +kernel
theorem dJ2_charAt_3b067_7 : decode cJ2_charAt_3b067 7 = .ok (.invokestatic 71, 3) := by decide +kernel
theorem dJ2_charAt_3b067_10 : decode cJ2_charAt_3b067 10 = .ok (.ireturn, 1) := by decide +kernel
set_option maxRecDepth 20000 in
theorem ggJ2_checkIndex_2214a_J2_length_9d52b : GoodIn wsJ2_checkIndex_2214a wsJ2_length_9d52b := goodIn_r _ [4] (by decide +kernel) (by decide +kernel)
set_option maxRecDepth 20000 in
theorem gJ2_checkIndex_2214a_J2_length_9d52b : GoodIn wsJ2_checkIndex_2214a (va_wsS RJ2 48 yJ2_length_9d52b wsJ2_length_9d52b) := goodIn_app (goodIn_of _ (by decide +kernel)) ggJ2_checkIndex_2214a_J2_length_9d52b
set_option maxRecDepth 20000 in
theorem ggJ2_checkIndex_2214a_J0_checkIndex_df160 : GoodIn wsJ2_checkIndex_2214a wsJ0_checkIndex_df160 := goodIn_r _ [8, 9, 10, 11, 12, 13] (by decide +kernel) (by decide +kernel)
set_option maxRecDepth 20000 in
theorem gJ2_checkIndex_2214a_J0_checkIndex_df160 : GoodIn wsJ2_checkIndex_2214a (va_wsS RJ2 414 yJ0_checkIndex_df160 wsJ0_checkIndex_df160) := goodIn_app (goodIn_of _ (by decide +kernel)) ggJ2_checkIndex_2214a_J0_checkIndex_df160
theorem dJ2_checkIndex_2214a_0 : decode cJ2_checkIndex_2214a 0 = .ok (.iload_n 0, 1) := by decide +kernel
theorem dJ2_checkIndex_2214a_1 : decode cJ2_checkIndex_2214a 1 = .ok (.aload_n 1, 1) := by decide +kernel
theorem dJ2_checkIndex_2214a_2 : decode cJ2_checkIndex_2214a 2 = .ok (.invokestatic 48, 3) := by decide +kernel
theorem dJ2_checkIndex_2214a_5 : decode cJ2_checkIndex_2214a 5 = .ok (.invokestatic 414, 3) := by decide +kernel
theorem dJ2_checkIndex_2214a_8 : decode cJ2_checkIndex_2214a 8 = .ok (.return_, 1) := by decide +kernel
theorem dJ3_checkIndex_8e157_0 : decode cJ3_checkIndex_8e157 0 = .ok (.iload_n 0, 1) := by decide +kernel
theorem dJ3_checkIndex_8e157_1 : decode cJ3_checkIndex_8e157 1 = .ok (.ifCond .lt 8, 3) := by decide +kernel
theorem dJ3_checkIndex_8e157_4 : decode cJ3_checkIndex_8e157 4 = .ok (.iload_n 0, 1) := by decide +kernel
theorem dJ3_checkIndex_8e157_5 : decode cJ3_checkIndex_8e157 5 = .ok (.iload_n 1, 1) := by decide +kernel
theorem dJ3_checkIndex_8e157_6 : decode cJ3_checkIndex_8e157 6 = .ok (.if_icmp .lt 10, 3) := by decide +kernel
theorem dJ3_checkIndex_8e157_9 : decode cJ3_checkIndex_8e157 9 = .ok (.aload_n 2, 1) := by decide +kernel
theorem dJ3_checkIndex_8e157_10 : decode cJ3_checkIndex_8e157 10 = .ok (.iload_n 0, 1) := by decide +kernel
theorem dJ3_checkIndex_8e157_11 : decode cJ3_checkIndex_8e157 11 = .ok (.iload_n 1, 1) := by decide +kernel
theorem dJ3_checkIndex_8e157_12 : decode cJ3_checkIndex_8e157 12 = .ok (.invokestatic 95, 3) := by decide +kernel
theorem dJ3_checkIndex_8e157_15 : decode cJ3_checkIndex_8e157 15 = .ok (.athrow, 1) := by decide +kernel
theorem dJ3_checkIndex_8e157_16 : decode cJ3_checkIndex_8e157 16 = .ok (.iload_n 0, 1) := by decide +kernel
theorem dJ3_checkIndex_8e157_17 : decode cJ3_checkIndex_8e157 17 = .ok (.ireturn, 1) := by decide +kernel

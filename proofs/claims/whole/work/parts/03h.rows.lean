theorem dX12_sizeOf_6 : decode cX12_sizeOf 6 = .ok (.getfield 7, 3) := by decide +kernel
theorem dX12_sizeOf_9 : decode cX12_sizeOf 9 = .ok (.iconst 2, 1) := by decide +kernel
theorem dX12_sizeOf_10 : decode cX12_sizeOf 10 = .ok (.iaload, 1) := by decide +kernel
theorem dX12_sizeOf_11 : decode cX12_sizeOf 11 = .ok (.if_icmp .ge 33, 3) := by decide +kernel
theorem dX12_sizeOf_14 : decode cX12_sizeOf 14 = .ok (.iload_n 2, 1) := by decide +kernel
theorem dX12_sizeOf_15 : decode cX12_sizeOf 15 = .ok (.iload_n 1, 1) := by decide +kernel
theorem dX12_sizeOf_16 : decode cX12_sizeOf 16 = .ok (.iload_n 3, 1) := by decide +kernel
theorem dX12_sizeOf_17 : decode cX12_sizeOf 17 = .ok (.invokestatic 196, 3) := by decide +kernel
theorem dX12_sizeOf_20 : decode cX12_sizeOf 20 = .ok (.ifCond .eq 15, 3) := by decide +kernel
theorem dX12_sizeOf_23 : decode cX12_sizeOf 23 = .ok (.aload_n 0, 1) := by decide +kernel
theorem dX12_sizeOf_24 : decode cX12_sizeOf 24 = .ok (.getfield 7, 3) := by decide +kernel
theorem dX12_sizeOf_27 : decode cX12_sizeOf 27 = .ok (.bipush 8, 2) := by decide +kernel
theorem dX12_sizeOf_29 : decode cX12_sizeOf 29 = .ok (.iload_n 3, 1) := by decide +kernel
theorem dX12_sizeOf_30 : decode cX12_sizeOf 30 = .ok (.iadd, 1) := by decide +kernel
theorem dX12_sizeOf_31 : decode cX12_sizeOf 31 = .ok (.iaload, 1) := by decide +kernel
theorem dX12_sizeOf_32 : decode cX12_sizeOf 32 = .ok (.goto 4, 3) := by decide +kernel
theorem dX12_sizeOf_35 : decode cX12_sizeOf 35 = .ok (.iconst 0, 1) := by decide +kernel
theorem dX12_sizeOf_36 : decode cX12_sizeOf 36 = .ok (.iadd, 1) := by decide +kernel
theorem dX12_sizeOf_37 : decode cX12_sizeOf 37 = .ok (.istore_n 2, 1) := by decide +kernel
theorem dX12_sizeOf_38 : decode cX12_sizeOf 38 = .ok (.iinc 3 1, 3) := by decide +kernel
theorem dX12_sizeOf_41 : decode cX12_sizeOf 41 = .ok (.goto (-37), 3) := by decide +kernel
theorem dX12_sizeOf_44 : decode cX12_sizeOf 44 = .ok (.iload_n 2, 1) := by decide +kernel
theorem dX12_sizeOf_45 : decode cX12_sizeOf 45 = .ok (.ireturn, 1) := by decide +kernel
set_option maxRecDepth 20000 in
theorem ggX12_priceOf_X12_bitOf : GoodIn wsX12_priceOf wsX12_bitOf := goodIn_r _ [5] (by decide +kernel) (by decide +kernel)
set_option maxRecDepth 20000 in
theorem gX12_priceOf_X12_bitOf : GoodIn wsX12_priceOf (va_wsS RX12 196 yX12_bitOf wsX12_bitOf) := goodIn_app (goodIn_of _ (by decide +kernel)) ggX12_priceOf_X12_bitOf
theorem dX12_priceOf_0 : decode cX12_priceOf 0 = .ok (.iconst 0, 1) := by decide +kernel
theorem dX12_priceOf_1 : decode cX12_priceOf 1 = .ok (.istore_n 2, 1) := by decide +kernel
theorem dX12_priceOf_2 : decode cX12_priceOf 2 = .ok (.iconst 0, 1) := by decide +kernel
theorem dX12_priceOf_3 : decode cX12_priceOf 3 = .ok (.istore_n 3, 1) := by decide +kernel
theorem dX12_priceOf_4 : decode cX12_priceOf 4 = .ok (.iload_n 3, 1) := by decide +kernel
theorem dX12_priceOf_5 : decode cX12_priceOf 5 = .ok (.aload_n 0, 1) := by decide +kernel
theorem dX12_priceOf_6 : decode cX12_priceOf 6 = .ok (.getfield 7, 3) := by decide +kernel
theorem dX12_priceOf_9 : decode cX12_priceOf 9 = .ok (.iconst 2, 1) := by decide +kernel
theorem dX12_priceOf_10 : decode cX12_priceOf 10 = .ok (.iaload, 1) := by decide +kernel
theorem dX12_priceOf_11 : decode cX12_priceOf 11 = .ok (.if_icmp .ge 33, 3) := by decide +kernel
theorem dX12_priceOf_14 : decode cX12_priceOf 14 = .ok (.iload_n 2, 1) := by decide +kernel
theorem dX12_priceOf_15 : decode cX12_priceOf 15 = .ok (.iload_n 1, 1) := by decide +kernel
theorem dX12_priceOf_16 : decode cX12_priceOf 16 = .ok (.iload_n 3, 1) := by decide +kernel
theorem dX12_priceOf_17 : decode cX12_priceOf 17 = .ok (.invokestatic 196, 3) := by decide +kernel
theorem dX12_priceOf_20 : decode cX12_priceOf 20 = .ok (.ifCond .eq 15, 3) := by decide +kernel
theorem dX12_priceOf_23 : decode cX12_priceOf 23 = .ok (.aload_n 0, 1) := by decide +kernel
theorem dX12_priceOf_24 : decode cX12_priceOf 24 = .ok (.getfield 7, 3) := by decide +kernel
theorem dX12_priceOf_27 : decode cX12_priceOf 27 = .ok (.bipush 16, 2) := by decide +kernel
theorem dX12_priceOf_29 : decode cX12_priceOf 29 = .ok (.iload_n 3, 1) := by decide +kernel
theorem dX12_priceOf_30 : decode cX12_priceOf 30 = .ok (.iadd, 1) := by decide +kernel
theorem dX12_priceOf_31 : decode cX12_priceOf 31 = .ok (.iaload, 1) := by decide +kernel
theorem dX12_priceOf_32 : decode cX12_priceOf 32 = .ok (.goto 4, 3) := by decide +kernel
theorem dX12_priceOf_35 : decode cX12_priceOf 35 = .ok (.iconst 0, 1) := by decide +kernel
theorem dX12_priceOf_36 : decode cX12_priceOf 36 = .ok (.iadd, 1) := by decide +kernel
theorem dX12_priceOf_37 : decode cX12_priceOf 37 = .ok (.istore_n 2, 1) := by decide +kernel
theorem dX12_priceOf_38 : decode cX12_priceOf 38 = .ok (.iinc 3 1, 3) := by decide +kernel
theorem dX12_priceOf_41 : decode cX12_priceOf 41 = .ok (.goto (-37), 3) := by decide +kernel
theorem dX12_priceOf_44 : decode cX12_priceOf 44 = .ok (.iload_n 2, 1) := by decide +kernel
theorem dX12_priceOf_45 : decode cX12_priceOf 45 = .ok (.ireturn, 1) := by decide +kernel
set_option maxRecDepth 20000 in
theorem ggX12_isPlan_X12_sizeOf : GoodIn wsX12_isPlan wsX12_sizeOf := goodIn_r _ [8, 1, 9, 10, 7, 11, 12, 13, 14, 15, 16, 17, 18, 19, 20, 21, 22, 23, 24, 25, 26, 27, 28, 29, 30, 31, 32, 33, 34, 35, 36, 37, 38, 39, 40, 41, 42, 43, 44, 45, 46, 47, 48, 49, 50, 51, 52, 53, 54, 55, 56, 57, 58] (by decide +kernel) (by decide +kernel)
set_option maxRecDepth 20000 in
theorem gX12_isPlan_X12_sizeOf : GoodIn wsX12_isPlan (wsV RX12 275 RX12 yX12_sizeOf wsX12_sizeOf) := goodIn_app (goodIn_of _ (by decide +kernel)) ggX12_isPlan_X12_sizeOf
set_option maxRecDepth 20000 in
theorem ggX12_isPlan_X12_bitOf : GoodIn wsX12_isPlan wsX12_bitOf := goodIn_r _ [11] (by decide +kernel) (by decide +kernel)
set_option maxRecDepth 20000 in
theorem gX12_isPlan_X12_bitOf : GoodIn wsX12_isPlan (va_wsS RX12 196 yX12_bitOf wsX12_bitOf) := goodIn_app (goodIn_of _ (by decide +kernel)) ggX12_isPlan_X12_bitOf
theorem dX12_isPlan_0 : decode cX12_isPlan 0 = .ok (.aload_n 0, 1) := by decide +kernel
theorem dX12_isPlan_1 : decode cX12_isPlan 1 = .ok (.getfield 7, 3) := by decide +kernel
theorem dX12_isPlan_4 : decode cX12_isPlan 4 = .ok (.bipush 104, 2) := by decide +kernel
theorem dX12_isPlan_6 : decode cX12_isPlan 6 = .ok (.iload_n 1, 1) := by decide +kernel
theorem dX12_isPlan_7 : decode cX12_isPlan 7 = .ok (.iadd, 1) := by decide +kernel
theorem dX12_isPlan_8 : decode cX12_isPlan 8 = .ok (.iaload, 1) := by decide +kernel
theorem dX12_isPlan_9 : decode cX12_isPlan 9 = .ok (.istore_n 3, 1) := by decide +kernel
theorem dX12_isPlan_10 : decode cX12_isPlan 10 = .ok (.aload_n 0, 1) := by decide +kernel
theorem dX12_isPlan_11 : decode cX12_isPlan 11 = .ok (.iload_n 2, 1) := by decide +kernel
theorem dX12_isPlan_12 : decode cX12_isPlan 12 = .ok (.invokevirtual 275, 3) := by decide +kernel
theorem dX12_isPlan_15 : decode cX12_isPlan 15 = .ok (.aload_n 0, 1) := by decide +kernel
theorem dX12_isPlan_16 : decode cX12_isPlan 16 = .ok (.getfield 278, 3) := by decide +kernel
theorem dX12_isPlan_19 : decode cX12_isPlan 19 = .ok (.if_icmp .gt 16, 3) := by decide +kernel
theorem dX12_isPlan_22 : decode cX12_isPlan 22 = .ok (.iload_n 2, 1) := by decide +kernel
theorem dX12_isPlan_23 : decode cX12_isPlan 23 = .ok (.aload_n 0, 1) := by decide +kernel
theorem dX12_isPlan_24 : decode cX12_isPlan 24 = .ok (.getfield 281, 3) := by decide +kernel
theorem dX12_isPlan_27 : decode cX12_isPlan 27 = .ok (.iand, 1) := by decide +kernel
theorem dX12_isPlan_28 : decode cX12_isPlan 28 = .ok (.aload_n 0, 1) := by decide +kernel
theorem dX12_isPlan_29 : decode cX12_isPlan 29 = .ok (.getfield 281, 3) := by decide +kernel
theorem dX12_isPlan_32 : decode cX12_isPlan 32 = .ok (.if_icmp .eq 5, 3) := by decide +kernel
theorem dX12_isPlan_35 : decode cX12_isPlan 35 = .ok (.iconst 0, 1) := by decide +kernel
theorem dX12_isPlan_36 : decode cX12_isPlan 36 = .ok (.ireturn, 1) := by decide +kernel
theorem dX12_isPlan_37 : decode cX12_isPlan 37 = .ok (.iload_n 2, 1) := by decide +kernel
theorem dX12_isPlan_38 : decode cX12_isPlan 38 = .ok (.iload_n 3, 1) := by decide +kernel
theorem dX12_isPlan_39 : decode cX12_isPlan 39 = .ok (.invokestatic 196, 3) := by decide +kernel
theorem dX12_isPlan_42 : decode cX12_isPlan 42 = .ok (.ifCond .ne 28, 3) := by decide +kernel
theorem dX12_isPlan_45 : decode cX12_isPlan 45 = .ok (.aload_n 0, 1) := by decide +kernel
theorem dX12_isPlan_46 : decode cX12_isPlan 46 = .ok (.getfield 7, 3) := by decide +kernel
theorem dX12_isPlan_49 : decode cX12_isPlan 49 = .ok (.iconst 1, 1) := by decide +kernel
theorem dX12_isPlan_50 : decode cX12_isPlan 50 = .ok (.iaload, 1) := by decide +kernel
theorem dX12_isPlan_51 : decode cX12_isPlan 51 = .ok (.ifCond .gt 19, 3) := by decide +kernel
theorem dX12_isPlan_54 : decode cX12_isPlan 54 = .ok (.aload_n 0, 1) := by decide +kernel
theorem dX12_isPlan_55 : decode cX12_isPlan 55 = .ok (.getfield 7, 3) := by decide +kernel
theorem dX12_isPlan_58 : decode cX12_isPlan 58 = .ok (.bipush 8, 2) := by decide +kernel
theorem dX12_isPlan_60 : decode cX12_isPlan 60 = .ok (.iload_n 3, 1) := by decide +kernel
theorem dX12_isPlan_61 : decode cX12_isPlan 61 = .ok (.iadd, 1) := by decide +kernel
theorem dX12_isPlan_62 : decode cX12_isPlan 62 = .ok (.iaload, 1) := by decide +kernel
theorem dX12_isPlan_63 : decode cX12_isPlan 63 = .ok (.aload_n 0, 1) := by decide +kernel
theorem dX12_isPlan_64 : decode cX12_isPlan 64 = .ok (.getfield 278, 3) := by decide +kernel
theorem dX12_isPlan_67 : decode cX12_isPlan 67 = .ok (.if_icmp .le 7, 3) := by decide +kernel
theorem dX12_isPlan_70 : decode cX12_isPlan 70 = .ok (.iconst 1, 1) := by decide +kernel
theorem dX12_isPlan_71 : decode cX12_isPlan 71 = .ok (.goto 4, 3) := by decide +kernel
theorem dX12_isPlan_74 : decode cX12_isPlan 74 = .ok (.iconst 0, 1) := by decide +kernel
theorem dX12_isPlan_75 : decode cX12_isPlan 75 = .ok (.ireturn, 1) := by decide +kernel
set_option maxRecDepth 20000 in
theorem ggX12_rentAt_X12_bitOf : GoodIn wsX12_rentAt wsX12_bitOf := goodIn_r _ [5] (by decide +kernel) (by decide +kernel)
set_option maxRecDepth 20000 in
theorem gX12_rentAt_X12_bitOf : GoodIn wsX12_rentAt (va_wsS RX12 196 yX12_bitOf wsX12_bitOf) := goodIn_app (goodIn_of _ (by decide +kernel)) ggX12_rentAt_X12_bitOf
theorem dX12_rentAt_0 : decode cX12_rentAt 0 = .ok (.iload_n 2, 1) := by decide +kernel
theorem dX12_rentAt_1 : decode cX12_rentAt 1 = .ok (.aload_n 0, 1) := by decide +kernel
theorem dX12_rentAt_2 : decode cX12_rentAt 2 = .ok (.getfield 7, 3) := by decide +kernel
theorem dX12_rentAt_5 : decode cX12_rentAt 5 = .ok (.bipush 104, 2) := by decide +kernel
theorem dX12_rentAt_7 : decode cX12_rentAt 7 = .ok (.iload_n 1, 1) := by decide +kernel
theorem dX12_rentAt_8 : decode cX12_rentAt 8 = .ok (.iadd, 1) := by decide +kernel
theorem dX12_rentAt_9 : decode cX12_rentAt 9 = .ok (.iaload, 1) := by decide +kernel
theorem dX12_rentAt_10 : decode cX12_rentAt 10 = .ok (.invokestatic 196, 3) := by decide +kernel
theorem dX12_rentAt_13 : decode cX12_rentAt 13 = .ok (.ifCond .eq 7, 3) := by decide +kernel
theorem dX12_rentAt_16 : decode cX12_rentAt 16 = .ok (.iconst 0, 1) := by decide +kernel
theorem dX12_rentAt_17 : decode cX12_rentAt 17 = .ok (.goto 20, 3) := by decide +kernel
theorem dX12_rentAt_20 : decode cX12_rentAt 20 = .ok (.aload_n 0, 1) := by decide +kernel
theorem dX12_rentAt_21 : decode cX12_rentAt 21 = .ok (.getfield 7, 3) := by decide +kernel
theorem dX12_rentAt_24 : decode cX12_rentAt 24 = .ok (.bipush 24, 2) := by decide +kernel
theorem dX12_rentAt_26 : decode cX12_rentAt 26 = .ok (.aload_n 0, 1) := by decide +kernel
theorem dX12_rentAt_27 : decode cX12_rentAt 27 = .ok (.getfield 7, 3) := by decide +kernel
theorem dX12_rentAt_30 : decode cX12_rentAt 30 = .ok (.bipush 104, 2) := by decide +kernel
theorem dX12_rentAt_32 : decode cX12_rentAt 32 = .ok (.iload_n 1, 1) := by decide +kernel
theorem dX12_rentAt_33 : decode cX12_rentAt 33 = .ok (.iadd, 1) := by decide +kernel
theorem dX12_rentAt_34 : decode cX12_rentAt 34 = .ok (.iaload, 1) := by decide +kernel
theorem dX12_rentAt_35 : decode cX12_rentAt 35 = .ok (.iadd, 1) := by decide +kernel
theorem dX12_rentAt_36 : decode cX12_rentAt 36 = .ok (.iaload, 1) := by decide +kernel
theorem dX12_rentAt_37 : decode cX12_rentAt 37 = .ok (.ireturn, 1) := by decide +kernel
theorem dX12_paidAhead_0 : decode cX12_paidAhead 0 = .ok (.iload_n 1, 1) := by decide +kernel
theorem dX12_paidAhead_1 : decode cX12_paidAhead 1 = .ok (.ifCond .ne 17, 3) := by decide +kernel
theorem dX12_paidAhead_4 : decode cX12_paidAhead 4 = .ok (.iload_n 2, 1) := by decide +kernel
theorem dX12_paidAhead_5 : decode cX12_paidAhead 5 = .ok (.ifCond .ne 7, 3) := by decide +kernel
theorem dX12_paidAhead_8 : decode cX12_paidAhead 8 = .ok (.iconst 0, 1) := by decide +kernel
theorem dX12_paidAhead_9 : decode cX12_paidAhead 9 = .ok (.goto 23, 3) := by decide +kernel
theorem dX12_paidAhead_12 : decode cX12_paidAhead 12 = .ok (.ldc_w 284, 3) := by decide +kernel
theorem dX12_paidAhead_15 : decode cX12_paidAhead 15 = .ok (.goto 17, 3) := by decide +kernel
theorem dX12_paidAhead_18 : decode cX12_paidAhead 18 = .ok (.aload_n 0, 1) := by decide +kernel
theorem dX12_paidAhead_19 : decode cX12_paidAhead 19 = .ok (.getfield 48, 3) := by decide +kernel
theorem dX12_paidAhead_22 : decode cX12_paidAhead 22 = .ok (.sipush 256, 3) := by decide +kernel
theorem dX12_paidAhead_25 : decode cX12_paidAhead 25 = .ok (.iload_n 1, 1) := by decide +kernel
theorem dX12_paidAhead_26 : decode cX12_paidAhead 26 = .ok (.iconst 1, 1) := by decide +kernel
theorem dX12_paidAhead_27 : decode cX12_paidAhead 27 = .ok (.isub, 1) := by decide +kernel
theorem dX12_paidAhead_28 : decode cX12_paidAhead 28 = .ok (.imul, 1) := by decide +kernel
theorem dX12_paidAhead_29 : decode cX12_paidAhead 29 = .ok (.iload_n 2, 1) := by decide +kernel
theorem dX12_paidAhead_30 : decode cX12_paidAhead 30 = .ok (.iadd, 1) := by decide +kernel
theorem dX12_paidAhead_31 : decode cX12_paidAhead 31 = .ok (.iaload, 1) := by decide +kernel
theorem dX12_paidAhead_32 : decode cX12_paidAhead 32 = .ok (.ireturn, 1) := by decide +kernel
set_option maxRecDepth 20000 in
theorem ggX12_bestAt_X12_paidAhead : GoodIn wsX12_bestAt wsX12_paidAhead := goodIn_r _ [8, 1, 9, 17, 18, 19, 20, 21, 22, 23, 24, 25, 26, 27, 28, 29, 30, 31, 32, 33, 34, 35, 36, 37, 38, 39, 40, 41, 42, 43, 44, 45, 46, 47, 48, 49, 50, 51, 52, 53, 54, 55, 56, 57, 58, 59, 60, 61, 62, 63] (by decide +kernel) (by decide +kernel)
set_option maxRecDepth 20000 in
theorem gX12_bestAt_X12_paidAhead : GoodIn wsX12_bestAt (wsV RX12 285 RX12 yX12_paidAhead wsX12_paidAhead) := goodIn_app (goodIn_of _ (by decide +kernel)) ggX12_bestAt_X12_paidAhead
set_option maxRecDepth 20000 in
theorem ggX12_bestAt_X12_rentAt : GoodIn wsX12_bestAt wsX12_rentAt := goodIn_r _ [13, 2, 14, 15, 7, 16, 17, 18, 19, 20, 21, 22, 23, 24, 25, 26, 27, 28, 29, 30, 31, 32, 33, 34, 35, 36, 37, 38, 39, 40, 41, 42, 43, 44, 45, 46, 47, 48, 49, 50, 51, 52, 53, 54, 55, 56, 57, 58, 59, 60, 61, 62, 63] (by decide +kernel) (by decide +kernel)
set_option maxRecDepth 20000 in
theorem gX12_bestAt_X12_rentAt : GoodIn wsX12_bestAt (wsV RX12 289 RX12 yX12_rentAt wsX12_rentAt) := goodIn_app (goodIn_of _ (by decide +kernel)) ggX12_bestAt_X12_rentAt
theorem dX12_bestAt_0 : decode cX12_bestAt 0 = .ok (.ldc_w 284, 3) := by decide +kernel
theorem dX12_bestAt_3 : decode cX12_bestAt 3 = .ok (.istore_n 3, 1) := by decide +kernel
theorem dX12_bestAt_4 : decode cX12_bestAt 4 = .ok (.iconst 0, 1) := by decide +kernel
theorem dX12_bestAt_5 : decode cX12_bestAt 5 = .ok (.istore 4, 2) := by decide +kernel
theorem dX12_bestAt_7 : decode cX12_bestAt 7 = .ok (.iload 4, 2) := by decide +kernel
theorem dX12_bestAt_9 : decode cX12_bestAt 9 = .ok (.iload_n 1, 1) := by decide +kernel
theorem dX12_bestAt_10 : decode cX12_bestAt 10 = .ok (.ifCond .ne 7, 3) := by decide +kernel
theorem dX12_bestAt_13 : decode cX12_bestAt 13 = .ok (.iconst 1, 1) := by decide +kernel
theorem dX12_bestAt_14 : decode cX12_bestAt 14 = .ok (.goto 11, 3) := by decide +kernel
theorem dX12_bestAt_17 : decode cX12_bestAt 17 = .ok (.iconst 1, 1) := by decide +kernel
theorem dX12_bestAt_18 : decode cX12_bestAt 18 = .ok (.aload_n 0, 1) := by decide +kernel
theorem dX12_bestAt_19 : decode cX12_bestAt 19 = .ok (.getfield 7, 3) := by decide +kernel
theorem dX12_bestAt_22 : decode cX12_bestAt 22 = .ok (.iconst 2, 1) := by decide +kernel
theorem dX12_bestAt_23 : decode cX12_bestAt 23 = .ok (.iaload, 1) := by decide +kernel
theorem dX12_bestAt_24 : decode cX12_bestAt 24 = .ok (.ishl, 1) := by decide +kernel
theorem dX12_bestAt_25 : decode cX12_bestAt 25 = .ok (.if_icmp .ge 58, 3) := by decide +kernel
theorem dX12_bestAt_28 : decode cX12_bestAt 28 = .ok (.aload_n 0, 1) := by decide +kernel
theorem dX12_bestAt_29 : decode cX12_bestAt 29 = .ok (.iload_n 1, 1) := by decide +kernel
theorem dX12_bestAt_30 : decode cX12_bestAt 30 = .ok (.iload 4, 2) := by decide +kernel
theorem dX12_bestAt_32 : decode cX12_bestAt 32 = .ok (.invokevirtual 285, 3) := by decide +kernel
theorem dX12_bestAt_35 : decode cX12_bestAt 35 = .ok (.istore 5, 2) := by decide +kernel
theorem dX12_bestAt_37 : decode cX12_bestAt 37 = .ok (.iload 5, 2) := by decide +kernel
theorem dX12_bestAt_39 : decode cX12_bestAt 39 = .ok (.ldc_w 284, 3) := by decide +kernel
theorem dX12_bestAt_42 : decode cX12_bestAt 42 = .ok (.if_icmp .lt 6, 3) := by decide +kernel
theorem dX12_bestAt_45 : decode cX12_bestAt 45 = .ok (.goto 32, 3) := by decide +kernel
theorem dX12_bestAt_48 : decode cX12_bestAt 48 = .ok (.iload 5, 2) := by decide +kernel
theorem dX12_bestAt_50 : decode cX12_bestAt 50 = .ok (.aload_n 0, 1) := by decide +kernel
theorem dX12_bestAt_51 : decode cX12_bestAt 51 = .ok (.getfield 54, 3) := by decide +kernel
theorem dX12_bestAt_54 : decode cX12_bestAt 54 = .ok (.iload_n 2, 1) := by decide +kernel
theorem dX12_bestAt_55 : decode cX12_bestAt 55 = .ok (.iload 4, 2) := by decide +kernel
theorem dX12_bestAt_57 : decode cX12_bestAt 57 = .ok (.iconst (-1), 1) := by decide +kernel
theorem dX12_bestAt_58 : decode cX12_bestAt 58 = .ok (.ixor, 1) := by decide +kernel
theorem dX12_bestAt_59 : decode cX12_bestAt 59 = .ok (.iand, 1) := by decide +kernel
theorem dX12_bestAt_60 : decode cX12_bestAt 60 = .ok (.iaload, 1) := by decide +kernel
theorem dX12_bestAt_61 : decode cX12_bestAt 61 = .ok (.iadd, 1) := by decide +kernel
theorem dX12_bestAt_62 : decode cX12_bestAt 62 = .ok (.istore 6, 2) := by decide +kernel
theorem dX12_bestAt_64 : decode cX12_bestAt 64 = .ok (.iload 6, 2) := by decide +kernel
theorem dX12_bestAt_66 : decode cX12_bestAt 66 = .ok (.iload_n 3, 1) := by decide +kernel
theorem dX12_bestAt_67 : decode cX12_bestAt 67 = .ok (.if_icmp .ge 8, 3) := by decide +kernel
theorem dX12_bestAt_70 : decode cX12_bestAt 70 = .ok (.iload 6, 2) := by decide +kernel
theorem dX12_bestAt_72 : decode cX12_bestAt 72 = .ok (.goto 4, 3) := by decide +kernel
theorem dX12_bestAt_75 : decode cX12_bestAt 75 = .ok (.iload_n 3, 1) := by decide +kernel
theorem dX12_bestAt_76 : decode cX12_bestAt 76 = .ok (.istore_n 3, 1) := by decide +kernel
theorem dX12_bestAt_77 : decode cX12_bestAt 77 = .ok (.iinc 4 1, 3) := by decide +kernel
theorem dX12_bestAt_80 : decode cX12_bestAt 80 = .ok (.goto (-73), 3) := by decide +kernel
theorem dX12_bestAt_83 : decode cX12_bestAt 83 = .ok (.iload_n 3, 1) := by decide +kernel
theorem dX12_bestAt_84 : decode cX12_bestAt 84 = .ok (.ldc_w 284, 3) := by decide +kernel
theorem dX12_bestAt_87 : decode cX12_bestAt 87 = .ok (.if_icmp .lt 9, 3) := by decide +kernel
theorem dX12_bestAt_90 : decode cX12_bestAt 90 = .ok (.ldc_w 284, 3) := by decide +kernel
theorem dX12_bestAt_93 : decode cX12_bestAt 93 = .ok (.goto 11, 3) := by decide +kernel
theorem dX12_bestAt_96 : decode cX12_bestAt 96 = .ok (.iload_n 3, 1) := by decide +kernel
theorem dX12_bestAt_97 : decode cX12_bestAt 97 = .ok (.aload_n 0, 1) := by decide +kernel
theorem dX12_bestAt_98 : decode cX12_bestAt 98 = .ok (.iload_n 1, 1) := by decide +kernel
theorem dX12_bestAt_99 : decode cX12_bestAt 99 = .ok (.iload_n 2, 1) := by decide +kernel
theorem dX12_bestAt_100 : decode cX12_bestAt 100 = .ok (.invokevirtual 289, 3) := by decide +kernel
theorem dX12_bestAt_103 : decode cX12_bestAt 103 = .ok (.iadd, 1) := by decide +kernel
theorem dX12_bestAt_104 : decode cX12_bestAt 104 = .ok (.ireturn, 1) := by decide +kernel
set_option maxRecDepth 20000 in
theorem ggX12_plans_X12_priceOf : GoodIn wsX12_plans wsX12_priceOf := goodIn_r _ [12, 4, 13, 14, 11, 15, 36, 37, 38, 39, 40, 41, 42, 43, 44, 45, 46, 47, 48, 49, 50, 51, 52, 53, 54, 55, 56, 57, 58, 59, 60, 61, 62, 63, 64, 65, 66, 67, 68, 69, 70, 71, 72, 73, 74, 75, 76, 77, 78, 79, 80, 81, 82] (by decide +kernel) (by decide +kernel)
set_option maxRecDepth 20000 in
theorem gX12_plans_X12_priceOf : GoodIn wsX12_plans (wsV RX12 295 RX12 yX12_priceOf wsX12_priceOf) := goodIn_app (goodIn_of _ (by decide +kernel)) ggX12_plans_X12_priceOf
set_option maxRecDepth 20000 in
theorem ggX12_plans_X12_isPlan : GoodIn wsX12_plans wsX12_isPlan := goodIn_r _ [19, 4, 1, 3, 20, 21, 22, 11, 23, 13, 14, 15, 36, 37, 38, 39, 40, 41, 42, 43, 44, 45, 46, 47, 48, 49, 50, 51, 52, 53, 54, 55, 56, 57, 58, 59, 60, 61, 62, 63, 64, 65, 66, 67, 68, 69, 70, 71, 72, 73, 74, 75, 76, 77, 78, 79, 80, 81, 82] (by decide +kernel) (by decide +kernel)
set_option maxRecDepth 20000 in
theorem gX12_plans_X12_isPlan : GoodIn wsX12_plans (wsV RX12 298 RX12 yX12_isPlan wsX12_isPlan) := goodIn_app (goodIn_of _ (by decide +kernel)) ggX12_plans_X12_isPlan
set_option maxRecDepth 20000 in
theorem ggX12_plans_X12_bestAt : GoodIn wsX12_plans wsX12_bestAt := goodIn_r _ [27, 7, 4, 5, 28, 29, 30, 11, 31, 6, 32, 33, 34, 35, 13, 14, 15, 36, 37, 38, 39, 40, 41, 42, 43, 44, 45, 46, 47, 48, 49, 50, 51, 52, 53, 54, 55, 56, 57, 58, 59, 60, 61, 62, 63, 64, 65, 66, 67, 68, 69, 70, 71, 72, 73, 74, 75, 76, 77, 78, 79, 80, 81, 82] (by decide +kernel) (by decide +kernel)
set_option maxRecDepth 20000 in
theorem gX12_plans_X12_bestAt : GoodIn wsX12_plans (wsV RX12 301 RX12 yX12_bestAt wsX12_bestAt) := goodIn_app (goodIn_of _ (by decide +kernel)) ggX12_plans_X12_bestAt
theorem dX12_plans_0 : decode cX12_plans 0 = .ok (.aload_n 0, 1) := by decide +kernel
theorem dX12_plans_1 : decode cX12_plans 1 = .ok (.iload_n 2, 1) := by decide +kernel
theorem dX12_plans_2 : decode cX12_plans 2 = .ok (.putfield 278, 3) := by decide +kernel
theorem dX12_plans_5 : decode cX12_plans 5 = .ok (.aload_n 0, 1) := by decide +kernel
theorem dX12_plans_6 : decode cX12_plans 6 = .ok (.iload_n 1, 1) := by decide +kernel
theorem dX12_plans_7 : decode cX12_plans 7 = .ok (.putfield 292, 3) := by decide +kernel
theorem dX12_plans_10 : decode cX12_plans 10 = .ok (.aload_n 0, 1) := by decide +kernel
theorem dX12_plans_11 : decode cX12_plans 11 = .ok (.iload_n 3, 1) := by decide +kernel
theorem dX12_plans_12 : decode cX12_plans 12 = .ok (.putfield 281, 3) := by decide +kernel
theorem dX12_plans_15 : decode cX12_plans 15 = .ok (.iconst 0, 1) := by decide +kernel
theorem dX12_plans_16 : decode cX12_plans 16 = .ok (.istore 4, 2) := by decide +kernel
theorem dX12_plans_18 : decode cX12_plans 18 = .ok (.iload 4, 2) := by decide +kernel
theorem dX12_plans_20 : decode cX12_plans 20 = .ok (.iconst 1, 1) := by decide +kernel
theorem dX12_plans_21 : decode cX12_plans 21 = .ok (.aload_n 0, 1) := by decide +kernel
theorem dX12_plans_22 : decode cX12_plans 22 = .ok (.getfield 7, 3) := by decide +kernel
theorem dX12_plans_25 : decode cX12_plans 25 = .ok (.iconst 2, 1) := by decide +kernel
theorem dX12_plans_26 : decode cX12_plans 26 = .ok (.iaload, 1) := by decide +kernel
theorem dX12_plans_27 : decode cX12_plans 27 = .ok (.ishl, 1) := by decide +kernel
theorem dX12_plans_28 : decode cX12_plans 28 = .ok (.if_icmp .ge 22, 3) := by decide +kernel
theorem dX12_plans_31 : decode cX12_plans 31 = .ok (.aload_n 0, 1) := by decide +kernel
theorem dX12_plans_32 : decode cX12_plans 32 = .ok (.getfield 54, 3) := by decide +kernel
theorem dX12_plans_35 : decode cX12_plans 35 = .ok (.iload 4, 2) := by decide +kernel
theorem dX12_plans_37 : decode cX12_plans 37 = .ok (.aload_n 0, 1) := by decide +kernel
theorem dX12_plans_38 : decode cX12_plans 38 = .ok (.iload 4, 2) := by decide +kernel
theorem dX12_plans_40 : decode cX12_plans 40 = .ok (.invokevirtual 295, 3) := by decide +kernel
theorem dX12_plans_43 : decode cX12_plans 43 = .ok (.iastore, 1) := by decide +kernel
theorem dX12_plans_44 : decode cX12_plans 44 = .ok (.iinc 4 1, 3) := by decide +kernel
theorem dX12_plans_47 : decode cX12_plans 47 = .ok (.goto (-29), 3) := by decide +kernel
theorem dX12_plans_50 : decode cX12_plans 50 = .ok (.iconst 0, 1) := by decide +kernel
theorem dX12_plans_51 : decode cX12_plans 51 = .ok (.istore 4, 2) := by decide +kernel
theorem dX12_plans_53 : decode cX12_plans 53 = .ok (.iload 4, 2) := by decide +kernel
theorem dX12_plans_55 : decode cX12_plans 55 = .ok (.iload_n 1, 1) := by decide +kernel
theorem dX12_plans_56 : decode cX12_plans 56 = .ok (.if_icmp .ge 70, 3) := by decide +kernel
theorem dX12_plans_59 : decode cX12_plans 59 = .ok (.iconst 0, 1) := by decide +kernel
theorem dX12_plans_60 : decode cX12_plans 60 = .ok (.istore 5, 2) := by decide +kernel
theorem dX12_plans_62 : decode cX12_plans 62 = .ok (.iload 5, 2) := by decide +kernel
theorem dX12_plans_64 : decode cX12_plans 64 = .ok (.iconst 1, 1) := by decide +kernel
theorem dX12_plans_65 : decode cX12_plans 65 = .ok (.aload_n 0, 1) := by decide +kernel
theorem dX12_plans_66 : decode cX12_plans 66 = .ok (.getfield 7, 3) := by decide +kernel
theorem dX12_plans_69 : decode cX12_plans 69 = .ok (.iconst 2, 1) := by decide +kernel
theorem dX12_plans_70 : decode cX12_plans 70 = .ok (.iaload, 1) := by decide +kernel
theorem dX12_plans_71 : decode cX12_plans 71 = .ok (.ishl, 1) := by decide +kernel
theorem dX12_plans_72 : decode cX12_plans 72 = .ok (.if_icmp .ge 48, 3) := by decide +kernel
theorem dX12_plans_75 : decode cX12_plans 75 = .ok (.aload_n 0, 1) := by decide +kernel
theorem dX12_plans_76 : decode cX12_plans 76 = .ok (.getfield 48, 3) := by decide +kernel
theorem dX12_plans_79 : decode cX12_plans 79 = .ok (.sipush 256, 3) := by decide +kernel
theorem dX12_plans_82 : decode cX12_plans 82 = .ok (.iload 4, 2) := by decide +kernel
theorem dX12_plans_84 : decode cX12_plans 84 = .ok (.imul, 1) := by decide +kernel
theorem dX12_plans_85 : decode cX12_plans 85 = .ok (.iload 5, 2) := by decide +kernel
theorem dX12_plans_87 : decode cX12_plans 87 = .ok (.iadd, 1) := by decide +kernel
theorem dX12_plans_88 : decode cX12_plans 88 = .ok (.aload_n 0, 1) := by decide +kernel
theorem dX12_plans_89 : decode cX12_plans 89 = .ok (.iload 4, 2) := by decide +kernel
theorem dX12_plans_91 : decode cX12_plans 91 = .ok (.iload 5, 2) := by decide +kernel
theorem dX12_plans_93 : decode cX12_plans 93 = .ok (.invokevirtual 298, 3) := by decide +kernel
theorem dX12_plans_96 : decode cX12_plans 96 = .ok (.ifCond .eq 14, 3) := by decide +kernel
theorem dX12_plans_99 : decode cX12_plans 99 = .ok (.aload_n 0, 1) := by decide +kernel
theorem dX12_plans_100 : decode cX12_plans 100 = .ok (.iload 4, 2) := by decide +kernel
theorem dX12_plans_102 : decode cX12_plans 102 = .ok (.iload 5, 2) := by decide +kernel
theorem dX12_plans_104 : decode cX12_plans 104 = .ok (.invokevirtual 301, 3) := by decide +kernel
theorem dX12_plans_107 : decode cX12_plans 107 = .ok (.goto 6, 3) := by decide +kernel
theorem dX12_plans_110 : decode cX12_plans 110 = .ok (.ldc_w 284, 3) := by decide +kernel
theorem dX12_plans_113 : decode cX12_plans 113 = .ok (.iastore, 1) := by decide +kernel
theorem dX12_plans_114 : decode cX12_plans 114 = .ok (.iinc 5 1, 3) := by decide +kernel
theorem dX12_plans_117 : decode cX12_plans 117 = .ok (.goto (-55), 3) := by decide +kernel
theorem dX12_plans_120 : decode cX12_plans 120 = .ok (.iinc 4 1, 3) := by decide +kernel
theorem dX12_plans_123 : decode cX12_plans 123 = .ok (.goto (-70), 3) := by decide +kernel
theorem dX12_plans_126 : decode cX12_plans 126 = .ok (.ldc_w 284, 3) := by decide +kernel
theorem dX12_plans_129 : decode cX12_plans 129 = .ok (.istore 4, 2) := by decide +kernel
theorem dX12_plans_131 : decode cX12_plans 131 = .ok (.iconst 0, 1) := by decide +kernel
theorem dX12_plans_132 : decode cX12_plans 132 = .ok (.istore 5, 2) := by decide +kernel
theorem dX12_plans_134 : decode cX12_plans 134 = .ok (.iload 5, 2) := by decide +kernel
theorem dX12_plans_136 : decode cX12_plans 136 = .ok (.iconst 1, 1) := by decide +kernel
theorem dX12_plans_137 : decode cX12_plans 137 = .ok (.aload_n 0, 1) := by decide +kernel
theorem dX12_plans_138 : decode cX12_plans 138 = .ok (.getfield 7, 3) := by decide +kernel
theorem dX12_plans_141 : decode cX12_plans 141 = .ok (.iconst 2, 1) := by decide +kernel
theorem dX12_plans_142 : decode cX12_plans 142 = .ok (.iaload, 1) := by decide +kernel
theorem dX12_plans_143 : decode cX12_plans 143 = .ok (.ishl, 1) := by decide +kernel
theorem dX12_plans_144 : decode cX12_plans 144 = .ok (.if_icmp .ge 55, 3) := by decide +kernel
theorem dX12_plans_147 : decode cX12_plans 147 = .ok (.iload_n 1, 1) := by decide +kernel
theorem dX12_plans_148 : decode cX12_plans 148 = .ok (.ifCond .le 51, 3) := by decide +kernel
theorem dX12_plans_151 : decode cX12_plans 151 = .ok (.aload_n 0, 1) := by decide +kernel
theorem dX12_plans_152 : decode cX12_plans 152 = .ok (.getfield 48, 3) := by decide +kernel
theorem dX12_plans_155 : decode cX12_plans 155 = .ok (.sipush 256, 3) := by decide +kernel
theorem dX12_plans_158 : decode cX12_plans 158 = .ok (.iload_n 1, 1) := by decide +kernel
theorem dX12_plans_159 : decode cX12_plans 159 = .ok (.iconst 1, 1) := by decide +kernel
theorem dX12_plans_160 : decode cX12_plans 160 = .ok (.isub, 1) := by decide +kernel
theorem dX12_plans_161 : decode cX12_plans 161 = .ok (.imul, 1) := by decide +kernel
theorem dX12_plans_162 : decode cX12_plans 162 = .ok (.iload 5, 2) := by decide +kernel
theorem dX12_plans_164 : decode cX12_plans 164 = .ok (.iadd, 1) := by decide +kernel
theorem dX12_plans_165 : decode cX12_plans 165 = .ok (.iaload, 1) := by decide +kernel
theorem dX12_plans_166 : decode cX12_plans 166 = .ok (.iload 4, 2) := by decide +kernel
theorem dX12_plans_168 : decode cX12_plans 168 = .ok (.if_icmp .ge 21, 3) := by decide +kernel
theorem dX12_plans_171 : decode cX12_plans 171 = .ok (.aload_n 0, 1) := by decide +kernel
theorem dX12_plans_172 : decode cX12_plans 172 = .ok (.getfield 48, 3) := by decide +kernel
theorem dX12_plans_175 : decode cX12_plans 175 = .ok (.sipush 256, 3) := by decide +kernel
theorem dX12_plans_178 : decode cX12_plans 178 = .ok (.iload_n 1, 1) := by decide +kernel
theorem dX12_plans_179 : decode cX12_plans 179 = .ok (.iconst 1, 1) := by decide +kernel
theorem dX12_plans_180 : decode cX12_plans 180 = .ok (.isub, 1) := by decide +kernel
theorem dX12_plans_181 : decode cX12_plans 181 = .ok (.imul, 1) := by decide +kernel
theorem dX12_plans_182 : decode cX12_plans 182 = .ok (.iload 5, 2) := by decide +kernel
theorem dX12_plans_184 : decode cX12_plans 184 = .ok (.iadd, 1) := by decide +kernel
theorem dX12_plans_185 : decode cX12_plans 185 = .ok (.iaload, 1) := by decide +kernel
theorem dX12_plans_186 : decode cX12_plans 186 = .ok (.goto 5, 3) := by decide +kernel
theorem dX12_plans_189 : decode cX12_plans 189 = .ok (.iload 4, 2) := by decide +kernel
theorem dX12_plans_191 : decode cX12_plans 191 = .ok (.istore 4, 2) := by decide +kernel
theorem dX12_plans_193 : decode cX12_plans 193 = .ok (.iinc 5 1, 3) := by decide +kernel
theorem dX12_plans_196 : decode cX12_plans 196 = .ok (.goto (-62), 3) := by decide +kernel
theorem dX12_plans_199 : decode cX12_plans 199 = .ok (.iload_n 1, 1) := by decide +kernel
theorem dX12_plans_200 : decode cX12_plans 200 = .ok (.ifCond .ne 7, 3) := by decide +kernel
theorem dX12_plans_203 : decode cX12_plans 203 = .ok (.iconst 0, 1) := by decide +kernel
theorem dX12_plans_204 : decode cX12_plans 204 = .ok (.goto 5, 3) := by decide +kernel
theorem dX12_plans_207 : decode cX12_plans 207 = .ok (.iload 4, 2) := by decide +kernel
theorem dX12_plans_209 : decode cX12_plans 209 = .ok (.ireturn, 1) := by decide +kernel
set_option maxRecDepth 20000 in
theorem ggX12_goesBack_X12_fits : GoodIn wsX12_goesBack wsX12_fits := goodIn_r _ [8, 3, 9, 1, 2, 10, 11, 12, 7, 13, 14, 15, 16, 17, 18, 19, 20, 21, 22, 23, 24, 25, 26, 27, 28, 29, 30, 31, 32, 33, 34, 35, 36, 37, 38, 39, 40, 41, 42, 43, 44, 45, 46, 47, 48, 49, 50, 51, 52, 53, 54, 55, 56, 57, 58, 59, 60, 61, 62, 63, 64, 65, 66, 67, 68] (by decide +kernel) (by decide +kernel)
set_option maxRecDepth 20000 in
theorem gX12_goesBack_X12_fits : GoodIn wsX12_goesBack (wsV RX12 304 RX12 yX12_fits wsX12_fits) := goodIn_app (goodIn_of _ (by decide +kernel)) ggX12_goesBack_X12_fits
theorem dX12_goesBack_0 : decode cX12_goesBack 0 = .ok (.iload_n 1, 1) := by decide +kernel
theorem dX12_goesBack_1 : decode cX12_goesBack 1 = .ok (.istore_n 2, 1) := by decide +kernel
theorem dX12_goesBack_2 : decode cX12_goesBack 2 = .ok (.aload_n 0, 1) := by decide +kernel
theorem dX12_goesBack_3 : decode cX12_goesBack 3 = .ok (.getfield 292, 3) := by decide +kernel
theorem dX12_goesBack_6 : decode cX12_goesBack 6 = .ok (.iconst 1, 1) := by decide +kernel
theorem dX12_goesBack_7 : decode cX12_goesBack 7 = .ok (.isub, 1) := by decide +kernel
theorem dX12_goesBack_8 : decode cX12_goesBack 8 = .ok (.istore_n 3, 1) := by decide +kernel
theorem dX12_goesBack_9 : decode cX12_goesBack 9 = .ok (.iload_n 3, 1) := by decide +kernel
theorem dX12_goesBack_10 : decode cX12_goesBack 10 = .ok (.ifCond .lt 51, 3) := by decide +kernel
theorem dX12_goesBack_13 : decode cX12_goesBack 13 = .ok (.iconst 0, 1) := by decide +kernel
theorem dX12_goesBack_14 : decode cX12_goesBack 14 = .ok (.istore 4, 2) := by decide +kernel
theorem dX12_goesBack_16 : decode cX12_goesBack 16 = .ok (.aload_n 0, 1) := by decide +kernel
theorem dX12_goesBack_17 : decode cX12_goesBack 17 = .ok (.iload_n 3, 1) := by decide +kernel
theorem dX12_goesBack_18 : decode cX12_goesBack 18 = .ok (.iload 4, 2) := by decide +kernel
theorem dX12_goesBack_20 : decode cX12_goesBack 20 = .ok (.iload_n 2, 1) := by decide +kernel
theorem dX12_goesBack_21 : decode cX12_goesBack 21 = .ok (.invokevirtual 304, 3) := by decide +kernel
theorem dX12_goesBack_24 : decode cX12_goesBack 24 = .ok (.ifCond .ne 9, 3) := by decide +kernel
theorem dX12_goesBack_27 : decode cX12_goesBack 27 = .ok (.iinc 4 1, 3) := by decide +kernel
theorem dX12_goesBack_30 : decode cX12_goesBack 30 = .ok (.goto (-14), 3) := by decide +kernel
theorem dX12_goesBack_33 : decode cX12_goesBack 33 = .ok (.aload_n 0, 1) := by decide +kernel
theorem dX12_goesBack_34 : decode cX12_goesBack 34 = .ok (.getfield 51, 3) := by decide +kernel
theorem dX12_goesBack_37 : decode cX12_goesBack 37 = .ok (.iload_n 3, 1) := by decide +kernel
theorem dX12_goesBack_38 : decode cX12_goesBack 38 = .ok (.iload 4, 2) := by decide +kernel
theorem dX12_goesBack_40 : decode cX12_goesBack 40 = .ok (.iastore, 1) := by decide +kernel
theorem dX12_goesBack_41 : decode cX12_goesBack 41 = .ok (.aload_n 0, 1) := by decide +kernel
theorem dX12_goesBack_42 : decode cX12_goesBack 42 = .ok (.getfield 48, 3) := by decide +kernel
theorem dX12_goesBack_45 : decode cX12_goesBack 45 = .ok (.sipush 256, 3) := by decide +kernel
theorem dX12_goesBack_48 : decode cX12_goesBack 48 = .ok (.iload_n 3, 1) := by decide +kernel
theorem dX12_goesBack_49 : decode cX12_goesBack 49 = .ok (.imul, 1) := by decide +kernel
theorem dX12_goesBack_50 : decode cX12_goesBack 50 = .ok (.iload 4, 2) := by decide +kernel
theorem dX12_goesBack_52 : decode cX12_goesBack 52 = .ok (.iadd, 1) := by decide +kernel
theorem dX12_goesBack_53 : decode cX12_goesBack 53 = .ok (.iaload, 1) := by decide +kernel
theorem dX12_goesBack_54 : decode cX12_goesBack 54 = .ok (.istore_n 2, 1) := by decide +kernel
theorem dX12_goesBack_55 : decode cX12_goesBack 55 = .ok (.iinc 3 (-1), 3) := by decide +kernel
theorem dX12_goesBack_58 : decode cX12_goesBack 58 = .ok (.goto (-49), 3) := by decide +kernel
theorem dX12_goesBack_61 : decode cX12_goesBack 61 = .ok (.return_, 1) := by decide +kernel
set_option maxRecDepth 20000 in
theorem ggX12_fits_X12_priceOf : GoodIn wsX12_fits wsX12_priceOf := goodIn_r _ [9, 10, 11, 12, 8, 13, 18, 19, 20, 21, 22, 23, 24, 25, 26, 27, 28, 29, 30, 31, 32, 33, 34, 35, 36, 37, 38, 39, 40, 41, 42, 43, 44, 45, 46, 47, 48, 49, 50, 51, 52, 53, 54, 55, 56, 57, 58, 59, 60, 61, 62, 63, 64] (by decide +kernel) (by decide +kernel)
set_option maxRecDepth 20000 in
theorem gX12_fits_X12_priceOf : GoodIn wsX12_fits (wsV RX12 295 RX12 yX12_priceOf wsX12_priceOf) := goodIn_app (goodIn_of _ (by decide +kernel)) ggX12_fits_X12_priceOf
set_option maxRecDepth 20000 in
theorem ggX12_fits_X12_rentAt : GoodIn wsX12_fits wsX12_rentAt := goodIn_r _ [17, 10, 11, 12, 8, 13, 18, 19, 20, 21, 22, 23, 24, 25, 26, 27, 28, 29, 30, 31, 32, 33, 34, 35, 36, 37, 38, 39, 40, 41, 42, 43, 44, 45, 46, 47, 48, 49, 50, 51, 52, 53, 54, 55, 56, 57, 58, 59, 60, 61, 62, 63, 64] (by decide +kernel) (by decide +kernel)
set_option maxRecDepth 20000 in
theorem gX12_fits_X12_rentAt : GoodIn wsX12_fits (wsV RX12 289 RX12 yX12_rentAt wsX12_rentAt) := goodIn_app (goodIn_of _ (by decide +kernel)) ggX12_fits_X12_rentAt
theorem dX12_fits_0 : decode cX12_fits 0 = .ok (.aload_n 0, 1) := by decide +kernel
theorem dX12_fits_1 : decode cX12_fits 1 = .ok (.getfield 48, 3) := by decide +kernel
theorem dX12_fits_4 : decode cX12_fits 4 = .ok (.sipush 256, 3) := by decide +kernel
theorem dX12_fits_7 : decode cX12_fits 7 = .ok (.iload_n 1, 1) := by decide +kernel
theorem dX12_fits_8 : decode cX12_fits 8 = .ok (.imul, 1) := by decide +kernel
theorem dX12_fits_9 : decode cX12_fits 9 = .ok (.iload_n 2, 1) := by decide +kernel
theorem dX12_fits_10 : decode cX12_fits 10 = .ok (.iadd, 1) := by decide +kernel
theorem dX12_fits_11 : decode cX12_fits 11 = .ok (.iaload, 1) := by decide +kernel
theorem dX12_fits_12 : decode cX12_fits 12 = .ok (.ldc_w 284, 3) := by decide +kernel
theorem dX12_fits_15 : decode cX12_fits 15 = .ok (.if_icmp .lt 5, 3) := by decide +kernel
theorem dX12_fits_18 : decode cX12_fits 18 = .ok (.iconst 0, 1) := by decide +kernel
theorem dX12_fits_19 : decode cX12_fits 19 = .ok (.ireturn, 1) := by decide +kernel
theorem dX12_fits_20 : decode cX12_fits 20 = .ok (.iload_n 1, 1) := by decide +kernel
theorem dX12_fits_21 : decode cX12_fits 21 = .ok (.aload_n 0, 1) := by decide +kernel
theorem dX12_fits_22 : decode cX12_fits 22 = .ok (.getfield 292, 3) := by decide +kernel
theorem dX12_fits_25 : decode cX12_fits 25 = .ok (.iconst 1, 1) := by decide +kernel
theorem dX12_fits_26 : decode cX12_fits 26 = .ok (.isub, 1) := by decide +kernel
theorem dX12_fits_27 : decode cX12_fits 27 = .ok (.if_icmp .ne 25, 3) := by decide +kernel
theorem dX12_fits_30 : decode cX12_fits 30 = .ok (.aload_n 0, 1) := by decide +kernel
theorem dX12_fits_31 : decode cX12_fits 31 = .ok (.getfield 48, 3) := by decide +kernel
theorem dX12_fits_34 : decode cX12_fits 34 = .ok (.sipush 256, 3) := by decide +kernel
theorem dX12_fits_37 : decode cX12_fits 37 = .ok (.iload_n 1, 1) := by decide +kernel
theorem dX12_fits_38 : decode cX12_fits 38 = .ok (.imul, 1) := by decide +kernel
theorem dX12_fits_39 : decode cX12_fits 39 = .ok (.iload_n 2, 1) := by decide +kernel
theorem dX12_fits_40 : decode cX12_fits 40 = .ok (.iadd, 1) := by decide +kernel
theorem dX12_fits_41 : decode cX12_fits 41 = .ok (.iaload, 1) := by decide +kernel
theorem dX12_fits_42 : decode cX12_fits 42 = .ok (.iload_n 3, 1) := by decide +kernel
theorem dX12_fits_43 : decode cX12_fits 43 = .ok (.if_icmp .ne 7, 3) := by decide +kernel
theorem dX12_fits_46 : decode cX12_fits 46 = .ok (.iconst 1, 1) := by decide +kernel
theorem dX12_fits_47 : decode cX12_fits 47 = .ok (.goto 4, 3) := by decide +kernel
theorem dX12_fits_50 : decode cX12_fits 50 = .ok (.iconst 0, 1) := by decide +kernel
theorem dX12_fits_51 : decode cX12_fits 51 = .ok (.ireturn, 1) := by decide +kernel
theorem dX12_fits_52 : decode cX12_fits 52 = .ok (.aload_n 0, 1) := by decide +kernel
theorem dX12_fits_53 : decode cX12_fits 53 = .ok (.getfield 51, 3) := by decide +kernel
theorem dX12_fits_56 : decode cX12_fits 56 = .ok (.iload_n 1, 1) := by decide +kernel
theorem dX12_fits_57 : decode cX12_fits 57 = .ok (.iconst 1, 1) := by decide +kernel
theorem dX12_fits_58 : decode cX12_fits 58 = .ok (.iadd, 1) := by decide +kernel
theorem dX12_fits_59 : decode cX12_fits 59 = .ok (.iaload, 1) := by decide +kernel
theorem dX12_fits_60 : decode cX12_fits 60 = .ok (.istore 4, 2) := by decide +kernel
theorem dX12_fits_62 : decode cX12_fits 62 = .ok (.aload_n 0, 1) := by decide +kernel
theorem dX12_fits_63 : decode cX12_fits 63 = .ok (.getfield 48, 3) := by decide +kernel
theorem dX12_fits_66 : decode cX12_fits 66 = .ok (.sipush 256, 3) := by decide +kernel
theorem dX12_fits_69 : decode cX12_fits 69 = .ok (.iload_n 1, 1) := by decide +kernel
theorem dX12_fits_70 : decode cX12_fits 70 = .ok (.imul, 1) := by decide +kernel
theorem dX12_fits_71 : decode cX12_fits 71 = .ok (.iload_n 2, 1) := by decide +kernel
theorem dX12_fits_72 : decode cX12_fits 72 = .ok (.iadd, 1) := by decide +kernel
theorem dX12_fits_73 : decode cX12_fits 73 = .ok (.iaload, 1) := by decide +kernel
theorem dX12_fits_74 : decode cX12_fits 74 = .ok (.aload_n 0, 1) := by decide +kernel
theorem dX12_fits_75 : decode cX12_fits 75 = .ok (.iload 4, 2) := by decide +kernel
theorem dX12_fits_77 : decode cX12_fits 77 = .ok (.iload_n 2, 1) := by decide +kernel
theorem dX12_fits_78 : decode cX12_fits 78 = .ok (.iconst (-1), 1) := by decide +kernel
theorem dX12_fits_79 : decode cX12_fits 79 = .ok (.ixor, 1) := by decide +kernel
theorem dX12_fits_80 : decode cX12_fits 80 = .ok (.iand, 1) := by decide +kernel
theorem dX12_fits_81 : decode cX12_fits 81 = .ok (.invokevirtual 295, 3) := by decide +kernel
theorem dX12_fits_84 : decode cX12_fits 84 = .ok (.iadd, 1) := by decide +kernel
theorem dX12_fits_85 : decode cX12_fits 85 = .ok (.aload_n 0, 1) := by decide +kernel
theorem dX12_fits_86 : decode cX12_fits 86 = .ok (.iload_n 1, 1) := by decide +kernel
theorem dX12_fits_87 : decode cX12_fits 87 = .ok (.iconst 1, 1) := by decide +kernel
theorem dX12_fits_88 : decode cX12_fits 88 = .ok (.iadd, 1) := by decide +kernel
theorem dX12_fits_89 : decode cX12_fits 89 = .ok (.iload 4, 2) := by decide +kernel
theorem dX12_fits_91 : decode cX12_fits 91 = .ok (.invokevirtual 289, 3) := by decide +kernel
theorem dX12_fits_94 : decode cX12_fits 94 = .ok (.iadd, 1) := by decide +kernel
theorem dX12_fits_95 : decode cX12_fits 95 = .ok (.iload_n 3, 1) := by decide +kernel
theorem dX12_fits_96 : decode cX12_fits 96 = .ok (.if_icmp .ne 7, 3) := by decide +kernel
theorem dX12_fits_99 : decode cX12_fits 99 = .ok (.iconst 1, 1) := by decide +kernel
theorem dX12_fits_100 : decode cX12_fits 100 = .ok (.goto 4, 3) := by decide +kernel
theorem dX12_fits_103 : decode cX12_fits 103 = .ok (.iconst 0, 1) := by decide +kernel
theorem dX12_fits_104 : decode cX12_fits 104 = .ok (.ireturn, 1) := by decide +kernel
set_option maxRecDepth 20000 in
theorem ggX12_plansAll_X12_plans : GoodIn wsX12_plansAll wsX12_plans := goodIn_r _ [6, 7, 8, 9, 1, 10, 11, 12, 13, 14, 15, 5, 16, 17, 18, 19, 20, 21, 22, 23, 24, 25, 26, 27, 28, 29, 30, 31, 32, 33, 34, 35, 36, 37, 38, 39, 49, 50, 51, 52, 53, 54, 55, 56, 57, 58, 59, 60, 61, 62, 63, 64, 65, 66, 67, 68, 69, 70, 71, 72, 73, 74, 75, 76, 77, 78, 79, 80, 81, 82, 83, 84, 85, 86, 87, 88, 89, 90, 91, 92, 93, 94, 95] (by decide +kernel) (by decide +kernel)
set_option maxRecDepth 20000 in
theorem gX12_plansAll_X12_plans : GoodIn wsX12_plansAll (wsV RX12 307 RX12 yX12_plans wsX12_plans) := goodIn_app (goodIn_of _ (by decide +kernel)) ggX12_plansAll_X12_plans
set_option maxRecDepth 20000 in
theorem ggX12_plansAll_X12_goesBack : GoodIn wsX12_plansAll wsX12_goesBack := goodIn_r _ [43, 8, 44, 11, 45, 46, 47, 5, 48, 12, 13, 14, 15, 16, 1, 17, 18, 19, 36, 37, 38, 39, 49, 50, 51, 52, 53, 54, 55, 56, 57, 58, 59, 60, 61, 62, 63, 64, 65, 66, 67, 68, 69, 70, 71, 72, 73, 74, 75, 76, 77, 78, 79, 80, 81, 82, 83, 84, 85, 86, 87, 88, 89, 90, 91, 92, 93, 94, 95] (by decide +kernel) (by decide +kernel)
set_option maxRecDepth 20000 in
theorem gX12_plansAll_X12_goesBack : GoodIn wsX12_plansAll (wsV RX12 311 RX12 yX12_goesBack wsX12_goesBack) := goodIn_app (goodIn_of _ (by decide +kernel)) ggX12_plansAll_X12_goesBack
theorem dX12_plansAll_0 : decode cX12_plansAll 0 = .ok (.aload_n 0, 1) := by decide +kernel
theorem dX12_plansAll_1 : decode cX12_plansAll 1 = .ok (.getfield 7, 3) := by decide +kernel
theorem dX12_plansAll_4 : decode cX12_plansAll 4 = .ok (.bipush 7, 2) := by decide +kernel
theorem dX12_plansAll_6 : decode cX12_plansAll 6 = .ok (.iaload, 1) := by decide +kernel
theorem dX12_plansAll_7 : decode cX12_plansAll 7 = .ok (.ifCond .ne 5, 3) := by decide +kernel
theorem dX12_plansAll_10 : decode cX12_plansAll 10 = .ok (.iconst 0, 1) := by decide +kernel
theorem dX12_plansAll_11 : decode cX12_plansAll 11 = .ok (.ireturn, 1) := by decide +kernel
theorem dX12_plansAll_12 : decode cX12_plansAll 12 = .ok (.aload_n 0, 1) := by decide +kernel
theorem dX12_plansAll_13 : decode cX12_plansAll 13 = .ok (.aload_n 0, 1) := by decide +kernel
theorem dX12_plansAll_14 : decode cX12_plansAll 14 = .ok (.aload_n 0, 1) := by decide +kernel
theorem dX12_plansAll_15 : decode cX12_plansAll 15 = .ok (.getfield 7, 3) := by decide +kernel
theorem dX12_plansAll_18 : decode cX12_plansAll 18 = .ok (.bipush 7, 2) := by decide +kernel
theorem dX12_plansAll_20 : decode cX12_plansAll 20 = .ok (.iaload, 1) := by decide +kernel
theorem dX12_plansAll_21 : decode cX12_plansAll 21 = .ok (.aload_n 0, 1) := by decide +kernel
theorem dX12_plansAll_22 : decode cX12_plansAll 22 = .ok (.getfield 7, 3) := by decide +kernel
theorem dX12_plansAll_25 : decode cX12_plansAll 25 = .ok (.iconst 0, 1) := by decide +kernel
theorem dX12_plansAll_26 : decode cX12_plansAll 26 = .ok (.iaload, 1) := by decide +kernel
theorem dX12_plansAll_27 : decode cX12_plansAll 27 = .ok (.iconst 0, 1) := by decide +kernel
theorem dX12_plansAll_28 : decode cX12_plansAll 28 = .ok (.invokevirtual 307, 3) := by decide +kernel
theorem dX12_plansAll_31 : decode cX12_plansAll 31 = .ok (.invokevirtual 311, 3) := by decide +kernel
theorem dX12_plansAll_34 : decode cX12_plansAll 34 = .ok (.iconst 1, 1) := by decide +kernel
theorem dX12_plansAll_35 : decode cX12_plansAll 35 = .ok (.ireturn, 1) := by decide +kernel
set_option maxRecDepth 20000 in
theorem ggX12_best_X12_plans : GoodIn wsX12_best wsX12_plans := goodIn_r _ [6, 7, 8, 9, 1, 10, 11, 12, 13, 14, 15, 5, 16, 17, 18, 19, 20, 21, 22, 23, 24, 25, 26, 27, 28, 29, 30, 31, 32, 33, 34, 35, 36, 37, 38, 39, 40, 41, 42, 43, 44, 45, 46, 47, 48, 49, 50, 51, 52, 53, 54, 55, 56, 57, 58, 59, 60, 61, 62, 63, 64, 65, 66, 67, 68, 69, 70, 71, 72, 73, 74, 75, 76, 77, 78, 79, 80, 81, 82, 83, 84, 85, 86] (by decide +kernel) (by decide +kernel)
set_option maxRecDepth 20000 in
theorem gX12_best_X12_plans : GoodIn wsX12_best (wsV RX12 307 RX12 yX12_plans wsX12_plans) := goodIn_app (goodIn_of _ (by decide +kernel)) ggX12_best_X12_plans
theorem dX12_best_0 : decode cX12_best 0 = .ok (.aload_n 0, 1) := by decide +kernel
theorem dX12_best_1 : decode cX12_best 1 = .ok (.getfield 7, 3) := by decide +kernel
theorem dX12_best_4 : decode cX12_best 4 = .ok (.bipush 7, 2) := by decide +kernel
theorem dX12_best_6 : decode cX12_best 6 = .ok (.iaload, 1) := by decide +kernel
theorem dX12_best_7 : decode cX12_best 7 = .ok (.ifCond .ne 7, 3) := by decide +kernel
theorem dX12_best_10 : decode cX12_best 10 = .ok (.iconst (-1), 1) := by decide +kernel
theorem dX12_best_11 : decode cX12_best 11 = .ok (.goto 21, 3) := by decide +kernel
theorem dX12_best_14 : decode cX12_best 14 = .ok (.aload_n 0, 1) := by decide +kernel
theorem dX12_best_15 : decode cX12_best 15 = .ok (.aload_n 0, 1) := by decide +kernel
theorem dX12_best_16 : decode cX12_best 16 = .ok (.getfield 7, 3) := by decide +kernel
theorem dX12_best_19 : decode cX12_best 19 = .ok (.bipush 7, 2) := by decide +kernel
theorem dX12_best_21 : decode cX12_best 21 = .ok (.iaload, 1) := by decide +kernel
theorem dX12_best_22 : decode cX12_best 22 = .ok (.aload_n 0, 1) := by decide +kernel
theorem dX12_best_23 : decode cX12_best 23 = .ok (.getfield 7, 3) := by decide +kernel
theorem dX12_best_26 : decode cX12_best 26 = .ok (.iconst 0, 1) := by decide +kernel
theorem dX12_best_27 : decode cX12_best 27 = .ok (.iaload, 1) := by decide +kernel
theorem dX12_best_28 : decode cX12_best 28 = .ok (.iconst 0, 1) := by decide +kernel
theorem dX12_best_29 : decode cX12_best 29 = .ok (.invokevirtual 307, 3) := by decide +kernel
theorem dX12_best_32 : decode cX12_best 32 = .ok (.ireturn, 1) := by decide +kernel
set_option maxRecDepth 20000 in
theorem ggX12_paidAt_X12_priceOf : GoodIn wsX12_paidAt wsX12_priceOf := goodIn_r _ [6, 7, 8, 9, 5, 10, 15, 16, 17, 18, 19, 20, 21, 22, 23, 24, 25, 26, 27, 28, 29, 30, 31, 32, 33, 34, 35, 36, 37, 38, 39, 40, 41, 42, 43, 44, 45, 46, 47, 48, 49, 50, 51, 52, 53, 54, 55, 56, 57, 58, 59, 60, 61] (by decide +kernel) (by decide +kernel)
set_option maxRecDepth 20000 in
theorem gX12_paidAt_X12_priceOf : GoodIn wsX12_paidAt (wsV RX12 295 RX12 yX12_priceOf wsX12_priceOf) := goodIn_app (goodIn_of _ (by decide +kernel)) ggX12_paidAt_X12_priceOf
set_option maxRecDepth 20000 in
theorem ggX12_paidAt_X12_rentAt : GoodIn wsX12_paidAt wsX12_rentAt := goodIn_r _ [14, 7, 8, 9, 5, 10, 15, 16, 17, 18, 19, 20, 21, 22, 23, 24, 25, 26, 27, 28, 29, 30, 31, 32, 33, 34, 35, 36, 37, 38, 39, 40, 41, 42, 43, 44, 45, 46, 47, 48, 49, 50, 51, 52, 53, 54, 55, 56, 57, 58, 59, 60, 61] (by decide +kernel) (by decide +kernel)
set_option maxRecDepth 20000 in
theorem gX12_paidAt_X12_rentAt : GoodIn wsX12_paidAt (wsV RX12 289 RX12 yX12_rentAt wsX12_rentAt) := goodIn_app (goodIn_of _ (by decide +kernel)) ggX12_paidAt_X12_rentAt
theorem dX12_paidAt_0 : decode cX12_paidAt 0 = .ok (.aload_n 0, 1) := by decide +kernel
theorem dX12_paidAt_1 : decode cX12_paidAt 1 = .ok (.aload_n 0, 1) := by decide +kernel
theorem dX12_paidAt_2 : decode cX12_paidAt 2 = .ok (.getfield 51, 3) := by decide +kernel
theorem dX12_paidAt_5 : decode cX12_paidAt 5 = .ok (.iload_n 1, 1) := by decide +kernel
theorem dX12_paidAt_6 : decode cX12_paidAt 6 = .ok (.iaload, 1) := by decide +kernel
theorem dX12_paidAt_7 : decode cX12_paidAt 7 = .ok (.iload_n 1, 1) := by decide +kernel
theorem dX12_paidAt_8 : decode cX12_paidAt 8 = .ok (.ifCond .ne 7, 3) := by decide +kernel
theorem dX12_paidAt_11 : decode cX12_paidAt 11 = .ok (.iconst 0, 1) := by decide +kernel
theorem dX12_paidAt_12 : decode cX12_paidAt 12 = .ok (.goto 11, 3) := by decide +kernel
theorem dX12_paidAt_15 : decode cX12_paidAt 15 = .ok (.aload_n 0, 1) := by decide +kernel
theorem dX12_paidAt_16 : decode cX12_paidAt 16 = .ok (.getfield 51, 3) := by decide +kernel
theorem dX12_paidAt_19 : decode cX12_paidAt 19 = .ok (.iload_n 1, 1) := by decide +kernel
theorem dX12_paidAt_20 : decode cX12_paidAt 20 = .ok (.iconst 1, 1) := by decide +kernel
theorem dX12_paidAt_21 : decode cX12_paidAt 21 = .ok (.isub, 1) := by decide +kernel
theorem dX12_paidAt_22 : decode cX12_paidAt 22 = .ok (.iaload, 1) := by decide +kernel
theorem dX12_paidAt_23 : decode cX12_paidAt 23 = .ok (.iconst (-1), 1) := by decide +kernel
theorem dX12_paidAt_24 : decode cX12_paidAt 24 = .ok (.ixor, 1) := by decide +kernel
theorem dX12_paidAt_25 : decode cX12_paidAt 25 = .ok (.iand, 1) := by decide +kernel
theorem dX12_paidAt_26 : decode cX12_paidAt 26 = .ok (.invokevirtual 295, 3) := by decide +kernel
theorem dX12_paidAt_29 : decode cX12_paidAt 29 = .ok (.aload_n 0, 1) := by decide +kernel
theorem dX12_paidAt_30 : decode cX12_paidAt 30 = .ok (.iload_n 1, 1) := by decide +kernel
theorem dX12_paidAt_31 : decode cX12_paidAt 31 = .ok (.aload_n 0, 1) := by decide +kernel
theorem dX12_paidAt_32 : decode cX12_paidAt 32 = .ok (.getfield 51, 3) := by decide +kernel
theorem dX12_paidAt_35 : decode cX12_paidAt 35 = .ok (.iload_n 1, 1) := by decide +kernel
theorem dX12_paidAt_36 : decode cX12_paidAt 36 = .ok (.iaload, 1) := by decide +kernel
theorem dX12_paidAt_37 : decode cX12_paidAt 37 = .ok (.invokevirtual 289, 3) := by decide +kernel
theorem dX12_paidAt_40 : decode cX12_paidAt 40 = .ok (.iadd, 1) := by decide +kernel
theorem dX12_paidAt_41 : decode cX12_paidAt 41 = .ok (.ireturn, 1) := by decide +kernel
set_option maxRecDepth 20000 in
theorem ggX12_plan_X12_isLogged : GoodIn wsX12_plan wsX12_isLogged := goodIn_r _ [6, 7, 8, 9, 5, 10, 64, 65, 66, 67, 68, 69, 70, 71, 72, 73, 74, 75, 76, 77, 78, 79, 80, 81, 82, 83, 84, 85, 86, 87, 88, 89, 90, 91, 92, 93, 94, 95, 96, 97, 98, 99, 100, 101, 102, 103, 104, 105, 106, 107, 108, 109, 110] (by decide +kernel) (by decide +kernel)
set_option maxRecDepth 20000 in
theorem gX12_plan_X12_isLogged : GoodIn wsX12_plan (wsV RX12 266 RX12 yX12_isLogged wsX12_isLogged) := goodIn_app (goodIn_of _ (by decide +kernel)) ggX12_plan_X12_isLogged
set_option maxRecDepth 20000 in
theorem ggX12_plan_X12_isIn : GoodIn wsX12_plan wsX12_isIn := goodIn_r _ [10] (by decide +kernel) (by decide +kernel)
set_option maxRecDepth 20000 in
theorem gX12_plan_X12_isIn : GoodIn wsX12_plan (va_wsS RX12 83 yX12_isIn wsX12_isIn) := goodIn_app (goodIn_of _ (by decide +kernel)) ggX12_plan_X12_isIn
set_option maxRecDepth 20000 in
theorem ggX12_plan_X12_plansAll : GoodIn wsX12_plan wsX12_plansAll := goodIn_r _ [14, 7, 15, 16, 17, 5, 18, 19, 20, 21, 22, 23, 24, 25, 26, 27, 28, 29, 30, 31, 32, 33, 34, 35, 36, 37, 38, 39, 40, 41, 42, 43, 44, 45, 46, 47, 48, 49, 50, 51, 52, 53, 54, 55, 1, 56, 57, 58, 59, 64, 65, 66, 67, 68, 69, 70, 71, 72, 73, 74, 75, 76, 77, 78, 79, 80, 81, 82, 83, 84, 85, 86, 87, 88, 89, 90, 91, 92, 93, 94, 95, 96, 97, 98, 99, 100, 101, 102, 103, 104, 105, 106, 107, 108, 109, 110] (by decide +kernel) (by decide +kernel)
set_option maxRecDepth 20000 in
theorem gX12_plan_X12_plansAll : GoodIn wsX12_plan (wsV RX12 314 RX12 yX12_plansAll wsX12_plansAll) := goodIn_app (goodIn_of _ (by decide +kernel)) ggX12_plan_X12_plansAll
set_option maxRecDepth 20000 in
theorem ggX12_plan_X12_paidAt : GoodIn wsX12_plan wsX12_paidAt := goodIn_r _ [63, 1, 25, 26, 27, 5, 28, 7, 29, 30, 31, 48, 49, 50, 51, 64, 65, 66, 67, 68, 69, 70, 71, 72, 73, 74, 75, 76, 77, 78, 79, 80, 81, 82, 83, 84, 85, 86, 87, 88, 89, 90, 91, 92, 93, 94, 95, 96, 97, 98, 99, 100, 101, 102, 103, 104, 105, 106, 107, 108, 109, 110] (by decide +kernel) (by decide +kernel)
set_option maxRecDepth 20000 in
theorem gX12_plan_X12_paidAt : GoodIn wsX12_plan (wsV RX12 317 RX12 yX12_paidAt wsX12_paidAt) := goodIn_app (goodIn_of _ (by decide +kernel)) ggX12_plan_X12_paidAt
theorem dX12_plan_0 : decode cX12_plan 0 = .ok (.aload_n 0, 1) := by decide +kernel
theorem dX12_plan_1 : decode cX12_plan 1 = .ok (.iload_n 1, 1) := by decide +kernel
theorem dX12_plan_2 : decode cX12_plan 2 = .ok (.invokevirtual 266, 3) := by decide +kernel
theorem dX12_plan_5 : decode cX12_plan 5 = .ok (.ifCond .eq 12, 3) := by decide +kernel
theorem dX12_plan_8 : decode cX12_plan 8 = .ok (.iload_n 2, 1) := by decide +kernel
theorem dX12_plan_9 : decode cX12_plan 9 = .ok (.iconst 0, 1) := by decide +kernel
theorem dX12_plan_10 : decode cX12_plan 10 = .ok (.iconst 1, 1) := by decide +kernel
theorem dX12_plan_11 : decode cX12_plan 11 = .ok (.invokestatic 83, 3) := by decide +kernel
theorem dX12_plan_14 : decode cX12_plan 14 = .ok (.ifCond .ne 5, 3) := by decide +kernel
theorem dX12_plan_17 : decode cX12_plan 17 = .ok (.iconst (-1), 1) := by decide +kernel
theorem dX12_plan_18 : decode cX12_plan 18 = .ok (.ireturn, 1) := by decide +kernel
theorem dX12_plan_19 : decode cX12_plan 19 = .ok (.aload_n 0, 1) := by decide +kernel
theorem dX12_plan_20 : decode cX12_plan 20 = .ok (.invokevirtual 314, 3) := by decide +kernel
theorem dX12_plan_23 : decode cX12_plan 23 = .ok (.pop, 1) := by decide +kernel
theorem dX12_plan_24 : decode cX12_plan 24 = .ok (.iload_n 2, 1) := by decide +kernel
theorem dX12_plan_25 : decode cX12_plan 25 = .ok (.ifCond .ne 11, 3) := by decide +kernel
theorem dX12_plan_28 : decode cX12_plan 28 = .ok (.aload_n 0, 1) := by decide +kernel
theorem dX12_plan_29 : decode cX12_plan 29 = .ok (.iload_n 1, 1) := by decide +kernel
theorem dX12_plan_30 : decode cX12_plan 30 = .ok (.invokevirtual 317, 3) := by decide +kernel
theorem dX12_plan_33 : decode cX12_plan 33 = .ok (.goto 9, 3) := by decide +kernel
theorem dX12_plan_36 : decode cX12_plan 36 = .ok (.aload_n 0, 1) := by decide +kernel
theorem dX12_plan_37 : decode cX12_plan 37 = .ok (.getfield 51, 3) := by decide +kernel
theorem dX12_plan_40 : decode cX12_plan 40 = .ok (.iload_n 1, 1) := by decide +kernel
theorem dX12_plan_41 : decode cX12_plan 41 = .ok (.iaload, 1) := by decide +kernel
theorem dX12_plan_42 : decode cX12_plan 42 = .ok (.ireturn, 1) := by decide +kernel
set_option maxRecDepth 20000 in
theorem ggX12_potentialAt_X12_bitOf : GoodIn wsX12_potentialAt wsX12_bitOf := goodIn_r _ [6] (by decide +kernel) (by decide +kernel)
set_option maxRecDepth 20000 in
theorem gX12_potentialAt_X12_bitOf : GoodIn wsX12_potentialAt (va_wsS RX12 196 yX12_bitOf wsX12_bitOf) := goodIn_app (goodIn_of _ (by decide +kernel)) ggX12_potentialAt_X12_bitOf
theorem dX12_potentialAt_0 : decode cX12_potentialAt 0 = .ok (.iload_n 1, 1) := by decide +kernel
theorem dX12_potentialAt_1 : decode cX12_potentialAt 1 = .ok (.ifCond .ge 5, 3) := by decide +kernel
theorem dX12_potentialAt_4 : decode cX12_potentialAt 4 = .ok (.iconst 0, 1) := by decide +kernel
theorem dX12_potentialAt_5 : decode cX12_potentialAt 5 = .ok (.ireturn, 1) := by decide +kernel
theorem dX12_potentialAt_6 : decode cX12_potentialAt 6 = .ok (.iconst 0, 1) := by decide +kernel
theorem dX12_potentialAt_7 : decode cX12_potentialAt 7 = .ok (.istore_n 2, 1) := by decide +kernel
theorem dX12_potentialAt_8 : decode cX12_potentialAt 8 = .ok (.iconst 0, 1) := by decide +kernel
theorem dX12_potentialAt_9 : decode cX12_potentialAt 9 = .ok (.istore_n 3, 1) := by decide +kernel
theorem dX12_potentialAt_10 : decode cX12_potentialAt 10 = .ok (.iload_n 3, 1) := by decide +kernel
theorem dX12_potentialAt_11 : decode cX12_potentialAt 11 = .ok (.aload_n 0, 1) := by decide +kernel
theorem dX12_potentialAt_12 : decode cX12_potentialAt 12 = .ok (.getfield 7, 3) := by decide +kernel
theorem dX12_potentialAt_15 : decode cX12_potentialAt 15 = .ok (.iconst 2, 1) := by decide +kernel
theorem dX12_potentialAt_16 : decode cX12_potentialAt 16 = .ok (.iaload, 1) := by decide +kernel
theorem dX12_potentialAt_17 : decode cX12_potentialAt 17 = .ok (.if_icmp .ge 134, 3) := by decide +kernel
theorem dX12_potentialAt_20 : decode cX12_potentialAt 20 = .ok (.aload_n 0, 1) := by decide +kernel
theorem dX12_potentialAt_21 : decode cX12_potentialAt 21 = .ok (.getfield 7, 3) := by decide +kernel
theorem dX12_potentialAt_24 : decode cX12_potentialAt 24 = .ok (.sipush 224, 3) := by decide +kernel
theorem dX12_potentialAt_27 : decode cX12_potentialAt 27 = .ok (.bipush 8, 2) := by decide +kernel
theorem dX12_potentialAt_29 : decode cX12_potentialAt 29 = .ok (.iload_n 1, 1) := by decide +kernel
theorem dX12_potentialAt_30 : decode cX12_potentialAt 30 = .ok (.imul, 1) := by decide +kernel
theorem dX12_potentialAt_31 : decode cX12_potentialAt 31 = .ok (.iadd, 1) := by decide +kernel
theorem dX12_potentialAt_32 : decode cX12_potentialAt 32 = .ok (.iload_n 3, 1) := by decide +kernel
theorem dX12_potentialAt_33 : decode cX12_potentialAt 33 = .ok (.iadd, 1) := by decide +kernel
theorem dX12_potentialAt_34 : decode cX12_potentialAt 34 = .ok (.iaload, 1) := by decide +kernel
theorem dX12_potentialAt_35 : decode cX12_potentialAt 35 = .ok (.aload_n 0, 1) := by decide +kernel
theorem dX12_potentialAt_36 : decode cX12_potentialAt 36 = .ok (.getfield 7, 3) := by decide +kernel
theorem dX12_potentialAt_39 : decode cX12_potentialAt 39 = .ok (.bipush 8, 2) := by decide +kernel
theorem dX12_potentialAt_41 : decode cX12_potentialAt 41 = .ok (.iload_n 3, 1) := by decide +kernel
theorem dX12_potentialAt_42 : decode cX12_potentialAt 42 = .ok (.iadd, 1) := by decide +kernel
theorem dX12_potentialAt_43 : decode cX12_potentialAt 43 = .ok (.iaload, 1) := by decide +kernel
theorem dX12_potentialAt_44 : decode cX12_potentialAt 44 = .ok (.imul, 1) := by decide +kernel
theorem dX12_potentialAt_45 : decode cX12_potentialAt 45 = .ok (.istore 4, 2) := by decide +kernel
theorem dX12_potentialAt_47 : decode cX12_potentialAt 47 = .ok (.iload_n 2, 1) := by decide +kernel
theorem dX12_potentialAt_48 : decode cX12_potentialAt 48 = .ok (.aload_n 0, 1) := by decide +kernel
theorem dX12_potentialAt_49 : decode cX12_potentialAt 49 = .ok (.getfield 7, 3) := by decide +kernel
theorem dX12_potentialAt_52 : decode cX12_potentialAt 52 = .ok (.sipush 184, 3) := by decide +kernel
theorem dX12_potentialAt_55 : decode cX12_potentialAt 55 = .ok (.iload_n 1, 1) := by decide +kernel
theorem dX12_potentialAt_56 : decode cX12_potentialAt 56 = .ok (.iadd, 1) := by decide +kernel
theorem dX12_potentialAt_57 : decode cX12_potentialAt 57 = .ok (.iaload, 1) := by decide +kernel
theorem dX12_potentialAt_58 : decode cX12_potentialAt 58 = .ok (.iload_n 3, 1) := by decide +kernel
theorem dX12_potentialAt_59 : decode cX12_potentialAt 59 = .ok (.invokestatic 196, 3) := by decide +kernel
theorem dX12_potentialAt_62 : decode cX12_potentialAt 62 = .ok (.ifCond .eq 17, 3) := by decide +kernel
theorem dX12_potentialAt_65 : decode cX12_potentialAt 65 = .ok (.aload_n 0, 1) := by decide +kernel
theorem dX12_potentialAt_66 : decode cX12_potentialAt 66 = .ok (.getfield 7, 3) := by decide +kernel
theorem dX12_potentialAt_69 : decode cX12_potentialAt 69 = .ok (.iconst 0, 1) := by decide +kernel
theorem dX12_potentialAt_70 : decode cX12_potentialAt 70 = .ok (.iaload, 1) := by decide +kernel
theorem dX12_potentialAt_71 : decode cX12_potentialAt 71 = .ok (.iconst 1, 1) := by decide +kernel
theorem dX12_potentialAt_72 : decode cX12_potentialAt 72 = .ok (.isub, 1) := by decide +kernel
theorem dX12_potentialAt_73 : decode cX12_potentialAt 73 = .ok (.iload 4, 2) := by decide +kernel
theorem dX12_potentialAt_75 : decode cX12_potentialAt 75 = .ok (.imul, 1) := by decide +kernel
theorem dX12_potentialAt_76 : decode cX12_potentialAt 76 = .ok (.goto 4, 3) := by decide +kernel
theorem dX12_potentialAt_79 : decode cX12_potentialAt 79 = .ok (.iconst 0, 1) := by decide +kernel
theorem dX12_potentialAt_80 : decode cX12_potentialAt 80 = .ok (.iadd, 1) := by decide +kernel
theorem dX12_potentialAt_81 : decode cX12_potentialAt 81 = .ok (.istore_n 2, 1) := by decide +kernel
theorem dX12_potentialAt_82 : decode cX12_potentialAt 82 = .ok (.iload_n 2, 1) := by decide +kernel
theorem dX12_potentialAt_83 : decode cX12_potentialAt 83 = .ok (.aload_n 0, 1) := by decide +kernel
theorem dX12_potentialAt_84 : decode cX12_potentialAt 84 = .ok (.getfield 51, 3) := by decide +kernel
theorem dX12_potentialAt_87 : decode cX12_potentialAt 87 = .ok (.iload_n 1, 1) := by decide +kernel
theorem dX12_potentialAt_88 : decode cX12_potentialAt 88 = .ok (.iaload, 1) := by decide +kernel
theorem dX12_potentialAt_89 : decode cX12_potentialAt 89 = .ok (.iload_n 3, 1) := by decide +kernel
theorem dX12_potentialAt_90 : decode cX12_potentialAt 90 = .ok (.invokestatic 196, 3) := by decide +kernel
theorem dX12_potentialAt_93 : decode cX12_potentialAt 93 = .ok (.ifCond .eq 49, 3) := by decide +kernel
theorem dX12_potentialAt_96 : decode cX12_potentialAt 96 = .ok (.aload_n 0, 1) := by decide +kernel
theorem dX12_potentialAt_97 : decode cX12_potentialAt 97 = .ok (.getfield 7, 3) := by decide +kernel
theorem dX12_potentialAt_100 : decode cX12_potentialAt 100 = .ok (.iconst 0, 1) := by decide +kernel
theorem dX12_potentialAt_101 : decode cX12_potentialAt 101 = .ok (.iaload, 1) := by decide +kernel
theorem dX12_potentialAt_102 : decode cX12_potentialAt 102 = .ok (.bipush 60, 2) := by decide +kernel
theorem dX12_potentialAt_104 : decode cX12_potentialAt 104 = .ok (.aload_n 0, 1) := by decide +kernel
theorem dX12_potentialAt_105 : decode cX12_potentialAt 105 = .ok (.getfield 7, 3) := by decide +kernel
theorem dX12_potentialAt_108 : decode cX12_potentialAt 108 = .ok (.bipush 16, 2) := by decide +kernel
theorem dX12_potentialAt_110 : decode cX12_potentialAt 110 = .ok (.iload_n 3, 1) := by decide +kernel
theorem dX12_potentialAt_111 : decode cX12_potentialAt 111 = .ok (.iadd, 1) := by decide +kernel
theorem dX12_potentialAt_112 : decode cX12_potentialAt 112 = .ok (.iaload, 1) := by decide +kernel
theorem dX12_potentialAt_113 : decode cX12_potentialAt 113 = .ok (.imul, 1) := by decide +kernel
theorem dX12_potentialAt_114 : decode cX12_potentialAt 114 = .ok (.aload_n 0, 1) := by decide +kernel
theorem dX12_potentialAt_115 : decode cX12_potentialAt 115 = .ok (.getfield 7, 3) := by decide +kernel
theorem dX12_potentialAt_118 : decode cX12_potentialAt 118 = .ok (.sipush 184, 3) := by decide +kernel
theorem dX12_potentialAt_121 : decode cX12_potentialAt 121 = .ok (.iload_n 1, 1) := by decide +kernel
theorem dX12_potentialAt_122 : decode cX12_potentialAt 122 = .ok (.iadd, 1) := by decide +kernel
theorem dX12_potentialAt_123 : decode cX12_potentialAt 123 = .ok (.iaload, 1) := by decide +kernel
theorem dX12_potentialAt_124 : decode cX12_potentialAt 124 = .ok (.iload_n 3, 1) := by decide +kernel
theorem dX12_potentialAt_125 : decode cX12_potentialAt 125 = .ok (.invokestatic 196, 3) := by decide +kernel
theorem dX12_potentialAt_128 : decode cX12_potentialAt 128 = .ok (.ifCond .eq 8, 3) := by decide +kernel
theorem dX12_potentialAt_131 : decode cX12_potentialAt 131 = .ok (.iload 4, 2) := by decide +kernel
theorem dX12_potentialAt_133 : decode cX12_potentialAt 133 = .ok (.goto 4, 3) := by decide +kernel
theorem dX12_potentialAt_136 : decode cX12_potentialAt 136 = .ok (.iconst 0, 1) := by decide +kernel
theorem dX12_potentialAt_137 : decode cX12_potentialAt 137 = .ok (.isub, 1) := by decide +kernel
theorem dX12_potentialAt_138 : decode cX12_potentialAt 138 = .ok (.imul, 1) := by decide +kernel
theorem dX12_potentialAt_139 : decode cX12_potentialAt 139 = .ok (.goto 4, 3) := by decide +kernel
theorem dX12_potentialAt_142 : decode cX12_potentialAt 142 = .ok (.iconst 0, 1) := by decide +kernel
theorem dX12_potentialAt_143 : decode cX12_potentialAt 143 = .ok (.iadd, 1) := by decide +kernel
theorem dX12_potentialAt_144 : decode cX12_potentialAt 144 = .ok (.istore_n 2, 1) := by decide +kernel
theorem dX12_potentialAt_145 : decode cX12_potentialAt 145 = .ok (.iinc 3 1, 3) := by decide +kernel
theorem dX12_potentialAt_148 : decode cX12_potentialAt 148 = .ok (.goto (-138), 3) := by decide +kernel
theorem dX12_potentialAt_151 : decode cX12_potentialAt 151 = .ok (.iload_n 2, 1) := by decide +kernel
theorem dX12_potentialAt_152 : decode cX12_potentialAt 152 = .ok (.ireturn, 1) := by decide +kernel
set_option maxRecDepth 20000 in
theorem ggX12_potential_X12_isLogged : GoodIn wsX12_potential wsX12_isLogged := goodIn_r _ [5, 6, 7, 8, 4, 9, 64, 65, 66, 67, 68, 69, 70, 71, 72, 73, 74, 75, 76, 77, 78, 79, 80, 81, 82, 83, 84, 85, 86, 87, 88, 89, 90, 91, 92, 93, 94, 95, 96, 97, 98, 99, 100, 101, 102, 103, 104, 105, 106, 107, 108, 109, 110] (by decide +kernel) (by decide +kernel)
set_option maxRecDepth 20000 in
theorem gX12_potential_X12_isLogged : GoodIn wsX12_potential (wsV RX12 266 RX12 yX12_isLogged wsX12_isLogged) := goodIn_app (goodIn_of _ (by decide +kernel)) ggX12_potential_X12_isLogged
set_option maxRecDepth 20000 in
theorem ggX12_potential_X12_plansAll : GoodIn wsX12_potential wsX12_plansAll := goodIn_r _ [13, 6, 14, 15, 16, 4, 17, 18, 19, 20, 21, 22, 23, 24, 25, 26, 27, 28, 29, 30, 31, 32, 33, 34, 35, 36, 37, 38, 39, 40, 41, 42, 43, 44, 45, 46, 47, 48, 49, 50, 51, 52, 53, 54, 55, 56, 57, 58, 59, 64, 65, 66, 67, 68, 69, 70, 71, 72, 73, 74, 75, 76, 77, 78, 79, 80, 81, 82, 83, 84, 85, 86, 87, 88, 89, 90, 91, 92, 93, 94, 95, 96, 97, 98, 99, 100, 101, 102, 103, 104, 105, 106, 107, 108, 109, 110] (by decide +kernel) (by decide +kernel)
set_option maxRecDepth 20000 in
theorem gX12_potential_X12_plansAll : GoodIn wsX12_potential (wsV RX12 314 RX12 yX12_plansAll wsX12_plansAll) := goodIn_app (goodIn_of _ (by decide +kernel)) ggX12_potential_X12_plansAll
set_option maxRecDepth 20000 in
theorem ggX12_potential_X12_potentialAt : GoodIn wsX12_potential wsX12_potentialAt := goodIn_r _ [63, 6, 55, 28, 29, 4, 30, 64, 65, 66, 67, 68, 69, 70, 71, 72, 73, 74, 75, 76, 77, 78, 79, 80, 81, 82, 83, 84, 85, 86, 87, 88, 89, 90, 91, 92, 93, 94, 95, 96, 97, 98, 99, 100, 101, 102, 103, 104, 105, 106, 107, 108, 109, 110] (by decide +kernel) (by decide +kernel)
set_option maxRecDepth 20000 in
theorem gX12_potential_X12_potentialAt : GoodIn wsX12_potential (wsV RX12 320 RX12 yX12_potentialAt wsX12_potentialAt) := goodIn_app (goodIn_of _ (by decide +kernel)) ggX12_potential_X12_potentialAt
theorem dX12_potential_0 : decode cX12_potential 0 = .ok (.aload_n 0, 1) := by decide +kernel
theorem dX12_potential_1 : decode cX12_potential 1 = .ok (.iload_n 1, 1) := by decide +kernel
theorem dX12_potential_2 : decode cX12_potential 2 = .ok (.invokevirtual 266, 3) := by decide +kernel
theorem dX12_potential_5 : decode cX12_potential 5 = .ok (.ifCond .ne 5, 3) := by decide +kernel
theorem dX12_potential_8 : decode cX12_potential 8 = .ok (.iconst (-1), 1) := by decide +kernel
theorem dX12_potential_9 : decode cX12_potential 9 = .ok (.ireturn, 1) := by decide +kernel
theorem dX12_potential_10 : decode cX12_potential 10 = .ok (.aload_n 0, 1) := by decide +kernel
theorem dX12_potential_11 : decode cX12_potential 11 = .ok (.invokevirtual 314, 3) := by decide +kernel
theorem dX12_potential_14 : decode cX12_potential 14 = .ok (.pop, 1) := by decide +kernel
theorem dX12_potential_15 : decode cX12_potential 15 = .ok (.aload_n 0, 1) := by decide +kernel
theorem dX12_potential_16 : decode cX12_potential 16 = .ok (.iload_n 1, 1) := by decide +kernel
theorem dX12_potential_17 : decode cX12_potential 17 = .ok (.invokevirtual 320, 3) := by decide +kernel
theorem dX12_potential_20 : decode cX12_potential 20 = .ok (.ireturn, 1) := by decide +kernel
set_option maxRecDepth 20000 in
theorem ggX12_proof_X12_isLogged : GoodIn wsX12_proof wsX12_isLogged := goodIn_r _ [7, 2, 8, 9, 6, 10, 69, 70, 71, 72, 73, 74, 75, 76, 77, 78, 79, 80, 81, 82, 83, 84, 85, 86, 87, 88, 89, 90, 91, 92, 93, 94, 95, 96, 97, 98, 99, 100, 101, 102, 103, 104, 105, 106, 107, 108, 109, 110, 111, 112, 113, 114, 115] (by decide +kernel) (by decide +kernel)
set_option maxRecDepth 20000 in
theorem gX12_proof_X12_isLogged : GoodIn wsX12_proof (wsV RX12 266 RX12 yX12_isLogged wsX12_isLogged) := goodIn_app (goodIn_of _ (by decide +kernel)) ggX12_proof_X12_isLogged
set_option maxRecDepth 20000 in
theorem ggX12_proof_X12_plansAll : GoodIn wsX12_proof wsX12_plansAll := goodIn_r _ [14, 2, 15, 16, 17, 6, 18, 19, 20, 21, 22, 23, 24, 25, 26, 27, 28, 29, 30, 31, 32, 33, 34, 35, 36, 37, 38, 39, 40, 41, 42, 43, 44, 45, 46, 47, 48, 49, 50, 51, 52, 53, 54, 55, 56, 57, 58, 59, 60, 69, 70, 71, 72, 73, 74, 75, 76, 77, 78, 79, 80, 81, 82, 83, 84, 85, 86, 87, 88, 89, 90, 91, 92, 93, 94, 95, 96, 97, 98, 99, 100, 101, 102, 103, 104, 105, 106, 107, 108, 109, 110, 111, 112, 113, 114, 115] (by decide +kernel) (by decide +kernel)
set_option maxRecDepth 20000 in
theorem gX12_proof_X12_plansAll : GoodIn wsX12_proof (wsV RX12 314 RX12 yX12_plansAll wsX12_plansAll) := goodIn_app (goodIn_of _ (by decide +kernel)) ggX12_proof_X12_plansAll
set_option maxRecDepth 20000 in
theorem ggX12_proof_X12_paidAt : GoodIn wsX12_proof wsX12_paidAt := goodIn_r _ [64, 56, 25, 26, 27, 6, 28, 2, 29, 30, 31, 48, 49, 50, 51, 69, 70, 71, 72, 73, 74, 75, 76, 77, 78, 79, 80, 81, 82, 83, 84, 85, 86, 87, 88, 89, 90, 91, 92, 93, 94, 95, 96, 97, 98, 99, 100, 101, 102, 103, 104, 105, 106, 107, 108, 109, 110, 111, 112, 113, 114, 115] (by decide +kernel) (by decide +kernel)
set_option maxRecDepth 20000 in
theorem gX12_proof_X12_paidAt : GoodIn wsX12_proof (wsV RX12 317 RX12 yX12_paidAt wsX12_paidAt) := goodIn_app (goodIn_of _ (by decide +kernel)) ggX12_proof_X12_paidAt
set_option maxRecDepth 20000 in
theorem ggX12_proof_X12_potentialAt : GoodIn wsX12_proof wsX12_potentialAt := goodIn_r _ [68, 2, 56, 29, 30, 6, 31, 69, 70, 71, 72, 73, 74, 75, 76, 77, 78, 79, 80, 81, 82, 83, 84, 85, 86, 87, 88, 89, 90, 91, 92, 93, 94, 95, 96, 97, 98, 99, 100, 101, 102, 103, 104, 105, 106, 107, 108, 109, 110, 111, 112, 113, 114, 115] (by decide +kernel) (by decide +kernel)
set_option maxRecDepth 20000 in
theorem gX12_proof_X12_potentialAt : GoodIn wsX12_proof (wsV RX12 320 RX12 yX12_potentialAt wsX12_potentialAt) := goodIn_app (goodIn_of _ (by decide +kernel)) ggX12_proof_X12_potentialAt
theorem dX12_proof_0 : decode cX12_proof 0 = .ok (.aload_n 0, 1) := by decide +kernel
theorem dX12_proof_1 : decode cX12_proof 1 = .ok (.iload_n 1, 1) := by decide +kernel
theorem dX12_proof_2 : decode cX12_proof 2 = .ok (.invokevirtual 266, 3) := by decide +kernel
theorem dX12_proof_5 : decode cX12_proof 5 = .ok (.ifCond .ne 7, 3) := by decide +kernel
theorem dX12_proof_8 : decode cX12_proof 8 = .ok (.ldc_w 323, 3) := by decide +kernel
theorem dX12_proof_11 : decode cX12_proof 11 = .ok (.ireturn, 1) := by decide +kernel
theorem dX12_proof_12 : decode cX12_proof 12 = .ok (.aload_n 0, 1) := by decide +kernel
theorem dX12_proof_13 : decode cX12_proof 13 = .ok (.invokevirtual 314, 3) := by decide +kernel
theorem dX12_proof_16 : decode cX12_proof 16 = .ok (.pop, 1) := by decide +kernel
theorem dX12_proof_17 : decode cX12_proof 17 = .ok (.bipush 60, 2) := by decide +kernel
theorem dX12_proof_19 : decode cX12_proof 19 = .ok (.aload_n 0, 1) := by decide +kernel
theorem dX12_proof_20 : decode cX12_proof 20 = .ok (.getfield 7, 3) := by decide +kernel
theorem dX12_proof_23 : decode cX12_proof 23 = .ok (.iconst 0, 1) := by decide +kernel
theorem dX12_proof_24 : decode cX12_proof 24 = .ok (.iaload, 1) := by decide +kernel
theorem dX12_proof_25 : decode cX12_proof 25 = .ok (.imul, 1) := by decide +kernel
theorem dX12_proof_26 : decode cX12_proof 26 = .ok (.aload_n 0, 1) := by decide +kernel
theorem dX12_proof_27 : decode cX12_proof 27 = .ok (.iload_n 1, 1) := by decide +kernel
theorem dX12_proof_28 : decode cX12_proof 28 = .ok (.invokevirtual 317, 3) := by decide +kernel
theorem dX12_proof_31 : decode cX12_proof 31 = .ok (.imul, 1) := by decide +kernel
theorem dX12_proof_32 : decode cX12_proof 32 = .ok (.bipush 60, 2) := by decide +kernel
theorem dX12_proof_34 : decode cX12_proof 34 = .ok (.aload_n 0, 1) := by decide +kernel
theorem dX12_proof_35 : decode cX12_proof 35 = .ok (.getfield 7, 3) := by decide +kernel
theorem dX12_proof_38 : decode cX12_proof 38 = .ok (.sipush 144, 3) := by decide +kernel
theorem dX12_proof_41 : decode cX12_proof 41 = .ok (.iload_n 1, 1) := by decide +kernel
theorem dX12_proof_42 : decode cX12_proof 42 = .ok (.iadd, 1) := by decide +kernel
theorem dX12_proof_43 : decode cX12_proof 43 = .ok (.iaload, 1) := by decide +kernel
theorem dX12_proof_44 : decode cX12_proof 44 = .ok (.imul, 1) := by decide +kernel
theorem dX12_proof_45 : decode cX12_proof 45 = .ok (.isub, 1) := by decide +kernel
theorem dX12_proof_46 : decode cX12_proof 46 = .ok (.aload_n 0, 1) := by decide +kernel
theorem dX12_proof_47 : decode cX12_proof 47 = .ok (.iload_n 1, 1) := by decide +kernel
theorem dX12_proof_48 : decode cX12_proof 48 = .ok (.invokevirtual 320, 3) := by decide +kernel
theorem dX12_proof_51 : decode cX12_proof 51 = .ok (.aload_n 0, 1) := by decide +kernel
theorem dX12_proof_52 : decode cX12_proof 52 = .ok (.iload_n 1, 1) := by decide +kernel
theorem dX12_proof_53 : decode cX12_proof 53 = .ok (.iconst 1, 1) := by decide +kernel
theorem dX12_proof_54 : decode cX12_proof 54 = .ok (.isub, 1) := by decide +kernel
theorem dX12_proof_55 : decode cX12_proof 55 = .ok (.invokevirtual 320, 3) := by decide +kernel
theorem dX12_proof_58 : decode cX12_proof 58 = .ok (.isub, 1) := by decide +kernel
theorem dX12_proof_59 : decode cX12_proof 59 = .ok (.isub, 1) := by decide +kernel
theorem dX12_proof_60 : decode cX12_proof 60 = .ok (.ireturn, 1) := by decide +kernel
set_option maxRecDepth 20000 in
theorem ggX12_bestWith_X12_isItem : GoodIn wsX12_bestWith wsX12_isItem := goodIn_r _ [7, 1, 8, 9, 6, 10, 47, 48, 49, 50, 51, 52, 53, 54, 55, 56, 57, 58, 59, 60, 61, 62, 63, 64, 65, 66, 67, 68, 69, 70, 71, 72, 73, 74, 75, 76, 77, 78, 79, 80, 81, 82, 83, 84, 85, 86, 87, 88, 89, 90, 91, 92, 93] (by decide +kernel) (by decide +kernel)
set_option maxRecDepth 20000 in
theorem gX12_bestWith_X12_isItem : GoodIn wsX12_bestWith (wsV RX12 242 RX12 yX12_isItem wsX12_isItem) := goodIn_app (goodIn_of _ (by decide +kernel)) ggX12_bestWith_X12_isItem
set_option maxRecDepth 20000 in
theorem ggX12_bestWith_X12_plans : GoodIn wsX12_bestWith wsX12_plans := goodIn_r _ [14, 15, 16, 17, 1, 18, 19, 2, 20, 21, 22, 6, 23, 24, 25, 26, 27, 28, 29, 30, 31, 32, 33, 34, 35, 36, 37, 38, 39, 40, 41, 42, 43, 44, 45, 46, 47, 48, 49, 50, 51, 52, 53, 54, 55, 56, 57, 58, 59, 60, 61, 62, 63, 64, 65, 66, 67, 68, 69, 70, 71, 72, 73, 74, 75, 76, 77, 78, 79, 80, 81, 82, 83, 84, 85, 86, 87, 88, 89, 90, 91, 92, 93] (by decide +kernel) (by decide +kernel)
set_option maxRecDepth 20000 in
theorem gX12_bestWith_X12_plans : GoodIn wsX12_bestWith (wsV RX12 307 RX12 yX12_plans wsX12_plans) := goodIn_app (goodIn_of _ (by decide +kernel)) ggX12_bestWith_X12_plans
theorem dX12_bestWith_0 : decode cX12_bestWith 0 = .ok (.aload_n 0, 1) := by decide +kernel
theorem dX12_bestWith_1 : decode cX12_bestWith 1 = .ok (.iload_n 1, 1) := by decide +kernel
theorem dX12_bestWith_2 : decode cX12_bestWith 2 = .ok (.invokevirtual 242, 3) := by decide +kernel
theorem dX12_bestWith_5 : decode cX12_bestWith 5 = .ok (.ifCond .eq 13, 3) := by decide +kernel
theorem dX12_bestWith_8 : decode cX12_bestWith 8 = .ok (.aload_n 0, 1) := by decide +kernel
theorem dX12_bestWith_9 : decode cX12_bestWith 9 = .ok (.getfield 7, 3) := by decide +kernel
theorem dX12_bestWith_12 : decode cX12_bestWith 12 = .ok (.bipush 7, 2) := by decide +kernel
theorem dX12_bestWith_14 : decode cX12_bestWith 14 = .ok (.iaload, 1) := by decide +kernel
theorem dX12_bestWith_15 : decode cX12_bestWith 15 = .ok (.ifCond .ne 5, 3) := by decide +kernel
theorem dX12_bestWith_18 : decode cX12_bestWith 18 = .ok (.iconst (-1), 1) := by decide +kernel
theorem dX12_bestWith_19 : decode cX12_bestWith 19 = .ok (.ireturn, 1) := by decide +kernel
theorem dX12_bestWith_20 : decode cX12_bestWith 20 = .ok (.aload_n 0, 1) := by decide +kernel
theorem dX12_bestWith_21 : decode cX12_bestWith 21 = .ok (.aload_n 0, 1) := by decide +kernel
theorem dX12_bestWith_22 : decode cX12_bestWith 22 = .ok (.getfield 7, 3) := by decide +kernel
theorem dX12_bestWith_25 : decode cX12_bestWith 25 = .ok (.bipush 7, 2) := by decide +kernel
theorem dX12_bestWith_27 : decode cX12_bestWith 27 = .ok (.iaload, 1) := by decide +kernel
theorem dX12_bestWith_28 : decode cX12_bestWith 28 = .ok (.aload_n 0, 1) := by decide +kernel
theorem dX12_bestWith_29 : decode cX12_bestWith 29 = .ok (.getfield 7, 3) := by decide +kernel
theorem dX12_bestWith_32 : decode cX12_bestWith 32 = .ok (.iconst 0, 1) := by decide +kernel
theorem dX12_bestWith_33 : decode cX12_bestWith 33 = .ok (.iaload, 1) := by decide +kernel
theorem dX12_bestWith_34 : decode cX12_bestWith 34 = .ok (.iconst 1, 1) := by decide +kernel
theorem dX12_bestWith_35 : decode cX12_bestWith 35 = .ok (.iload_n 1, 1) := by decide +kernel
theorem dX12_bestWith_36 : decode cX12_bestWith 36 = .ok (.ishl, 1) := by decide +kernel
theorem dX12_bestWith_37 : decode cX12_bestWith 37 = .ok (.invokevirtual 307, 3) := by decide +kernel
theorem dX12_bestWith_40 : decode cX12_bestWith 40 = .ok (.istore_n 2, 1) := by decide +kernel
theorem dX12_bestWith_41 : decode cX12_bestWith 41 = .ok (.iload_n 2, 1) := by decide +kernel
theorem dX12_bestWith_42 : decode cX12_bestWith 42 = .ok (.ldc_w 284, 3) := by decide +kernel
theorem dX12_bestWith_45 : decode cX12_bestWith 45 = .ok (.if_icmp .lt 7, 3) := by decide +kernel
theorem dX12_bestWith_48 : decode cX12_bestWith 48 = .ok (.iconst (-1), 1) := by decide +kernel
theorem dX12_bestWith_49 : decode cX12_bestWith 49 = .ok (.goto 4, 3) := by decide +kernel
theorem dX12_bestWith_52 : decode cX12_bestWith 52 = .ok (.iload_n 2, 1) := by decide +kernel
theorem dX12_bestWith_53 : decode cX12_bestWith 53 = .ok (.ireturn, 1) := by decide +kernel
set_option maxRecDepth 20000 in
theorem ggX12_upTo_X12_isLogged : GoodIn wsX12_upTo wsX12_isLogged := goodIn_r _ [6, 1, 7, 8, 5, 9, 47, 48, 49, 50, 51, 52, 53, 54, 55, 56, 57, 58, 59, 60, 61, 62, 63, 64, 65, 66, 67, 68, 69, 70, 71, 72, 73, 74, 75, 76, 77, 78, 79, 80, 81, 82, 83, 84, 85, 86, 87, 88, 89, 90, 91, 92, 93] (by decide +kernel) (by decide +kernel)
set_option maxRecDepth 20000 in
theorem gX12_upTo_X12_isLogged : GoodIn wsX12_upTo (wsV RX12 266 RX12 yX12_isLogged wsX12_isLogged) := goodIn_app (goodIn_of _ (by decide +kernel)) ggX12_upTo_X12_isLogged
set_option maxRecDepth 20000 in
theorem ggX12_upTo_X12_plans : GoodIn wsX12_upTo wsX12_plans := goodIn_r _ [13, 14, 15, 16, 1, 17, 18, 19, 20, 21, 22, 5, 23, 24, 25, 26, 27, 28, 29, 30, 31, 32, 33, 34, 35, 36, 37, 38, 39, 40, 41, 42, 43, 44, 45, 46, 47, 48, 49, 50, 51, 52, 53, 54, 55, 56, 57, 58, 59, 60, 61, 62, 63, 64, 65, 66, 67, 68, 69, 70, 71, 72, 73, 74, 75, 76, 77, 78, 79, 80, 81, 82, 83, 84, 85, 86, 87, 88, 89, 90, 91, 92, 93] (by decide +kernel) (by decide +kernel)
set_option maxRecDepth 20000 in
theorem gX12_upTo_X12_plans : GoodIn wsX12_upTo (wsV RX12 307 RX12 yX12_plans wsX12_plans) := goodIn_app (goodIn_of _ (by decide +kernel)) ggX12_upTo_X12_plans
theorem dX12_upTo_0 : decode cX12_upTo 0 = .ok (.aload_n 0, 1) := by decide +kernel
theorem dX12_upTo_1 : decode cX12_upTo 1 = .ok (.iload_n 1, 1) := by decide +kernel
theorem dX12_upTo_2 : decode cX12_upTo 2 = .ok (.invokevirtual 266, 3) := by decide +kernel
theorem dX12_upTo_5 : decode cX12_upTo 5 = .ok (.ifCond .eq 20, 3) := by decide +kernel
theorem dX12_upTo_8 : decode cX12_upTo 8 = .ok (.aload_n 0, 1) := by decide +kernel
theorem dX12_upTo_9 : decode cX12_upTo 9 = .ok (.iload_n 1, 1) := by decide +kernel
theorem dX12_upTo_10 : decode cX12_upTo 10 = .ok (.iconst 1, 1) := by decide +kernel
theorem dX12_upTo_11 : decode cX12_upTo 11 = .ok (.iadd, 1) := by decide +kernel
theorem dX12_upTo_12 : decode cX12_upTo 12 = .ok (.aload_n 0, 1) := by decide +kernel
theorem dX12_upTo_13 : decode cX12_upTo 13 = .ok (.getfield 7, 3) := by decide +kernel
theorem dX12_upTo_16 : decode cX12_upTo 16 = .ok (.iconst 0, 1) := by decide +kernel
theorem dX12_upTo_17 : decode cX12_upTo 17 = .ok (.iaload, 1) := by decide +kernel
theorem dX12_upTo_18 : decode cX12_upTo 18 = .ok (.iconst 0, 1) := by decide +kernel
theorem dX12_upTo_19 : decode cX12_upTo 19 = .ok (.invokevirtual 307, 3) := by decide +kernel
theorem dX12_upTo_22 : decode cX12_upTo 22 = .ok (.goto 4, 3) := by decide +kernel
theorem dX12_upTo_25 : decode cX12_upTo 25 = .ok (.iconst (-1), 1) := by decide +kernel
theorem dX12_upTo_26 : decode cX12_upTo 26 = .ok (.ireturn, 1) := by decide +kernel
set_option maxRecDepth 20000 in
theorem ggX12_begins_X12_copies : GoodIn wsX12_begins wsX12_copies := goodIn_r _ [12] (by decide +kernel) (by decide +kernel)
set_option maxRecDepth 20000 in
theorem gX12_begins_X12_copies : GoodIn wsX12_begins (va_wsS RX12 177 yX12_copies wsX12_copies) := goodIn_app (goodIn_of _ (by decide +kernel)) ggX12_begins_X12_copies
theorem dX12_begins_0 : decode cX12_begins 0 = .ok (.aload_n 0, 1) := by decide +kernel
theorem dX12_begins_1 : decode cX12_begins 1 = .ok (.getfield 7, 3) := by decide +kernel
theorem dX12_begins_4 : decode cX12_begins 4 = .ok (.iconst 0, 1) := by decide +kernel
theorem dX12_begins_5 : decode cX12_begins 5 = .ok (.aload_n 0, 1) := by decide +kernel
theorem dX12_begins_6 : decode cX12_begins 6 = .ok (.getfield 57, 3) := by decide +kernel
theorem dX12_begins_9 : decode cX12_begins 9 = .ok (.iconst 0, 1) := by decide +kernel
theorem dX12_begins_10 : decode cX12_begins 10 = .ok (.invokestatic 177, 3) := by decide +kernel
theorem dX12_begins_13 : decode cX12_begins 13 = .ok (.aload_n 0, 1) := by decide +kernel
theorem dX12_begins_14 : decode cX12_begins 14 = .ok (.aload_n 0, 1) := by decide +kernel
theorem dX12_begins_15 : decode cX12_begins 15 = .ok (.getfield 187, 3) := by decide +kernel
theorem dX12_begins_18 : decode cX12_begins 18 = .ok (.putfield 324, 3) := by decide +kernel
theorem dX12_begins_21 : decode cX12_begins 21 = .ok (.aload_n 0, 1) := by decide +kernel
theorem dX12_begins_22 : decode cX12_begins 22 = .ok (.aload_n 0, 1) := by decide +kernel
theorem dX12_begins_23 : decode cX12_begins 23 = .ok (.getfield 184, 3) := by decide +kernel
theorem dX12_begins_26 : decode cX12_begins 26 = .ok (.putfield 327, 3) := by decide +kernel
theorem dX12_begins_29 : decode cX12_begins 29 = .ok (.iconst 0, 1) := by decide +kernel
theorem dX12_begins_30 : decode cX12_begins 30 = .ok (.istore_n 1, 1) := by decide +kernel
theorem dX12_begins_31 : decode cX12_begins 31 = .ok (.iload_n 1, 1) := by decide +kernel
theorem dX12_begins_32 : decode cX12_begins 32 = .ok (.bipush 60, 2) := by decide +kernel
theorem dX12_begins_34 : decode cX12_begins 34 = .ok (.if_icmp .ge 21, 3) := by decide +kernel
theorem dX12_begins_37 : decode cX12_begins 37 = .ok (.aload_n 0, 1) := by decide +kernel
theorem dX12_begins_38 : decode cX12_begins 38 = .ok (.getfield 60, 3) := by decide +kernel
theorem dX12_begins_41 : decode cX12_begins 41 = .ok (.iload_n 1, 1) := by decide +kernel
theorem dX12_begins_42 : decode cX12_begins 42 = .ok (.aload_n 0, 1) := by decide +kernel
theorem dX12_begins_43 : decode cX12_begins 43 = .ok (.getfield 33, 3) := by decide +kernel
theorem dX12_begins_46 : decode cX12_begins 46 = .ok (.iload_n 1, 1) := by decide +kernel
theorem dX12_begins_47 : decode cX12_begins 47 = .ok (.iaload, 1) := by decide +kernel
theorem dX12_begins_48 : decode cX12_begins 48 = .ok (.iastore, 1) := by decide +kernel
theorem dX12_begins_49 : decode cX12_begins 49 = .ok (.iinc 1 1, 3) := by decide +kernel
theorem dX12_begins_52 : decode cX12_begins 52 = .ok (.goto (-21), 3) := by decide +kernel
theorem dX12_begins_55 : decode cX12_begins 55 = .ok (.return_, 1) := by decide +kernel
set_option maxRecDepth 20000 in
theorem ggX12_ends_X12_copies : GoodIn wsX12_ends wsX12_copies := goodIn_r _ [12] (by decide +kernel) (by decide +kernel)
set_option maxRecDepth 20000 in
theorem gX12_ends_X12_copies : GoodIn wsX12_ends (va_wsS RX12 177 yX12_copies wsX12_copies) := goodIn_app (goodIn_of _ (by decide +kernel)) ggX12_ends_X12_copies
theorem dX12_ends_0 : decode cX12_ends 0 = .ok (.aload_n 0, 1) := by decide +kernel
theorem dX12_ends_1 : decode cX12_ends 1 = .ok (.getfield 57, 3) := by decide +kernel
theorem dX12_ends_4 : decode cX12_ends 4 = .ok (.iconst 0, 1) := by decide +kernel
theorem dX12_ends_5 : decode cX12_ends 5 = .ok (.aload_n 0, 1) := by decide +kernel
theorem dX12_ends_6 : decode cX12_ends 6 = .ok (.getfield 7, 3) := by decide +kernel
theorem dX12_ends_9 : decode cX12_ends 9 = .ok (.iconst 0, 1) := by decide +kernel
theorem dX12_ends_10 : decode cX12_ends 10 = .ok (.invokestatic 177, 3) := by decide +kernel
theorem dX12_ends_13 : decode cX12_ends 13 = .ok (.aload_n 0, 1) := by decide +kernel
theorem dX12_ends_14 : decode cX12_ends 14 = .ok (.aload_n 0, 1) := by decide +kernel
theorem dX12_ends_15 : decode cX12_ends 15 = .ok (.getfield 324, 3) := by decide +kernel
theorem dX12_ends_18 : decode cX12_ends 18 = .ok (.putfield 187, 3) := by decide +kernel
theorem dX12_ends_21 : decode cX12_ends 21 = .ok (.aload_n 0, 1) := by decide +kernel
theorem dX12_ends_22 : decode cX12_ends 22 = .ok (.aload_n 0, 1) := by decide +kernel
theorem dX12_ends_23 : decode cX12_ends 23 = .ok (.getfield 327, 3) := by decide +kernel
theorem dX12_ends_26 : decode cX12_ends 26 = .ok (.putfield 184, 3) := by decide +kernel
theorem dX12_ends_29 : decode cX12_ends 29 = .ok (.iconst 0, 1) := by decide +kernel
theorem dX12_ends_30 : decode cX12_ends 30 = .ok (.istore_n 1, 1) := by decide +kernel
theorem dX12_ends_31 : decode cX12_ends 31 = .ok (.iload_n 1, 1) := by decide +kernel
theorem dX12_ends_32 : decode cX12_ends 32 = .ok (.bipush 60, 2) := by decide +kernel
theorem dX12_ends_34 : decode cX12_ends 34 = .ok (.if_icmp .ge 21, 3) := by decide +kernel
theorem dX12_ends_37 : decode cX12_ends 37 = .ok (.aload_n 0, 1) := by decide +kernel
theorem dX12_ends_38 : decode cX12_ends 38 = .ok (.getfield 33, 3) := by decide +kernel
theorem dX12_ends_41 : decode cX12_ends 41 = .ok (.iload_n 1, 1) := by decide +kernel
theorem dX12_ends_42 : decode cX12_ends 42 = .ok (.aload_n 0, 1) := by decide +kernel
theorem dX12_ends_43 : decode cX12_ends 43 = .ok (.getfield 60, 3) := by decide +kernel
theorem dX12_ends_46 : decode cX12_ends 46 = .ok (.iload_n 1, 1) := by decide +kernel
theorem dX12_ends_47 : decode cX12_ends 47 = .ok (.iaload, 1) := by decide +kernel
theorem dX12_ends_48 : decode cX12_ends 48 = .ok (.iastore, 1) := by decide +kernel
theorem dX12_ends_49 : decode cX12_ends 49 = .ok (.iinc 1 1, 3) := by decide +kernel
theorem dX12_ends_52 : decode cX12_ends 52 = .ok (.goto (-21), 3) := by decide +kernel
theorem dX12_ends_55 : decode cX12_ends 55 = .ok (.return_, 1) := by decide +kernel
set_option maxRecDepth 20000 in
theorem ggX12_soon_X12_isItem : GoodIn wsX12_soon wsX12_isItem := goodIn_r _ [6, 1, 7, 8, 5, 9, 90, 91, 92, 93, 94, 95, 96, 97, 98, 99, 100, 101, 102, 103, 104, 105, 106, 107, 108, 109, 110, 111, 112, 113, 114, 115, 116, 117, 118, 119, 120, 121, 122, 123, 124, 125, 126, 127, 128, 129, 130, 131, 132, 133, 134, 135, 136] (by decide +kernel) (by decide +kernel)
set_option maxRecDepth 20000 in
theorem gX12_soon_X12_isItem : GoodIn wsX12_soon (wsV RX12 242 RX12 yX12_isItem wsX12_isItem) := goodIn_app (goodIn_of _ (by decide +kernel)) ggX12_soon_X12_isItem
set_option maxRecDepth 20000 in
theorem ggX12_soon_X12_begins : GoodIn wsX12_soon wsX12_begins := goodIn_r _ [13, 1, 14, 15, 16, 17, 18, 19, 20, 21, 22, 5, 23, 90, 91, 92, 93, 94, 95, 96, 97, 98, 99, 100, 101, 102, 103, 104, 105, 106, 107, 108, 109, 110, 111, 112, 113, 114, 115, 116, 117, 118, 119, 120, 121, 122, 123, 124, 125, 126, 127, 128, 129, 130, 131, 132, 133, 134, 135, 136] (by decide +kernel) (by decide +kernel)
set_option maxRecDepth 20000 in
theorem gX12_soon_X12_begins : GoodIn wsX12_soon (wsV RX12 330 RX12 yX12_begins wsX12_begins) := goodIn_app (goodIn_of _ (by decide +kernel)) ggX12_soon_X12_begins
set_option maxRecDepth 20000 in
theorem ggX12_soon_X12_bitOf : GoodIn wsX12_soon wsX12_bitOf := goodIn_r _ [26] (by decide +kernel) (by decide +kernel)
set_option maxRecDepth 20000 in
theorem gX12_soon_X12_bitOf : GoodIn wsX12_soon (va_wsS RX12 196 yX12_bitOf wsX12_bitOf) := goodIn_app (goodIn_of _ (by decide +kernel)) ggX12_soon_X12_bitOf
set_option maxRecDepth 20000 in
theorem ggX12_soon_X12_asks : GoodIn wsX12_soon wsX12_asks := goodIn_r _ [30, 1, 31, 32, 33, 5, 34, 35, 36, 37, 38, 39, 40, 41, 42, 43, 44, 45, 46, 47, 48, 49, 50, 24, 25, 26, 51, 52, 53, 54, 55, 56, 57, 58, 59, 60, 61, 62, 63, 64, 65, 66, 67, 68, 69, 70, 71, 72, 73, 74, 75, 76, 77, 78, 79, 80, 81, 17, 15, 20, 82, 83, 84, 85, 90, 91, 92, 93, 94, 95, 96, 97, 98, 99, 100, 101, 102, 103, 104, 105, 106, 107, 108, 109, 110, 111, 112, 113, 114, 115, 116, 117, 118, 119, 120, 121, 122, 123, 124, 125, 126, 127, 128, 129, 130, 131, 132, 133, 134, 135, 136] (by decide +kernel) (by decide +kernel)
set_option maxRecDepth 20000 in
theorem gX12_soon_X12_asks : GoodIn wsX12_soon (wsV RX12 238 RX12 yX12_asks wsX12_asks) := goodIn_app (goodIn_of _ (by decide +kernel)) ggX12_soon_X12_asks
set_option maxRecDepth 20000 in
theorem ggX12_soon_X12_ends : GoodIn wsX12_soon wsX12_ends := goodIn_r _ [89, 14, 1, 16, 15, 18, 17, 20, 19, 21, 22, 5, 23, 90, 91, 92, 93, 94, 95, 96, 97, 98, 99, 100, 101, 102, 103, 104, 105, 106, 107, 108, 109, 110, 111, 112, 113, 114, 115, 116, 117, 118, 119, 120, 121, 122, 123, 124, 125, 126, 127, 128, 129, 130, 131, 132, 133, 134, 135, 136] (by decide +kernel) (by decide +kernel)
set_option maxRecDepth 20000 in
theorem gX12_soon_X12_ends : GoodIn wsX12_soon (wsV RX12 333 RX12 yX12_ends wsX12_ends) := goodIn_app (goodIn_of _ (by decide +kernel)) ggX12_soon_X12_ends
theorem dX12_soon_0 : decode cX12_soon 0 = .ok (.aload_n 0, 1) := by decide +kernel
theorem dX12_soon_1 : decode cX12_soon 1 = .ok (.iload_n 1, 1) := by decide +kernel
theorem dX12_soon_2 : decode cX12_soon 2 = .ok (.invokevirtual 242, 3) := by decide +kernel
theorem dX12_soon_5 : decode cX12_soon 5 = .ok (.ifCond .ne 5, 3) := by decide +kernel
theorem dX12_soon_8 : decode cX12_soon 8 = .ok (.iconst (-1), 1) := by decide +kernel
theorem dX12_soon_9 : decode cX12_soon 9 = .ok (.ireturn, 1) := by decide +kernel
theorem dX12_soon_10 : decode cX12_soon 10 = .ok (.aload_n 0, 1) := by decide +kernel
theorem dX12_soon_11 : decode cX12_soon 11 = .ok (.invokevirtual 330, 3) := by decide +kernel
theorem dX12_soon_14 : decode cX12_soon 14 = .ok (.iconst 0, 1) := by decide +kernel
theorem dX12_soon_15 : decode cX12_soon 15 = .ok (.istore_n 2, 1) := by decide +kernel
theorem dX12_soon_16 : decode cX12_soon 16 = .ok (.iload_n 2, 1) := by decide +kernel
theorem dX12_soon_17 : decode cX12_soon 17 = .ok (.bipush 40, 2) := by decide +kernel
theorem dX12_soon_19 : decode cX12_soon 19 = .ok (.if_icmp .ge 28, 3) := by decide +kernel
theorem dX12_soon_22 : decode cX12_soon 22 = .ok (.aload_n 0, 1) := by decide +kernel
theorem dX12_soon_23 : decode cX12_soon 23 = .ok (.getfield 7, 3) := by decide +kernel
theorem dX12_soon_26 : decode cX12_soon 26 = .ok (.iconst 3, 1) := by decide +kernel
theorem dX12_soon_27 : decode cX12_soon 27 = .ok (.iaload, 1) := by decide +kernel
theorem dX12_soon_28 : decode cX12_soon 28 = .ok (.iload_n 1, 1) := by decide +kernel
theorem dX12_soon_29 : decode cX12_soon 29 = .ok (.invokestatic 196, 3) := by decide +kernel
theorem dX12_soon_32 : decode cX12_soon 32 = .ok (.ifCond .ne 15, 3) := by decide +kernel
theorem dX12_soon_35 : decode cX12_soon 35 = .ok (.aload_n 0, 1) := by decide +kernel
theorem dX12_soon_36 : decode cX12_soon 36 = .ok (.iload_n 1, 1) := by decide +kernel
theorem dX12_soon_37 : decode cX12_soon 37 = .ok (.invokevirtual 238, 3) := by decide +kernel
theorem dX12_soon_40 : decode cX12_soon 40 = .ok (.pop, 1) := by decide +kernel
theorem dX12_soon_41 : decode cX12_soon 41 = .ok (.iinc 2 1, 3) := by decide +kernel
theorem dX12_soon_44 : decode cX12_soon 44 = .ok (.goto (-28), 3) := by decide +kernel
theorem dX12_soon_47 : decode cX12_soon 47 = .ok (.aload_n 0, 1) := by decide +kernel
theorem dX12_soon_48 : decode cX12_soon 48 = .ok (.getfield 7, 3) := by decide +kernel
theorem dX12_soon_51 : decode cX12_soon 51 = .ok (.iconst 3, 1) := by decide +kernel
theorem dX12_soon_52 : decode cX12_soon 52 = .ok (.iaload, 1) := by decide +kernel
theorem dX12_soon_53 : decode cX12_soon 53 = .ok (.iload_n 1, 1) := by decide +kernel
theorem dX12_soon_54 : decode cX12_soon 54 = .ok (.invokestatic 196, 3) := by decide +kernel
theorem dX12_soon_57 : decode cX12_soon 57 = .ok (.istore_n 3, 1) := by decide +kernel
theorem dX12_soon_58 : decode cX12_soon 58 = .ok (.aload_n 0, 1) := by decide +kernel
theorem dX12_soon_59 : decode cX12_soon 59 = .ok (.invokevirtual 333, 3) := by decide +kernel
theorem dX12_soon_62 : decode cX12_soon 62 = .ok (.iload_n 3, 1) := by decide +kernel
theorem dX12_soon_63 : decode cX12_soon 63 = .ok (.ifCond .eq 7, 3) := by decide +kernel
theorem dX12_soon_66 : decode cX12_soon 66 = .ok (.iload_n 2, 1) := by decide +kernel
theorem dX12_soon_67 : decode cX12_soon 67 = .ok (.goto 4, 3) := by decide +kernel
theorem dX12_soon_70 : decode cX12_soon 70 = .ok (.iconst (-1), 1) := by decide +kernel
theorem dX12_soon_71 : decode cX12_soon 71 = .ok (.ireturn, 1) := by decide +kernel
set_option maxRecDepth 20000 in
theorem ggX12_victims_X12_isItem : GoodIn wsX12_victims wsX12_isItem := goodIn_r _ [6, 1, 7, 8, 5, 9, 58, 59, 60, 61, 62, 63, 64, 65, 66, 67, 68, 69, 70, 71, 72, 73, 74, 75, 76, 77, 78, 79, 80, 81, 82, 83, 84, 85, 86, 87, 88, 89, 90, 91, 92, 93, 94, 95, 96, 97, 98, 99, 100, 101, 102, 103, 104] (by decide +kernel) (by decide +kernel)
set_option maxRecDepth 20000 in
theorem gX12_victims_X12_isItem : GoodIn wsX12_victims (wsV RX12 242 RX12 yX12_isItem wsX12_isItem) := goodIn_app (goodIn_of _ (by decide +kernel)) ggX12_victims_X12_isItem
set_option maxRecDepth 20000 in
theorem ggX12_victims_X12_bitOf : GoodIn wsX12_victims wsX12_bitOf := goodIn_r _ [12] (by decide +kernel) (by decide +kernel)
set_option maxRecDepth 20000 in
theorem gX12_victims_X12_bitOf : GoodIn wsX12_victims (va_wsS RX12 196 yX12_bitOf wsX12_bitOf) := goodIn_app (goodIn_of _ (by decide +kernel)) ggX12_victims_X12_bitOf
set_option maxRecDepth 20000 in
theorem ggX12_victims_X12_begins : GoodIn wsX12_victims wsX12_begins := goodIn_r _ [16, 1, 17, 18, 19, 20, 21, 22, 23, 24, 25, 5, 26, 58, 59, 60, 61, 62, 63, 64, 65, 66, 67, 68, 69, 70, 71, 72, 73, 74, 75, 76, 77, 78, 79, 80, 81, 82, 83, 84, 85, 86, 87, 88, 89, 90, 91, 92, 93, 94, 95, 96, 97, 98, 99, 100, 101, 102, 103, 104] (by decide +kernel) (by decide +kernel)
set_option maxRecDepth 20000 in
theorem gX12_victims_X12_begins : GoodIn wsX12_victims (wsV RX12 330 RX12 yX12_begins wsX12_begins) := goodIn_app (goodIn_of _ (by decide +kernel)) ggX12_victims_X12_begins
set_option maxRecDepth 20000 in
theorem ggX12_victims_X12_way : GoodIn wsX12_victims wsX12_way := goodIn_r _ [30, 1, 31, 32, 33, 5, 34, 10, 11, 12, 35, 36, 37, 38, 39, 40, 41, 42, 43, 44, 45, 46, 47, 48, 49, 50, 51, 52, 53, 20, 18, 23, 58, 59, 60, 61, 62, 63, 64, 65, 66, 67, 68, 69, 70, 71, 72, 73, 74, 75, 76, 77, 78, 79, 80, 81, 82, 83, 84, 85, 86, 87, 88, 89, 90, 91, 92, 93, 94, 95, 96, 97, 98, 99, 100, 101, 102, 103, 104] (by decide +kernel) (by decide +kernel)
set_option maxRecDepth 20000 in
theorem gX12_victims_X12_way : GoodIn wsX12_victims (wsV RX12 232 RX12 yX12_way wsX12_way) := goodIn_app (goodIn_of _ (by decide +kernel)) ggX12_victims_X12_way
set_option maxRecDepth 20000 in
theorem ggX12_victims_X12_ends : GoodIn wsX12_victims wsX12_ends := goodIn_r _ [57, 17, 1, 19, 18, 21, 20, 23, 22, 24, 25, 5, 26, 58, 59, 60, 61, 62, 63, 64, 65, 66, 67, 68, 69, 70, 71, 72, 73, 74, 75, 76, 77, 78, 79, 80, 81, 82, 83, 84, 85, 86, 87, 88, 89, 90, 91, 92, 93, 94, 95, 96, 97, 98, 99, 100, 101, 102, 103, 104] (by decide +kernel) (by decide +kernel)
set_option maxRecDepth 20000 in
theorem gX12_victims_X12_ends : GoodIn wsX12_victims (wsV RX12 333 RX12 yX12_ends wsX12_ends) := goodIn_app (goodIn_of _ (by decide +kernel)) ggX12_victims_X12_ends
theorem dX12_victims_0 : decode cX12_victims 0 = .ok (.aload_n 0, 1) := by decide +kernel
theorem dX12_victims_1 : decode cX12_victims 1 = .ok (.iload_n 1, 1) := by decide +kernel
theorem dX12_victims_2 : decode cX12_victims 2 = .ok (.invokevirtual 242, 3) := by decide +kernel
theorem dX12_victims_5 : decode cX12_victims 5 = .ok (.ifCond .eq 34, 3) := by decide +kernel
theorem dX12_victims_8 : decode cX12_victims 8 = .ok (.aload_n 0, 1) := by decide +kernel
theorem dX12_victims_9 : decode cX12_victims 9 = .ok (.getfield 7, 3) := by decide +kernel
theorem dX12_victims_12 : decode cX12_victims 12 = .ok (.iconst 3, 1) := by decide +kernel
theorem dX12_victims_13 : decode cX12_victims 13 = .ok (.iaload, 1) := by decide +kernel
theorem dX12_victims_14 : decode cX12_victims 14 = .ok (.iload_n 1, 1) := by decide +kernel
theorem dX12_victims_15 : decode cX12_victims 15 = .ok (.invokestatic 196, 3) := by decide +kernel
theorem dX12_victims_18 : decode cX12_victims 18 = .ok (.ifCond .ne 21, 3) := by decide +kernel
theorem dX12_victims_21 : decode cX12_victims 21 = .ok (.aload_n 0, 1) := by decide +kernel
theorem dX12_victims_22 : decode cX12_victims 22 = .ok (.getfield 7, 3) := by decide +kernel
theorem dX12_victims_25 : decode cX12_victims 25 = .ok (.bipush 8, 2) := by decide +kernel
theorem dX12_victims_27 : decode cX12_victims 27 = .ok (.iload_n 1, 1) := by decide +kernel
theorem dX12_victims_28 : decode cX12_victims 28 = .ok (.iadd, 1) := by decide +kernel
theorem dX12_victims_29 : decode cX12_victims 29 = .ok (.iaload, 1) := by decide +kernel
theorem dX12_victims_30 : decode cX12_victims 30 = .ok (.aload_n 0, 1) := by decide +kernel
theorem dX12_victims_31 : decode cX12_victims 31 = .ok (.getfield 7, 3) := by decide +kernel
theorem dX12_victims_34 : decode cX12_victims 34 = .ok (.iconst 0, 1) := by decide +kernel
theorem dX12_victims_35 : decode cX12_victims 35 = .ok (.iaload, 1) := by decide +kernel
theorem dX12_victims_36 : decode cX12_victims 36 = .ok (.if_icmp .le 5, 3) := by decide +kernel
theorem dX12_victims_39 : decode cX12_victims 39 = .ok (.iconst (-1), 1) := by decide +kernel
theorem dX12_victims_40 : decode cX12_victims 40 = .ok (.ireturn, 1) := by decide +kernel
theorem dX12_victims_41 : decode cX12_victims 41 = .ok (.aload_n 0, 1) := by decide +kernel
theorem dX12_victims_42 : decode cX12_victims 42 = .ok (.invokevirtual 330, 3) := by decide +kernel
theorem dX12_victims_45 : decode cX12_victims 45 = .ok (.aload_n 0, 1) := by decide +kernel
theorem dX12_victims_46 : decode cX12_victims 46 = .ok (.getfield 7, 3) := by decide +kernel
theorem dX12_victims_49 : decode cX12_victims 49 = .ok (.iconst 3, 1) := by decide +kernel
theorem dX12_victims_50 : decode cX12_victims 50 = .ok (.iaload, 1) := by decide +kernel
theorem dX12_victims_51 : decode cX12_victims 51 = .ok (.istore_n 2, 1) := by decide +kernel
theorem dX12_victims_52 : decode cX12_victims 52 = .ok (.aload_n 0, 1) := by decide +kernel
theorem dX12_victims_53 : decode cX12_victims 53 = .ok (.aload_n 0, 1) := by decide +kernel
theorem dX12_victims_54 : decode cX12_victims 54 = .ok (.getfield 7, 3) := by decide +kernel
theorem dX12_victims_57 : decode cX12_victims 57 = .ok (.bipush 8, 2) := by decide +kernel
theorem dX12_victims_59 : decode cX12_victims 59 = .ok (.iload_n 1, 1) := by decide +kernel
theorem dX12_victims_60 : decode cX12_victims 60 = .ok (.iadd, 1) := by decide +kernel
theorem dX12_victims_61 : decode cX12_victims 61 = .ok (.iaload, 1) := by decide +kernel
theorem dX12_victims_62 : decode cX12_victims 62 = .ok (.invokevirtual 232, 3) := by decide +kernel
theorem dX12_victims_65 : decode cX12_victims 65 = .ok (.iload_n 2, 1) := by decide +kernel
theorem dX12_victims_66 : decode cX12_victims 66 = .ok (.aload_n 0, 1) := by decide +kernel
theorem dX12_victims_67 : decode cX12_victims 67 = .ok (.getfield 7, 3) := by decide +kernel
theorem dX12_victims_70 : decode cX12_victims 70 = .ok (.iconst 3, 1) := by decide +kernel
theorem dX12_victims_71 : decode cX12_victims 71 = .ok (.iaload, 1) := by decide +kernel
theorem dX12_victims_72 : decode cX12_victims 72 = .ok (.iconst (-1), 1) := by decide +kernel
theorem dX12_victims_73 : decode cX12_victims 73 = .ok (.ixor, 1) := by decide +kernel
theorem dX12_victims_74 : decode cX12_victims 74 = .ok (.iand, 1) := by decide +kernel
theorem dX12_victims_75 : decode cX12_victims 75 = .ok (.istore_n 3, 1) := by decide +kernel
theorem dX12_victims_76 : decode cX12_victims 76 = .ok (.aload_n 0, 1) := by decide +kernel
theorem dX12_victims_77 : decode cX12_victims 77 = .ok (.invokevirtual 333, 3) := by decide +kernel
theorem dX12_victims_80 : decode cX12_victims 80 = .ok (.iload_n 3, 1) := by decide +kernel
theorem dX12_victims_81 : decode cX12_victims 81 = .ok (.ireturn, 1) := by decide +kernel
set_option maxRecDepth 20000 in
theorem ggX12_replays_X12_begins : GoodIn wsX12_replays wsX12_begins := goodIn_r _ [6, 1, 7, 8, 9, 10, 11, 12, 13, 14, 15, 5, 16, 90, 91, 92, 93, 94, 95, 96, 97, 98, 99, 100, 101, 102, 103, 104, 105, 106, 107, 108, 109, 110, 111, 112, 113, 114, 115, 116, 117, 118, 119, 120, 121, 122, 123, 124, 125, 126, 127, 128, 129, 130, 131, 132, 133, 134, 135, 136] (by decide +kernel) (by decide +kernel)
set_option maxRecDepth 20000 in
theorem gX12_replays_X12_begins : GoodIn wsX12_replays (wsV RX12 330 RX12 yX12_begins wsX12_begins) := goodIn_app (goodIn_of _ (by decide +kernel)) ggX12_replays_X12_begins
set_option maxRecDepth 20000 in
theorem ggX12_replays_X12_empties : GoodIn wsX12_replays wsX12_empties := goodIn_r _ [20, 1, 21, 22, 5, 23, 90, 91, 92, 93, 94, 95, 96, 97, 98, 99, 100, 101, 102, 103, 104, 105, 106, 107, 108, 109, 110, 111, 112, 113, 114, 115, 116, 117, 118, 119, 120, 121, 122, 123, 124, 125, 126, 127, 128, 129, 130, 131, 132, 133, 134, 135, 136] (by decide +kernel) (by decide +kernel)
set_option maxRecDepth 20000 in
theorem gX12_replays_X12_empties : GoodIn wsX12_replays (wsV RX12 272 RX12 yX12_empties wsX12_empties) := goodIn_app (goodIn_of _ (by decide +kernel)) ggX12_replays_X12_empties
set_option maxRecDepth 20000 in
theorem ggX12_replays_X12_asks : GoodIn wsX12_replays wsX12_asks := goodIn_r _ [27, 1, 28, 29, 30, 5, 31, 32, 33, 34, 35, 36, 37, 38, 39, 40, 41, 42, 43, 44, 45, 46, 47, 48, 49, 50, 51, 52, 53, 54, 55, 56, 57, 58, 59, 60, 61, 62, 63, 64, 65, 66, 67, 68, 69, 70, 71, 72, 73, 74, 75, 76, 77, 78, 79, 80, 81, 10, 8, 13, 82, 83, 84, 85, 90, 91, 92, 93, 94, 95, 96, 97, 98, 99, 100, 101, 102, 103, 104, 105, 106, 107, 108, 109, 110, 111, 112, 113, 114, 115, 116, 117, 118, 119, 120, 121, 122, 123, 124, 125, 126, 127, 128, 129, 130, 131, 132, 133, 134, 135, 136] (by decide +kernel) (by decide +kernel)
set_option maxRecDepth 20000 in
theorem gX12_replays_X12_asks : GoodIn wsX12_replays (wsV RX12 238 RX12 yX12_asks wsX12_asks) := goodIn_app (goodIn_of _ (by decide +kernel)) ggX12_replays_X12_asks
set_option maxRecDepth 20000 in
theorem ggX12_replays_X12_ends : GoodIn wsX12_replays wsX12_ends := goodIn_r _ [89, 7, 1, 9, 8, 11, 10, 13, 12, 14, 15, 5, 16, 90, 91, 92, 93, 94, 95, 96, 97, 98, 99, 100, 101, 102, 103, 104, 105, 106, 107, 108, 109, 110, 111, 112, 113, 114, 115, 116, 117, 118, 119, 120, 121, 122, 123, 124, 125, 126, 127, 128, 129, 130, 131, 132, 133, 134, 135, 136] (by decide +kernel) (by decide +kernel)
set_option maxRecDepth 20000 in
theorem gX12_replays_X12_ends : GoodIn wsX12_replays (wsV RX12 333 RX12 yX12_ends wsX12_ends) := goodIn_app (goodIn_of _ (by decide +kernel)) ggX12_replays_X12_ends
theorem dX12_replays_0 : decode cX12_replays 0 = .ok (.aload_n 0, 1) := by decide +kernel
theorem dX12_replays_1 : decode cX12_replays 1 = .ok (.invokevirtual 330, 3) := by decide +kernel
theorem dX12_replays_4 : decode cX12_replays 4 = .ok (.aload_n 0, 1) := by decide +kernel
theorem dX12_replays_5 : decode cX12_replays 5 = .ok (.getfield 7, 3) := by decide +kernel
theorem dX12_replays_8 : decode cX12_replays 8 = .ok (.bipush 7, 2) := by decide +kernel
theorem dX12_replays_10 : decode cX12_replays 10 = .ok (.iaload, 1) := by decide +kernel
theorem dX12_replays_11 : decode cX12_replays 11 = .ok (.istore_n 3, 1) := by decide +kernel
theorem dX12_replays_12 : decode cX12_replays 12 = .ok (.aload_n 0, 1) := by decide +kernel
theorem dX12_replays_13 : decode cX12_replays 13 = .ok (.invokevirtual 272, 3) := by decide +kernel
theorem dX12_replays_16 : decode cX12_replays 16 = .ok (.pop, 1) := by decide +kernel
theorem dX12_replays_17 : decode cX12_replays 17 = .ok (.aload_n 0, 1) := by decide +kernel
theorem dX12_replays_18 : decode cX12_replays 18 = .ok (.getfield 7, 3) := by decide +kernel
theorem dX12_replays_21 : decode cX12_replays 21 = .ok (.iconst 0, 1) := by decide +kernel
theorem dX12_replays_22 : decode cX12_replays 22 = .ok (.iload_n 1, 1) := by decide +kernel
theorem dX12_replays_23 : decode cX12_replays 23 = .ok (.iastore, 1) := by decide +kernel
theorem dX12_replays_24 : decode cX12_replays 24 = .ok (.aload_n 0, 1) := by decide +kernel
theorem dX12_replays_25 : decode cX12_replays 25 = .ok (.getfield 7, 3) := by decide +kernel
theorem dX12_replays_28 : decode cX12_replays 28 = .ok (.iconst 1, 1) := by decide +kernel
theorem dX12_replays_29 : decode cX12_replays 29 = .ok (.iload_n 2, 1) := by decide +kernel
theorem dX12_replays_30 : decode cX12_replays 30 = .ok (.iastore, 1) := by decide +kernel
theorem dX12_replays_31 : decode cX12_replays 31 = .ok (.iconst 0, 1) := by decide +kernel
theorem dX12_replays_32 : decode cX12_replays 32 = .ok (.istore 4, 2) := by decide +kernel
theorem dX12_replays_34 : decode cX12_replays 34 = .ok (.iconst 0, 1) := by decide +kernel
theorem dX12_replays_35 : decode cX12_replays 35 = .ok (.istore 5, 2) := by decide +kernel
theorem dX12_replays_37 : decode cX12_replays 37 = .ok (.iload 5, 2) := by decide +kernel
theorem dX12_replays_39 : decode cX12_replays 39 = .ok (.iload_n 3, 1) := by decide +kernel
theorem dX12_replays_40 : decode cX12_replays 40 = .ok (.if_icmp .ge 28, 3) := by decide +kernel
theorem dX12_replays_43 : decode cX12_replays 43 = .ok (.iload 4, 2) := by decide +kernel
theorem dX12_replays_45 : decode cX12_replays 45 = .ok (.aload_n 0, 1) := by decide +kernel
theorem dX12_replays_46 : decode cX12_replays 46 = .ok (.aload_n 0, 1) := by decide +kernel
theorem dX12_replays_47 : decode cX12_replays 47 = .ok (.getfield 7, 3) := by decide +kernel
theorem dX12_replays_50 : decode cX12_replays 50 = .ok (.bipush 104, 2) := by decide +kernel
theorem dX12_replays_52 : decode cX12_replays 52 = .ok (.iload 5, 2) := by decide +kernel
theorem dX12_replays_54 : decode cX12_replays 54 = .ok (.iadd, 1) := by decide +kernel
theorem dX12_replays_55 : decode cX12_replays 55 = .ok (.iaload, 1) := by decide +kernel
theorem dX12_replays_56 : decode cX12_replays 56 = .ok (.invokevirtual 238, 3) := by decide +kernel
theorem dX12_replays_59 : decode cX12_replays 59 = .ok (.iadd, 1) := by decide +kernel
theorem dX12_replays_60 : decode cX12_replays 60 = .ok (.istore 4, 2) := by decide +kernel
theorem dX12_replays_62 : decode cX12_replays 62 = .ok (.iinc 5 1, 3) := by decide +kernel
theorem dX12_replays_65 : decode cX12_replays 65 = .ok (.goto (-28), 3) := by decide +kernel
theorem dX12_replays_68 : decode cX12_replays 68 = .ok (.aload_n 0, 1) := by decide +kernel
theorem dX12_replays_69 : decode cX12_replays 69 = .ok (.invokevirtual 333, 3) := by decide +kernel
theorem dX12_replays_72 : decode cX12_replays 72 = .ok (.iload 4, 2) := by decide +kernel
theorem dX12_replays_74 : decode cX12_replays 74 = .ok (.ireturn, 1) := by decide +kernel
set_option maxRecDepth 20000 in
theorem ggX12_curve_X12_isIn : GoodIn wsX12_curve wsX12_isIn := goodIn_r _ [5] (by decide +kernel) (by decide +kernel)
set_option maxRecDepth 20000 in
theorem gX12_curve_X12_isIn : GoodIn wsX12_curve (va_wsS RX12 83 yX12_isIn wsX12_isIn) := goodIn_app (goodIn_of _ (by decide +kernel)) ggX12_curve_X12_isIn
set_option maxRecDepth 20000 in
theorem ggX12_curve_X12_replays : GoodIn wsX12_curve wsX12_replays := goodIn_r _ [9, 1, 10, 11, 12, 4, 13, 14, 15, 16, 17, 18, 19, 20, 21, 22, 23, 24, 25, 26, 27, 28, 29, 30, 31, 32, 33, 34, 35, 36, 37, 38, 39, 40, 41, 42, 43, 44, 45, 46, 47, 48, 49, 50, 51, 52, 53, 54, 55, 56, 57, 58, 59, 60, 61, 62, 63, 64, 65, 66, 67, 68, 69, 70, 71, 72, 73, 74, 75, 76, 77, 78, 79, 80, 81, 82, 83, 84, 85, 86, 87, 88, 89, 90, 91, 92, 93, 94, 95, 96, 131, 132, 133, 134, 135, 136, 137, 138, 139, 140, 141, 142, 143, 144, 145, 146, 147, 148, 149, 150, 151, 152, 153, 154, 155, 156, 157, 158, 159, 160, 161, 162, 163, 164, 165, 166, 167, 168, 169, 170, 171, 172, 173, 174, 175, 176, 177] (by decide +kernel) (by decide +kernel)
set_option maxRecDepth 20000 in
theorem gX12_curve_X12_replays : GoodIn wsX12_curve (wsV RX12 335 RX12 yX12_replays wsX12_replays) := goodIn_app (goodIn_of _ (by decide +kernel)) ggX12_curve_X12_replays
set_option maxRecDepth 20000 in
theorem ggX12_curve_X12_plans : GoodIn wsX12_curve wsX12_plans := goodIn_r _ [100, 101, 102, 103, 1, 104, 105, 106, 107, 108, 109, 4, 110, 55, 56, 57, 111, 112, 113, 114, 115, 116, 117, 118, 119, 120, 121, 122, 123, 124, 125, 126, 127, 128, 129, 130, 131, 132, 133, 134, 135, 136, 137, 138, 139, 140, 141, 142, 143, 144, 145, 146, 147, 148, 149, 150, 151, 152, 153, 154, 155, 156, 157, 158, 159, 160, 161, 162, 163, 164, 165, 166, 167, 168, 169, 170, 171, 172, 173, 174, 175, 176, 177] (by decide +kernel) (by decide +kernel)
set_option maxRecDepth 20000 in
theorem gX12_curve_X12_plans : GoodIn wsX12_curve (wsV RX12 307 RX12 yX12_plans wsX12_plans) := goodIn_app (goodIn_of _ (by decide +kernel)) ggX12_curve_X12_plans
theorem dX12_curve_0 : decode cX12_curve 0 = .ok (.iload_n 1, 1) := by decide +kernel
theorem dX12_curve_1 : decode cX12_curve 1 = .ok (.iconst 1, 1) := by decide +kernel
theorem dX12_curve_2 : decode cX12_curve 2 = .ok (.bipush 20, 2) := by decide +kernel
theorem dX12_curve_4 : decode cX12_curve 4 = .ok (.invokestatic 83, 3) := by decide +kernel
theorem dX12_curve_7 : decode cX12_curve 7 = .ok (.ifCond .eq 12, 3) := by decide +kernel
theorem dX12_curve_10 : decode cX12_curve 10 = .ok (.iload_n 2, 1) := by decide +kernel
theorem dX12_curve_11 : decode cX12_curve 11 = .ok (.iconst 0, 1) := by decide +kernel
theorem dX12_curve_12 : decode cX12_curve 12 = .ok (.iconst 1, 1) := by decide +kernel
theorem dX12_curve_13 : decode cX12_curve 13 = .ok (.invokestatic 83, 3) := by decide +kernel
theorem dX12_curve_16 : decode cX12_curve 16 = .ok (.ifCond .ne 5, 3) := by decide +kernel
theorem dX12_curve_19 : decode cX12_curve 19 = .ok (.iconst (-1), 1) := by decide +kernel
theorem dX12_curve_20 : decode cX12_curve 20 = .ok (.ireturn, 1) := by decide +kernel
theorem dX12_curve_21 : decode cX12_curve 21 = .ok (.iload_n 2, 1) := by decide +kernel
theorem dX12_curve_22 : decode cX12_curve 22 = .ok (.ifCond .ne 17, 3) := by decide +kernel
theorem dX12_curve_25 : decode cX12_curve 25 = .ok (.aload_n 0, 1) := by decide +kernel
theorem dX12_curve_26 : decode cX12_curve 26 = .ok (.iload_n 1, 1) := by decide +kernel
theorem dX12_curve_27 : decode cX12_curve 27 = .ok (.aload_n 0, 1) := by decide +kernel
theorem dX12_curve_28 : decode cX12_curve 28 = .ok (.getfield 7, 3) := by decide +kernel
theorem dX12_curve_31 : decode cX12_curve 31 = .ok (.iconst 1, 1) := by decide +kernel
theorem dX12_curve_32 : decode cX12_curve 32 = .ok (.iaload, 1) := by decide +kernel
theorem dX12_curve_33 : decode cX12_curve 33 = .ok (.invokevirtual 335, 3) := by decide +kernel
theorem dX12_curve_36 : decode cX12_curve 36 = .ok (.goto 16, 3) := by decide +kernel
theorem dX12_curve_39 : decode cX12_curve 39 = .ok (.aload_n 0, 1) := by decide +kernel
theorem dX12_curve_40 : decode cX12_curve 40 = .ok (.aload_n 0, 1) := by decide +kernel
theorem dX12_curve_41 : decode cX12_curve 41 = .ok (.getfield 7, 3) := by decide +kernel
theorem dX12_curve_44 : decode cX12_curve 44 = .ok (.bipush 7, 2) := by decide +kernel
theorem dX12_curve_46 : decode cX12_curve 46 = .ok (.iaload, 1) := by decide +kernel
theorem dX12_curve_47 : decode cX12_curve 47 = .ok (.iload_n 1, 1) := by decide +kernel
theorem dX12_curve_48 : decode cX12_curve 48 = .ok (.iconst 0, 1) := by decide +kernel
theorem dX12_curve_49 : decode cX12_curve 49 = .ok (.invokevirtual 307, 3) := by decide +kernel
theorem dX12_curve_52 : decode cX12_curve 52 = .ok (.ireturn, 1) := by decide +kernel
set_option maxRecDepth 20000 in
theorem ggX12_would_X12_isIn : GoodIn wsX12_would wsX12_isIn := goodIn_r _ [5] (by decide +kernel) (by decide +kernel)
set_option maxRecDepth 20000 in
theorem gX12_would_X12_isIn : GoodIn wsX12_would (va_wsS RX12 83 yX12_isIn wsX12_isIn) := goodIn_app (goodIn_of _ (by decide +kernel)) ggX12_would_X12_isIn
set_option maxRecDepth 20000 in
theorem ggX12_would_X12_replays : GoodIn wsX12_would wsX12_replays := goodIn_r _ [9, 1, 10, 11, 12, 4, 13, 14, 15, 16, 17, 18, 19, 20, 21, 22, 23, 24, 25, 26, 27, 28, 29, 30, 31, 32, 33, 34, 35, 36, 37, 38, 39, 40, 41, 42, 43, 44, 45, 46, 47, 48, 49, 50, 51, 52, 53, 54, 55, 56, 57, 58, 59, 60, 61, 62, 63, 64, 65, 66, 67, 68, 69, 70, 71, 72, 73, 74, 75, 76, 77, 78, 79, 80, 81, 82, 83, 84, 85, 86, 87, 88, 89, 90, 91, 92, 93, 94, 95, 96, 97, 98, 99, 100, 101, 102, 103, 104, 105, 106, 107, 108, 109, 110, 111, 112, 113, 114, 115, 116, 117, 118, 119, 120, 121, 122, 123, 124, 125, 126, 127, 128, 129, 130, 131, 132, 133, 134, 135, 136, 137, 138, 139, 140, 141, 142, 143] (by decide +kernel) (by decide +kernel)
set_option maxRecDepth 20000 in
theorem gX12_would_X12_replays : GoodIn wsX12_would (wsV RX12 335 RX12 yX12_replays wsX12_replays) := goodIn_app (goodIn_of _ (by decide +kernel)) ggX12_would_X12_replays
theorem dX12_would_0 : decode cX12_would 0 = .ok (.iload_n 1, 1) := by decide +kernel
theorem dX12_would_1 : decode cX12_would 1 = .ok (.iconst 0, 1) := by decide +kernel
theorem dX12_would_2 : decode cX12_would 2 = .ok (.iconst 2, 1) := by decide +kernel
theorem dX12_would_3 : decode cX12_would 3 = .ok (.invokestatic 83, 3) := by decide +kernel
theorem dX12_would_6 : decode cX12_would 6 = .ok (.ifCond .eq 17, 3) := by decide +kernel
theorem dX12_would_9 : decode cX12_would 9 = .ok (.aload_n 0, 1) := by decide +kernel
theorem dX12_would_10 : decode cX12_would 10 = .ok (.aload_n 0, 1) := by decide +kernel
theorem dX12_would_11 : decode cX12_would 11 = .ok (.getfield 7, 3) := by decide +kernel
theorem dX12_would_14 : decode cX12_would 14 = .ok (.iconst 0, 1) := by decide +kernel
theorem dX12_would_15 : decode cX12_would 15 = .ok (.iaload, 1) := by decide +kernel
theorem dX12_would_16 : decode cX12_would 16 = .ok (.iload_n 1, 1) := by decide +kernel
theorem dX12_would_17 : decode cX12_would 17 = .ok (.invokevirtual 335, 3) := by decide +kernel
theorem dX12_would_20 : decode cX12_would 20 = .ok (.goto 4, 3) := by decide +kernel
theorem dX12_would_23 : decode cX12_would 23 = .ok (.iconst (-1), 1) := by decide +kernel
theorem dX12_would_24 : decode cX12_would 24 = .ok (.ireturn, 1) := by decide +kernel
set_option maxRecDepth 20000 in
theorem ggX12_spent_X12_isItem : GoodIn wsX12_spent wsX12_isItem := goodIn_r _ [6, 1, 7, 8, 5, 9, 10, 11, 12, 13, 14, 15, 16, 17, 18, 19, 20, 21, 22, 23, 24, 25, 26, 27, 28, 29, 30, 31, 32, 33, 34, 35, 36, 37, 38, 39, 40, 41, 42, 43, 44, 45, 46, 47, 48, 49, 50, 51, 52, 53, 54, 55, 56] (by decide +kernel) (by decide +kernel)
set_option maxRecDepth 20000 in
theorem gX12_spent_X12_isItem : GoodIn wsX12_spent (wsV RX12 242 RX12 yX12_isItem wsX12_isItem) := goodIn_app (goodIn_of _ (by decide +kernel)) ggX12_spent_X12_isItem
set_option maxRecDepth 20000 in
theorem ggX12_spent_X12_isIn : GoodIn wsX12_spent wsX12_isIn := goodIn_r _ [9] (by decide +kernel) (by decide +kernel)
set_option maxRecDepth 20000 in
theorem gX12_spent_X12_isIn : GoodIn wsX12_spent (va_wsS RX12 83 yX12_isIn wsX12_isIn) := goodIn_app (goodIn_of _ (by decide +kernel)) ggX12_spent_X12_isIn
theorem dX12_spent_0 : decode cX12_spent 0 = .ok (.aload_n 0, 1) := by decide +kernel
theorem dX12_spent_1 : decode cX12_spent 1 = .ok (.iload_n 1, 1) := by decide +kernel
theorem dX12_spent_2 : decode cX12_spent 2 = .ok (.invokevirtual 242, 3) := by decide +kernel
theorem dX12_spent_5 : decode cX12_spent 5 = .ok (.ifCond .eq 12, 3) := by decide +kernel
theorem dX12_spent_8 : decode cX12_spent 8 = .ok (.iload_n 2, 1) := by decide +kernel
theorem dX12_spent_9 : decode cX12_spent 9 = .ok (.iconst 0, 1) := by decide +kernel
theorem dX12_spent_10 : decode cX12_spent 10 = .ok (.iconst 2, 1) := by decide +kernel
theorem dX12_spent_11 : decode cX12_spent 11 = .ok (.invokestatic 83, 3) := by decide +kernel
theorem dX12_spent_14 : decode cX12_spent 14 = .ok (.ifCond .ne 5, 3) := by decide +kernel
theorem dX12_spent_17 : decode cX12_spent 17 = .ok (.iconst (-1), 1) := by decide +kernel
theorem dX12_spent_18 : decode cX12_spent 18 = .ok (.ireturn, 1) := by decide +kernel
theorem dX12_spent_19 : decode cX12_spent 19 = .ok (.iconst 0, 1) := by decide +kernel
theorem dX12_spent_20 : decode cX12_spent 20 = .ok (.istore_n 3, 1) := by decide +kernel
theorem dX12_spent_21 : decode cX12_spent 21 = .ok (.iconst 0, 1) := by decide +kernel
theorem dX12_spent_22 : decode cX12_spent 22 = .ok (.istore 4, 2) := by decide +kernel
theorem dX12_spent_24 : decode cX12_spent 24 = .ok (.iload 4, 2) := by decide +kernel
theorem dX12_spent_26 : decode cX12_spent 26 = .ok (.aload_n 0, 1) := by decide +kernel
theorem dX12_spent_27 : decode cX12_spent 27 = .ok (.getfield 7, 3) := by decide +kernel
theorem dX12_spent_30 : decode cX12_spent 30 = .ok (.bipush 7, 2) := by decide +kernel
theorem dX12_spent_32 : decode cX12_spent 32 = .ok (.iaload, 1) := by decide +kernel
theorem dX12_spent_33 : decode cX12_spent 33 = .ok (.if_icmp .ge 71, 3) := by decide +kernel
theorem dX12_spent_36 : decode cX12_spent 36 = .ok (.aload_n 0, 1) := by decide +kernel
theorem dX12_spent_37 : decode cX12_spent 37 = .ok (.getfield 7, 3) := by decide +kernel
theorem dX12_spent_40 : decode cX12_spent 40 = .ok (.bipush 104, 2) := by decide +kernel
theorem dX12_spent_42 : decode cX12_spent 42 = .ok (.iload 4, 2) := by decide +kernel
theorem dX12_spent_44 : decode cX12_spent 44 = .ok (.iadd, 1) := by decide +kernel
theorem dX12_spent_45 : decode cX12_spent 45 = .ok (.iaload, 1) := by decide +kernel
theorem dX12_spent_46 : decode cX12_spent 46 = .ok (.iload_n 1, 1) := by decide +kernel

theorem dX12_isKnown_67 : decode cX12_isKnown 67 = .ok (.iconst 0, 1) := by decide +kernel
theorem dX12_isKnown_68 : decode cX12_isKnown 68 = .ok (.istore_n 2, 1) := by decide +kernel
theorem dX12_isKnown_69 : decode cX12_isKnown 69 = .ok (.iinc 3 1, 3) := by decide +kernel
theorem dX12_isKnown_72 : decode cX12_isKnown 72 = .ok (.goto (-39), 3) := by decide +kernel
theorem dX12_isKnown_75 : decode cX12_isKnown 75 = .ok (.iload_n 2, 1) := by decide +kernel
theorem dX12_isKnown_76 : decode cX12_isKnown 76 = .ok (.ireturn, 1) := by decide +kernel
set_option maxRecDepth 20000 in
theorem ggX12_isName_X12_isKnown : GoodIn wsX12_isName wsX12_isKnown := goodIn_r _ [6, 1, 7, 8, 9, 10, 11, 12, 13, 14, 15, 16, 17, 18, 19, 20, 21, 22, 23, 24, 25, 26, 27, 28, 29, 30, 31, 32, 33, 34, 35, 36, 37, 38, 39, 40, 41, 42, 43, 44, 45, 46, 47, 48, 49, 50, 51, 52, 53, 54, 55, 56] (by decide +kernel) (by decide +kernel)
set_option maxRecDepth 20000 in
theorem gX12_isName_X12_isKnown : GoodIn wsX12_isName (wsV RX12 129 RX12 yX12_isKnown wsX12_isKnown) := goodIn_app (goodIn_of _ (by decide +kernel)) ggX12_isName_X12_isKnown
theorem dX12_isName_0 : decode cX12_isName 0 = .ok (.aload_n 0, 1) := by decide +kernel
theorem dX12_isName_1 : decode cX12_isName 1 = .ok (.getfield 113, 3) := by decide +kernel
theorem dX12_isName_4 : decode cX12_isName 4 = .ok (.iconst 1, 1) := by decide +kernel
theorem dX12_isName_5 : decode cX12_isName 5 = .ok (.if_icmp .ne 7, 3) := by decide +kernel
theorem dX12_isName_8 : decode cX12_isName 8 = .ok (.iconst 1, 1) := by decide +kernel
theorem dX12_isName_9 : decode cX12_isName 9 = .ok (.goto 4, 3) := by decide +kernel
theorem dX12_isName_12 : decode cX12_isName 12 = .ok (.iconst 0, 1) := by decide +kernel
theorem dX12_isName_13 : decode cX12_isName 13 = .ok (.istore_n 1, 1) := by decide +kernel
theorem dX12_isName_14 : decode cX12_isName 14 = .ok (.iconst 0, 1) := by decide +kernel
theorem dX12_isName_15 : decode cX12_isName 15 = .ok (.istore_n 2, 1) := by decide +kernel
theorem dX12_isName_16 : decode cX12_isName 16 = .ok (.iload_n 2, 1) := by decide +kernel
theorem dX12_isName_17 : decode cX12_isName 17 = .ok (.iconst 4, 1) := by decide +kernel
theorem dX12_isName_18 : decode cX12_isName 18 = .ok (.if_icmp .ge 27, 3) := by decide +kernel
theorem dX12_isName_21 : decode cX12_isName 21 = .ok (.iload_n 1, 1) := by decide +kernel
theorem dX12_isName_22 : decode cX12_isName 22 = .ok (.ifCond .eq 15, 3) := by decide +kernel
theorem dX12_isName_25 : decode cX12_isName 25 = .ok (.aload_n 0, 1) := by decide +kernel
theorem dX12_isName_26 : decode cX12_isName 26 = .ok (.iload_n 2, 1) := by decide +kernel
theorem dX12_isName_27 : decode cX12_isName 27 = .ok (.invokevirtual 129, 3) := by decide +kernel
theorem dX12_isName_30 : decode cX12_isName 30 = .ok (.ifCond .ne 7, 3) := by decide +kernel
theorem dX12_isName_33 : decode cX12_isName 33 = .ok (.iconst 1, 1) := by decide +kernel
theorem dX12_isName_34 : decode cX12_isName 34 = .ok (.goto 4, 3) := by decide +kernel
theorem dX12_isName_37 : decode cX12_isName 37 = .ok (.iconst 0, 1) := by decide +kernel
theorem dX12_isName_38 : decode cX12_isName 38 = .ok (.istore_n 1, 1) := by decide +kernel
theorem dX12_isName_39 : decode cX12_isName 39 = .ok (.iinc 2 1, 3) := by decide +kernel
theorem dX12_isName_42 : decode cX12_isName 42 = .ok (.goto (-26), 3) := by decide +kernel
theorem dX12_isName_45 : decode cX12_isName 45 = .ok (.iload_n 1, 1) := by decide +kernel
theorem dX12_isName_46 : decode cX12_isName 46 = .ok (.ireturn, 1) := by decide +kernel
set_option maxRecDepth 20000 in
theorem ggX12_number_X12_badHere : GoodIn wsX12_number wsX12_badHere := goodIn_r _ [7, 8, 9, 10, 11, 6, 12, 13, 14, 18, 19, 20, 21, 22, 23, 24, 25, 26, 27, 28, 29, 30, 31, 32, 33, 34, 35, 36, 37, 38, 39, 40, 41, 42, 43, 44, 45, 46, 47, 48, 49, 50, 51, 52, 53, 54, 55, 56, 57, 58, 59, 60, 61, 62, 63, 64] (by decide +kernel) (by decide +kernel)
set_option maxRecDepth 20000 in
theorem gX12_number_X12_badHere : GoodIn wsX12_number (wsV RX12 132 RX12 yX12_badHere wsX12_badHere) := goodIn_app (goodIn_of _ (by decide +kernel)) ggX12_number_X12_badHere
set_option maxRecDepth 20000 in
theorem ggX12_number_X12_isIn : GoodIn wsX12_number wsX12_isIn := goodIn_r _ [17] (by decide +kernel) (by decide +kernel)
set_option maxRecDepth 20000 in
theorem gX12_number_X12_isIn : GoodIn wsX12_number (va_wsS RX12 83 yX12_isIn wsX12_isIn) := goodIn_app (goodIn_of _ (by decide +kernel)) ggX12_number_X12_isIn
theorem dX12_number_0 : decode cX12_number 0 = .ok (.aload_n 0, 1) := by decide +kernel
theorem dX12_number_1 : decode cX12_number 1 = .ok (.getfield 113, 3) := by decide +kernel
theorem dX12_number_4 : decode cX12_number 4 = .ok (.iconst 2, 1) := by decide +kernel
theorem dX12_number_5 : decode cX12_number 5 = .ok (.if_icmp .eq 9, 3) := by decide +kernel
theorem dX12_number_8 : decode cX12_number 8 = .ok (.aload_n 0, 1) := by decide +kernel
theorem dX12_number_9 : decode cX12_number 9 = .ok (.iconst 1, 1) := by decide +kernel
theorem dX12_number_10 : decode cX12_number 10 = .ok (.invokevirtual 132, 3) := by decide +kernel
theorem dX12_number_13 : decode cX12_number 13 = .ok (.ireturn, 1) := by decide +kernel
theorem dX12_number_14 : decode cX12_number 14 = .ok (.aload_n 0, 1) := by decide +kernel
theorem dX12_number_15 : decode cX12_number 15 = .ok (.getfield 110, 3) := by decide +kernel
theorem dX12_number_18 : decode cX12_number 18 = .ok (.iload_n 1, 1) := by decide +kernel
theorem dX12_number_19 : decode cX12_number 19 = .ok (.iload_n 2, 1) := by decide +kernel
theorem dX12_number_20 : decode cX12_number 20 = .ok (.invokestatic 83, 3) := by decide +kernel
theorem dX12_number_23 : decode cX12_number 23 = .ok (.ifCond .ne 11, 3) := by decide +kernel
theorem dX12_number_26 : decode cX12_number 26 = .ok (.aload_n 0, 1) := by decide +kernel
theorem dX12_number_27 : decode cX12_number 27 = .ok (.iconst 2, 1) := by decide +kernel
theorem dX12_number_28 : decode cX12_number 28 = .ok (.invokevirtual 132, 3) := by decide +kernel
theorem dX12_number_31 : decode cX12_number 31 = .ok (.ifCond .eq 7, 3) := by decide +kernel
theorem dX12_number_34 : decode cX12_number 34 = .ok (.iconst 1, 1) := by decide +kernel
theorem dX12_number_35 : decode cX12_number 35 = .ok (.goto 4, 3) := by decide +kernel
theorem dX12_number_38 : decode cX12_number 38 = .ok (.iconst 0, 1) := by decide +kernel
theorem dX12_number_39 : decode cX12_number 39 = .ok (.ireturn, 1) := by decide +kernel
theorem dX12_isSign_0 : decode cX12_isSign 0 = .ok (.aload_n 0, 1) := by decide +kernel
theorem dX12_isSign_1 : decode cX12_isSign 1 = .ok (.getfield 113, 3) := by decide +kernel
theorem dX12_isSign_4 : decode cX12_isSign 4 = .ok (.iconst 3, 1) := by decide +kernel
theorem dX12_isSign_5 : decode cX12_isSign 5 = .ok (.if_icmp .ne 15, 3) := by decide +kernel
theorem dX12_isSign_8 : decode cX12_isSign 8 = .ok (.aload_n 0, 1) := by decide +kernel
theorem dX12_isSign_9 : decode cX12_isSign 9 = .ok (.getfield 110, 3) := by decide +kernel
theorem dX12_isSign_12 : decode cX12_isSign 12 = .ok (.iload_n 1, 1) := by decide +kernel
theorem dX12_isSign_13 : decode cX12_isSign 13 = .ok (.if_icmp .ne 7, 3) := by decide +kernel
theorem dX12_isSign_16 : decode cX12_isSign 16 = .ok (.iconst 1, 1) := by decide +kernel
theorem dX12_isSign_17 : decode cX12_isSign 17 = .ok (.goto 4, 3) := by decide +kernel
theorem dX12_isSign_20 : decode cX12_isSign 20 = .ok (.iconst 0, 1) := by decide +kernel
theorem dX12_isSign_21 : decode cX12_isSign 21 = .ok (.ireturn, 1) := by decide +kernel
theorem dX12_named_0 : decode cX12_named 0 = .ok (.iconst 0, 1) := by decide +kernel
theorem dX12_named_1 : decode cX12_named 1 = .ok (.istore_n 2, 1) := by decide +kernel
theorem dX12_named_2 : decode cX12_named 2 = .ok (.iload_n 2, 1) := by decide +kernel
theorem dX12_named_3 : decode cX12_named 3 = .ok (.aload_n 1, 1) := by decide +kernel
theorem dX12_named_4 : decode cX12_named 4 = .ok (.iconst 2, 1) := by decide +kernel
theorem dX12_named_5 : decode cX12_named 5 = .ok (.iaload, 1) := by decide +kernel
theorem dX12_named_6 : decode cX12_named 6 = .ok (.if_icmp .ge 78, 3) := by decide +kernel
theorem dX12_named_9 : decode cX12_named 9 = .ok (.iconst 1, 1) := by decide +kernel
theorem dX12_named_10 : decode cX12_named 10 = .ok (.istore_n 3, 1) := by decide +kernel
theorem dX12_named_11 : decode cX12_named 11 = .ok (.iconst 0, 1) := by decide +kernel
theorem dX12_named_12 : decode cX12_named 12 = .ok (.istore 4, 2) := by decide +kernel
theorem dX12_named_14 : decode cX12_named 14 = .ok (.iload 4, 2) := by decide +kernel
theorem dX12_named_16 : decode cX12_named 16 = .ok (.bipush 6, 2) := by decide +kernel
theorem dX12_named_18 : decode cX12_named 18 = .ok (.if_icmp .ge 54, 3) := by decide +kernel
theorem dX12_named_21 : decode cX12_named 21 = .ok (.iload_n 3, 1) := by decide +kernel
theorem dX12_named_22 : decode cX12_named 22 = .ok (.ifCond .eq 50, 3) := by decide +kernel
theorem dX12_named_25 : decode cX12_named 25 = .ok (.aload_n 1, 1) := by decide +kernel
theorem dX12_named_26 : decode cX12_named 26 = .ok (.bipush 56, 2) := by decide +kernel
theorem dX12_named_28 : decode cX12_named 28 = .ok (.bipush 6, 2) := by decide +kernel
theorem dX12_named_30 : decode cX12_named 30 = .ok (.iload_n 2, 1) := by decide +kernel
theorem dX12_named_31 : decode cX12_named 31 = .ok (.imul, 1) := by decide +kernel
theorem dX12_named_32 : decode cX12_named 32 = .ok (.iadd, 1) := by decide +kernel
theorem dX12_named_33 : decode cX12_named 33 = .ok (.iload 4, 2) := by decide +kernel
theorem dX12_named_35 : decode cX12_named 35 = .ok (.iadd, 1) := by decide +kernel
theorem dX12_named_36 : decode cX12_named 36 = .ok (.iaload, 1) := by decide +kernel
theorem dX12_named_37 : decode cX12_named 37 = .ok (.iload 4, 2) := by decide +kernel
theorem dX12_named_39 : decode cX12_named 39 = .ok (.aload_n 0, 1) := by decide +kernel
theorem dX12_named_40 : decode cX12_named 40 = .ok (.getfield 123, 3) := by decide +kernel
theorem dX12_named_43 : decode cX12_named 43 = .ok (.if_icmp .ge 13, 3) := by decide +kernel
theorem dX12_named_46 : decode cX12_named 46 = .ok (.aload_n 0, 1) := by decide +kernel
theorem dX12_named_47 : decode cX12_named 47 = .ok (.getfield 30, 3) := by decide +kernel
theorem dX12_named_50 : decode cX12_named 50 = .ok (.iload 4, 2) := by decide +kernel
theorem dX12_named_52 : decode cX12_named 52 = .ok (.baload, 1) := by decide +kernel
theorem dX12_named_53 : decode cX12_named 53 = .ok (.goto 4, 3) := by decide +kernel
theorem dX12_named_56 : decode cX12_named 56 = .ok (.iconst 0, 1) := by decide +kernel
theorem dX12_named_57 : decode cX12_named 57 = .ok (.if_icmp .ne 7, 3) := by decide +kernel
theorem dX12_named_60 : decode cX12_named 60 = .ok (.iconst 1, 1) := by decide +kernel
theorem dX12_named_61 : decode cX12_named 61 = .ok (.goto 4, 3) := by decide +kernel
theorem dX12_named_64 : decode cX12_named 64 = .ok (.iconst 0, 1) := by decide +kernel
theorem dX12_named_65 : decode cX12_named 65 = .ok (.istore_n 3, 1) := by decide +kernel
theorem dX12_named_66 : decode cX12_named 66 = .ok (.iinc 4 1, 3) := by decide +kernel
theorem dX12_named_69 : decode cX12_named 69 = .ok (.goto (-55), 3) := by decide +kernel
theorem dX12_named_72 : decode cX12_named 72 = .ok (.iload_n 3, 1) := by decide +kernel
theorem dX12_named_73 : decode cX12_named 73 = .ok (.ifCond .eq 5, 3) := by decide +kernel
theorem dX12_named_76 : decode cX12_named 76 = .ok (.iload_n 2, 1) := by decide +kernel
theorem dX12_named_77 : decode cX12_named 77 = .ok (.ireturn, 1) := by decide +kernel
theorem dX12_named_78 : decode cX12_named 78 = .ok (.iinc 2 1, 3) := by decide +kernel
theorem dX12_named_81 : decode cX12_named 81 = .ok (.goto (-79), 3) := by decide +kernel
theorem dX12_named_84 : decode cX12_named 84 = .ok (.iconst (-1), 1) := by decide +kernel
theorem dX12_named_85 : decode cX12_named 85 = .ok (.ireturn, 1) := by decide +kernel
set_option maxRecDepth 20000 in
theorem ggX12_item_X12_badHere : GoodIn wsX12_item wsX12_badHere := goodIn_r _ [9, 10, 11, 12, 13, 8, 14, 15, 16, 55, 56, 57, 58, 59, 60, 61, 62, 63, 64, 65, 66, 67, 68, 69, 70, 71, 72, 73, 74, 75, 76, 77, 78, 79, 80, 81, 82, 83, 84, 85, 86, 87, 88, 89, 90, 91, 92, 93, 94, 95, 96, 97, 98, 99, 100, 101] (by decide +kernel) (by decide +kernel)
set_option maxRecDepth 20000 in
theorem gX12_item_X12_badHere : GoodIn wsX12_item (wsV RX12 132 RX12 yX12_badHere wsX12_badHere) := goodIn_app (goodIn_of _ (by decide +kernel)) ggX12_item_X12_badHere
set_option maxRecDepth 20000 in
theorem ggX12_item_X12_next : GoodIn wsX12_item wsX12_next := goodIn_r _ [20, 21, 10, 4, 22, 3, 2, 23, 24, 25, 8, 26, 27, 28, 29, 30, 31, 32, 33, 34, 35, 36, 37, 55, 56, 57, 58, 59, 60, 61, 62, 63, 64, 65, 66, 67, 68, 69, 70, 71, 72, 73, 74, 75, 76, 77, 78, 79, 80, 81, 82, 83, 84, 85, 86, 87, 88, 89, 90, 91, 92, 93, 94, 95, 96, 97, 98, 99, 100, 101] (by decide +kernel) (by decide +kernel)
set_option maxRecDepth 20000 in
theorem gX12_item_X12_next : GoodIn wsX12_item (wsV RX12 135 RX12 yX12_next wsX12_next) := goodIn_app (goodIn_of _ (by decide +kernel)) ggX12_item_X12_next
set_option maxRecDepth 20000 in
theorem ggX12_item_X12_isName : GoodIn wsX12_item wsX12_isName := goodIn_r _ [41, 22, 42, 43, 44, 8, 45, 2, 3, 46, 55, 56, 57, 58, 59, 60, 61, 62, 63, 64, 65, 66, 67, 68, 69, 70, 71, 72, 73, 74, 75, 76, 77, 78, 79, 80, 81, 82, 83, 84, 85, 86, 87, 88, 89, 90, 91, 92, 93, 94, 95, 96, 97, 98, 99, 100, 101] (by decide +kernel) (by decide +kernel)
set_option maxRecDepth 20000 in
theorem gX12_item_X12_isName : GoodIn wsX12_item (wsV RX12 138 RX12 yX12_isName wsX12_isName) := goodIn_app (goodIn_of _ (by decide +kernel)) ggX12_item_X12_isName
set_option maxRecDepth 20000 in
theorem ggX12_item_X12_named : GoodIn wsX12_item wsX12_named := goodIn_r _ [50, 2, 3, 55, 56, 57, 58, 59, 60, 61, 62, 63, 64, 65, 66, 67, 68, 69, 70, 71, 72, 73, 74, 75, 76, 77, 78, 79, 80, 81, 82, 83, 84, 85, 86, 87, 88, 89, 90, 91, 92, 93, 94, 95, 96, 97, 98, 99, 100, 101] (by decide +kernel) (by decide +kernel)
set_option maxRecDepth 20000 in
theorem gX12_item_X12_named : GoodIn wsX12_item (wsV RX12 142 RX12 yX12_named wsX12_named) := goodIn_app (goodIn_of _ (by decide +kernel)) ggX12_item_X12_named
set_option maxRecDepth 20000 in
theorem ggX12_item_X12_number : GoodIn wsX12_item wsX12_number := goodIn_r _ [54, 22, 4, 5, 6, 7, 8, 9, 10, 11, 12, 13, 14, 15, 16, 32, 33, 34, 55, 56, 57, 58, 59, 60, 61, 62, 63, 64, 65, 66, 67, 68, 69, 70, 71, 72, 73, 74, 75, 76, 77, 78, 79, 80, 81, 82, 83, 84, 85, 86, 87, 88, 89, 90, 91, 92, 93, 94, 95, 96, 97, 98, 99, 100, 101] (by decide +kernel) (by decide +kernel)
set_option maxRecDepth 20000 in
theorem gX12_item_X12_number : GoodIn wsX12_item (wsV RX12 146 RX12 yX12_number wsX12_number) := goodIn_app (goodIn_of _ (by decide +kernel)) ggX12_item_X12_number
theorem dX12_item_0 : decode cX12_item 0 = .ok (.aload_n 0, 1) := by decide +kernel
theorem dX12_item_1 : decode cX12_item 1 = .ok (.getfield 19, 3) := by decide +kernel
theorem dX12_item_4 : decode cX12_item 4 = .ok (.iconst 2, 1) := by decide +kernel
theorem dX12_item_5 : decode cX12_item 5 = .ok (.iaload, 1) := by decide +kernel
theorem dX12_item_6 : decode cX12_item 6 = .ok (.bipush 8, 2) := by decide +kernel
theorem dX12_item_8 : decode cX12_item 8 = .ok (.if_icmp .ne 9, 3) := by decide +kernel
theorem dX12_item_11 : decode cX12_item 11 = .ok (.aload_n 0, 1) := by decide +kernel
theorem dX12_item_12 : decode cX12_item 12 = .ok (.iconst 4, 1) := by decide +kernel
theorem dX12_item_13 : decode cX12_item 13 = .ok (.invokevirtual 132, 3) := by decide +kernel
theorem dX12_item_16 : decode cX12_item 16 = .ok (.ireturn, 1) := by decide +kernel
theorem dX12_item_17 : decode cX12_item 17 = .ok (.aload_n 0, 1) := by decide +kernel
theorem dX12_item_18 : decode cX12_item 18 = .ok (.invokevirtual 135, 3) := by decide +kernel
theorem dX12_item_21 : decode cX12_item 21 = .ok (.aload_n 0, 1) := by decide +kernel
theorem dX12_item_22 : decode cX12_item 22 = .ok (.invokevirtual 138, 3) := by decide +kernel
theorem dX12_item_25 : decode cX12_item 25 = .ok (.ifCond .ne 9, 3) := by decide +kernel
theorem dX12_item_28 : decode cX12_item 28 = .ok (.aload_n 0, 1) := by decide +kernel
theorem dX12_item_29 : decode cX12_item 29 = .ok (.iconst 1, 1) := by decide +kernel
theorem dX12_item_30 : decode cX12_item 30 = .ok (.invokevirtual 132, 3) := by decide +kernel
theorem dX12_item_33 : decode cX12_item 33 = .ok (.ireturn, 1) := by decide +kernel
theorem dX12_item_34 : decode cX12_item 34 = .ok (.aload_n 0, 1) := by decide +kernel
theorem dX12_item_35 : decode cX12_item 35 = .ok (.aload_n 0, 1) := by decide +kernel
theorem dX12_item_36 : decode cX12_item 36 = .ok (.getfield 19, 3) := by decide +kernel
theorem dX12_item_39 : decode cX12_item 39 = .ok (.invokevirtual 142, 3) := by decide +kernel
theorem dX12_item_42 : decode cX12_item 42 = .ok (.ifCond .lt 9, 3) := by decide +kernel
theorem dX12_item_45 : decode cX12_item 45 = .ok (.aload_n 0, 1) := by decide +kernel
theorem dX12_item_46 : decode cX12_item 46 = .ok (.iconst 3, 1) := by decide +kernel
theorem dX12_item_47 : decode cX12_item 47 = .ok (.invokevirtual 132, 3) := by decide +kernel
theorem dX12_item_50 : decode cX12_item 50 = .ok (.ireturn, 1) := by decide +kernel
theorem dX12_item_51 : decode cX12_item 51 = .ok (.aload_n 0, 1) := by decide +kernel
theorem dX12_item_52 : decode cX12_item 52 = .ok (.getfield 19, 3) := by decide +kernel
theorem dX12_item_55 : decode cX12_item 55 = .ok (.iconst 2, 1) := by decide +kernel
theorem dX12_item_56 : decode cX12_item 56 = .ok (.iaload, 1) := by decide +kernel
theorem dX12_item_57 : decode cX12_item 57 = .ok (.istore_n 1, 1) := by decide +kernel
theorem dX12_item_58 : decode cX12_item 58 = .ok (.iconst 0, 1) := by decide +kernel
theorem dX12_item_59 : decode cX12_item 59 = .ok (.istore_n 2, 1) := by decide +kernel
theorem dX12_item_60 : decode cX12_item 60 = .ok (.iload_n 2, 1) := by decide +kernel
theorem dX12_item_61 : decode cX12_item 61 = .ok (.bipush 6, 2) := by decide +kernel
theorem dX12_item_63 : decode cX12_item 63 = .ok (.if_icmp .ge 41, 3) := by decide +kernel
theorem dX12_item_66 : decode cX12_item 66 = .ok (.aload_n 0, 1) := by decide +kernel
theorem dX12_item_67 : decode cX12_item 67 = .ok (.getfield 19, 3) := by decide +kernel
theorem dX12_item_70 : decode cX12_item 70 = .ok (.bipush 56, 2) := by decide +kernel
theorem dX12_item_72 : decode cX12_item 72 = .ok (.bipush 6, 2) := by decide +kernel
theorem dX12_item_74 : decode cX12_item 74 = .ok (.iload_n 1, 1) := by decide +kernel
theorem dX12_item_75 : decode cX12_item 75 = .ok (.imul, 1) := by decide +kernel
theorem dX12_item_76 : decode cX12_item 76 = .ok (.iadd, 1) := by decide +kernel
theorem dX12_item_77 : decode cX12_item 77 = .ok (.iload_n 2, 1) := by decide +kernel
theorem dX12_item_78 : decode cX12_item 78 = .ok (.iadd, 1) := by decide +kernel
theorem dX12_item_79 : decode cX12_item 79 = .ok (.iload_n 2, 1) := by decide +kernel
theorem dX12_item_80 : decode cX12_item 80 = .ok (.aload_n 0, 1) := by decide +kernel
theorem dX12_item_81 : decode cX12_item 81 = .ok (.getfield 123, 3) := by decide +kernel
theorem dX12_item_84 : decode cX12_item 84 = .ok (.if_icmp .ge 12, 3) := by decide +kernel
theorem dX12_item_87 : decode cX12_item 87 = .ok (.aload_n 0, 1) := by decide +kernel
theorem dX12_item_88 : decode cX12_item 88 = .ok (.getfield 30, 3) := by decide +kernel
theorem dX12_item_91 : decode cX12_item 91 = .ok (.iload_n 2, 1) := by decide +kernel
theorem dX12_item_92 : decode cX12_item 92 = .ok (.baload, 1) := by decide +kernel
theorem dX12_item_93 : decode cX12_item 93 = .ok (.goto 4, 3) := by decide +kernel
theorem dX12_item_96 : decode cX12_item 96 = .ok (.iconst 0, 1) := by decide +kernel
theorem dX12_item_97 : decode cX12_item 97 = .ok (.iastore, 1) := by decide +kernel
theorem dX12_item_98 : decode cX12_item 98 = .ok (.iinc 2 1, 3) := by decide +kernel
theorem dX12_item_101 : decode cX12_item 101 = .ok (.goto (-41), 3) := by decide +kernel
theorem dX12_item_104 : decode cX12_item 104 = .ok (.aload_n 0, 1) := by decide +kernel
theorem dX12_item_105 : decode cX12_item 105 = .ok (.invokevirtual 135, 3) := by decide +kernel
theorem dX12_item_108 : decode cX12_item 108 = .ok (.aload_n 0, 1) := by decide +kernel
theorem dX12_item_109 : decode cX12_item 109 = .ok (.iconst 1, 1) := by decide +kernel
theorem dX12_item_110 : decode cX12_item 110 = .ok (.bipush 6, 2) := by decide +kernel
theorem dX12_item_112 : decode cX12_item 112 = .ok (.invokevirtual 146, 3) := by decide +kernel
theorem dX12_item_115 : decode cX12_item 115 = .ok (.ifCond .ne 5, 3) := by decide +kernel
theorem dX12_item_118 : decode cX12_item 118 = .ok (.iconst 0, 1) := by decide +kernel
theorem dX12_item_119 : decode cX12_item 119 = .ok (.ireturn, 1) := by decide +kernel
theorem dX12_item_120 : decode cX12_item 120 = .ok (.aload_n 0, 1) := by decide +kernel
theorem dX12_item_121 : decode cX12_item 121 = .ok (.getfield 19, 3) := by decide +kernel
theorem dX12_item_124 : decode cX12_item 124 = .ok (.bipush 8, 2) := by decide +kernel
theorem dX12_item_126 : decode cX12_item 126 = .ok (.iload_n 1, 1) := by decide +kernel
theorem dX12_item_127 : decode cX12_item 127 = .ok (.iadd, 1) := by decide +kernel
theorem dX12_item_128 : decode cX12_item 128 = .ok (.aload_n 0, 1) := by decide +kernel
theorem dX12_item_129 : decode cX12_item 129 = .ok (.getfield 110, 3) := by decide +kernel
theorem dX12_item_132 : decode cX12_item 132 = .ok (.iastore, 1) := by decide +kernel
theorem dX12_item_133 : decode cX12_item 133 = .ok (.aload_n 0, 1) := by decide +kernel
theorem dX12_item_134 : decode cX12_item 134 = .ok (.invokevirtual 135, 3) := by decide +kernel
theorem dX12_item_137 : decode cX12_item 137 = .ok (.aload_n 0, 1) := by decide +kernel
theorem dX12_item_138 : decode cX12_item 138 = .ok (.iconst 1, 1) := by decide +kernel
theorem dX12_item_139 : decode cX12_item 139 = .ok (.bipush 60, 2) := by decide +kernel
theorem dX12_item_141 : decode cX12_item 141 = .ok (.invokevirtual 146, 3) := by decide +kernel
theorem dX12_item_144 : decode cX12_item 144 = .ok (.ifCond .ne 5, 3) := by decide +kernel
theorem dX12_item_147 : decode cX12_item 147 = .ok (.iconst 0, 1) := by decide +kernel
theorem dX12_item_148 : decode cX12_item 148 = .ok (.ireturn, 1) := by decide +kernel
theorem dX12_item_149 : decode cX12_item 149 = .ok (.aload_n 0, 1) := by decide +kernel
theorem dX12_item_150 : decode cX12_item 150 = .ok (.getfield 19, 3) := by decide +kernel
theorem dX12_item_153 : decode cX12_item 153 = .ok (.bipush 16, 2) := by decide +kernel
theorem dX12_item_155 : decode cX12_item 155 = .ok (.iload_n 1, 1) := by decide +kernel
theorem dX12_item_156 : decode cX12_item 156 = .ok (.iadd, 1) := by decide +kernel
theorem dX12_item_157 : decode cX12_item 157 = .ok (.aload_n 0, 1) := by decide +kernel
theorem dX12_item_158 : decode cX12_item 158 = .ok (.getfield 110, 3) := by decide +kernel
theorem dX12_item_161 : decode cX12_item 161 = .ok (.iastore, 1) := by decide +kernel
theorem dX12_item_162 : decode cX12_item 162 = .ok (.aload_n 0, 1) := by decide +kernel
theorem dX12_item_163 : decode cX12_item 163 = .ok (.invokevirtual 135, 3) := by decide +kernel
theorem dX12_item_166 : decode cX12_item 166 = .ok (.aload_n 0, 1) := by decide +kernel
theorem dX12_item_167 : decode cX12_item 167 = .ok (.iconst 1, 1) := by decide +kernel
theorem dX12_item_168 : decode cX12_item 168 = .ok (.bipush 20, 2) := by decide +kernel
theorem dX12_item_170 : decode cX12_item 170 = .ok (.invokevirtual 146, 3) := by decide +kernel
theorem dX12_item_173 : decode cX12_item 173 = .ok (.ifCond .ne 5, 3) := by decide +kernel
theorem dX12_item_176 : decode cX12_item 176 = .ok (.iconst 0, 1) := by decide +kernel
theorem dX12_item_177 : decode cX12_item 177 = .ok (.ireturn, 1) := by decide +kernel
theorem dX12_item_178 : decode cX12_item 178 = .ok (.aload_n 0, 1) := by decide +kernel
theorem dX12_item_179 : decode cX12_item 179 = .ok (.getfield 19, 3) := by decide +kernel
theorem dX12_item_182 : decode cX12_item 182 = .ok (.bipush 24, 2) := by decide +kernel
theorem dX12_item_184 : decode cX12_item 184 = .ok (.iload_n 1, 1) := by decide +kernel
theorem dX12_item_185 : decode cX12_item 185 = .ok (.iadd, 1) := by decide +kernel
theorem dX12_item_186 : decode cX12_item 186 = .ok (.aload_n 0, 1) := by decide +kernel
theorem dX12_item_187 : decode cX12_item 187 = .ok (.getfield 110, 3) := by decide +kernel
theorem dX12_item_190 : decode cX12_item 190 = .ok (.iastore, 1) := by decide +kernel
theorem dX12_item_191 : decode cX12_item 191 = .ok (.aload_n 0, 1) := by decide +kernel
theorem dX12_item_192 : decode cX12_item 192 = .ok (.getfield 19, 3) := by decide +kernel
theorem dX12_item_195 : decode cX12_item 195 = .ok (.iconst 2, 1) := by decide +kernel
theorem dX12_item_196 : decode cX12_item 196 = .ok (.dup2, 1) := by decide +kernel
theorem dX12_item_197 : decode cX12_item 197 = .ok (.iaload, 1) := by decide +kernel
theorem dX12_item_198 : decode cX12_item 198 = .ok (.iconst 1, 1) := by decide +kernel
theorem dX12_item_199 : decode cX12_item 199 = .ok (.iadd, 1) := by decide +kernel
theorem dX12_item_200 : decode cX12_item 200 = .ok (.iastore, 1) := by decide +kernel
theorem dX12_item_201 : decode cX12_item 201 = .ok (.aload_n 0, 1) := by decide +kernel
theorem dX12_item_202 : decode cX12_item 202 = .ok (.invokevirtual 135, 3) := by decide +kernel
theorem dX12_item_205 : decode cX12_item 205 = .ok (.iconst 1, 1) := by decide +kernel
theorem dX12_item_206 : decode cX12_item 206 = .ok (.ireturn, 1) := by decide +kernel
set_option maxRecDepth 20000 in
theorem ggX12_roomLine_X12_badHere : GoodIn wsX12_roomLine wsX12_badHere := goodIn_r _ [8, 9, 10, 11, 12, 7, 13, 14, 15, 43, 44, 45, 46, 47, 48, 49, 50, 51, 52, 53, 54, 55, 56, 57, 58, 59, 60, 61, 62, 63, 64, 65, 66, 67, 68, 69, 70, 71, 72, 73, 74, 75, 76, 77, 78, 79, 80, 81, 82, 83, 84, 85, 86, 87, 88, 89] (by decide +kernel) (by decide +kernel)
set_option maxRecDepth 20000 in
theorem gX12_roomLine_X12_badHere : GoodIn wsX12_roomLine (wsV RX12 132 RX12 yX12_badHere wsX12_badHere) := goodIn_app (goodIn_of _ (by decide +kernel)) ggX12_roomLine_X12_badHere
set_option maxRecDepth 20000 in
theorem ggX12_roomLine_X12_next : GoodIn wsX12_roomLine wsX12_next := goodIn_r _ [19, 20, 9, 3, 21, 22, 23, 24, 25, 26, 7, 27, 28, 29, 30, 31, 32, 33, 34, 35, 36, 37, 38, 43, 44, 45, 46, 47, 48, 49, 50, 51, 52, 53, 54, 55, 56, 57, 58, 59, 60, 61, 62, 63, 64, 65, 66, 67, 68, 69, 70, 71, 72, 73, 74, 75, 76, 77, 78, 79, 80, 81, 82, 83, 84, 85, 86, 87, 88, 89] (by decide +kernel) (by decide +kernel)
set_option maxRecDepth 20000 in
theorem gX12_roomLine_X12_next : GoodIn wsX12_roomLine (wsV RX12 135 RX12 yX12_next wsX12_next) := goodIn_app (goodIn_of _ (by decide +kernel)) ggX12_roomLine_X12_next
set_option maxRecDepth 20000 in
theorem ggX12_roomLine_X12_number : GoodIn wsX12_roomLine wsX12_number := goodIn_r _ [42, 21, 3, 4, 5, 6, 7, 8, 9, 10, 11, 12, 13, 14, 15, 33, 34, 35, 43, 44, 45, 46, 47, 48, 49, 50, 51, 52, 53, 54, 55, 56, 57, 58, 59, 60, 61, 62, 63, 64, 65, 66, 67, 68, 69, 70, 71, 72, 73, 74, 75, 76, 77, 78, 79, 80, 81, 82, 83, 84, 85, 86, 87, 88, 89] (by decide +kernel) (by decide +kernel)
set_option maxRecDepth 20000 in
theorem gX12_roomLine_X12_number : GoodIn wsX12_roomLine (wsV RX12 146 RX12 yX12_number wsX12_number) := goodIn_app (goodIn_of _ (by decide +kernel)) ggX12_roomLine_X12_number
theorem dX12_roomLine_0 : decode cX12_roomLine 0 = .ok (.aload_n 0, 1) := by decide +kernel
theorem dX12_roomLine_1 : decode cX12_roomLine 1 = .ok (.getfield 149, 3) := by decide +kernel
theorem dX12_roomLine_4 : decode cX12_roomLine 4 = .ok (.ifCond .eq 9, 3) := by decide +kernel
theorem dX12_roomLine_7 : decode cX12_roomLine 7 = .ok (.aload_n 0, 1) := by decide +kernel
theorem dX12_roomLine_8 : decode cX12_roomLine 8 = .ok (.iconst 3, 1) := by decide +kernel
theorem dX12_roomLine_9 : decode cX12_roomLine 9 = .ok (.invokevirtual 132, 3) := by decide +kernel
theorem dX12_roomLine_12 : decode cX12_roomLine 12 = .ok (.ireturn, 1) := by decide +kernel
theorem dX12_roomLine_13 : decode cX12_roomLine 13 = .ok (.aload_n 0, 1) := by decide +kernel
theorem dX12_roomLine_14 : decode cX12_roomLine 14 = .ok (.iconst 1, 1) := by decide +kernel
theorem dX12_roomLine_15 : decode cX12_roomLine 15 = .ok (.putfield 149, 3) := by decide +kernel
theorem dX12_roomLine_18 : decode cX12_roomLine 18 = .ok (.aload_n 0, 1) := by decide +kernel
theorem dX12_roomLine_19 : decode cX12_roomLine 19 = .ok (.invokevirtual 135, 3) := by decide +kernel
theorem dX12_roomLine_22 : decode cX12_roomLine 22 = .ok (.aload_n 0, 1) := by decide +kernel
theorem dX12_roomLine_23 : decode cX12_roomLine 23 = .ok (.iconst 1, 1) := by decide +kernel
theorem dX12_roomLine_24 : decode cX12_roomLine 24 = .ok (.bipush 20, 2) := by decide +kernel
theorem dX12_roomLine_26 : decode cX12_roomLine 26 = .ok (.invokevirtual 146, 3) := by decide +kernel
theorem dX12_roomLine_29 : decode cX12_roomLine 29 = .ok (.ifCond .ne 5, 3) := by decide +kernel
theorem dX12_roomLine_32 : decode cX12_roomLine 32 = .ok (.iconst 0, 1) := by decide +kernel
theorem dX12_roomLine_33 : decode cX12_roomLine 33 = .ok (.ireturn, 1) := by decide +kernel
theorem dX12_roomLine_34 : decode cX12_roomLine 34 = .ok (.aload_n 0, 1) := by decide +kernel
theorem dX12_roomLine_35 : decode cX12_roomLine 35 = .ok (.getfield 19, 3) := by decide +kernel
theorem dX12_roomLine_38 : decode cX12_roomLine 38 = .ok (.iconst 0, 1) := by decide +kernel
theorem dX12_roomLine_39 : decode cX12_roomLine 39 = .ok (.aload_n 0, 1) := by decide +kernel
theorem dX12_roomLine_40 : decode cX12_roomLine 40 = .ok (.getfield 110, 3) := by decide +kernel
theorem dX12_roomLine_43 : decode cX12_roomLine 43 = .ok (.iastore, 1) := by decide +kernel
theorem dX12_roomLine_44 : decode cX12_roomLine 44 = .ok (.aload_n 0, 1) := by decide +kernel
theorem dX12_roomLine_45 : decode cX12_roomLine 45 = .ok (.invokevirtual 135, 3) := by decide +kernel
theorem dX12_roomLine_48 : decode cX12_roomLine 48 = .ok (.iconst 1, 1) := by decide +kernel
theorem dX12_roomLine_49 : decode cX12_roomLine 49 = .ok (.ireturn, 1) := by decide +kernel
set_option maxRecDepth 20000 in
theorem ggX12_ruleLine_X12_badHere : GoodIn wsX12_ruleLine wsX12_badHere := goodIn_r _ [7, 8, 9, 10, 11, 6, 12, 13, 14, 44, 45, 46, 47, 48, 49, 50, 51, 52, 53, 54, 55, 56, 57, 58, 59, 60, 61, 62, 63, 64, 65, 66, 67, 68, 69, 70, 71, 72, 73, 74, 75, 76, 77, 78, 79, 80, 81, 82, 83, 84, 85, 86, 87, 88, 89, 90] (by decide +kernel) (by decide +kernel)
set_option maxRecDepth 20000 in
theorem gX12_ruleLine_X12_badHere : GoodIn wsX12_ruleLine (wsV RX12 132 RX12 yX12_badHere wsX12_badHere) := goodIn_app (goodIn_of _ (by decide +kernel)) ggX12_ruleLine_X12_badHere
set_option maxRecDepth 20000 in
theorem ggX12_ruleLine_X12_next : GoodIn wsX12_ruleLine wsX12_next := goodIn_r _ [18, 19, 8, 20, 21, 22, 23, 24, 25, 26, 6, 27, 28, 29, 30, 31, 32, 33, 34, 35, 36, 37, 38, 44, 45, 46, 47, 48, 49, 50, 51, 52, 53, 54, 55, 56, 57, 58, 59, 60, 61, 62, 63, 64, 65, 66, 67, 68, 69, 70, 71, 72, 73, 74, 75, 76, 77, 78, 79, 80, 81, 82, 83, 84, 85, 86, 87, 88, 89, 90] (by decide +kernel) (by decide +kernel)
set_option maxRecDepth 20000 in
theorem gX12_ruleLine_X12_next : GoodIn wsX12_ruleLine (wsV RX12 135 RX12 yX12_next wsX12_next) := goodIn_app (goodIn_of _ (by decide +kernel)) ggX12_ruleLine_X12_next
set_option maxRecDepth 20000 in
theorem ggX12_ruleLine_X12_isKnown : GoodIn wsX12_ruleLine wsX12_isKnown := goodIn_r _ [42, 21, 23, 22, 43, 44, 45, 46, 47, 48, 49, 50, 51, 52, 53, 54, 55, 56, 57, 58, 59, 60, 61, 62, 63, 64, 65, 66, 67, 68, 69, 70, 71, 72, 73, 74, 75, 76, 77, 78, 79, 80, 81, 82, 83, 84, 85, 86, 87, 88, 89, 90] (by decide +kernel) (by decide +kernel)
set_option maxRecDepth 20000 in
theorem gX12_ruleLine_X12_isKnown : GoodIn wsX12_ruleLine (wsV RX12 129 RX12 yX12_isKnown wsX12_isKnown) := goodIn_app (goodIn_of _ (by decide +kernel)) ggX12_ruleLine_X12_isKnown
theorem dX12_ruleLine_0 : decode cX12_ruleLine 0 = .ok (.aload_n 0, 1) := by decide +kernel
theorem dX12_ruleLine_1 : decode cX12_ruleLine 1 = .ok (.getfield 153, 3) := by decide +kernel
theorem dX12_ruleLine_4 : decode cX12_ruleLine 4 = .ok (.ifCond .eq 9, 3) := by decide +kernel
theorem dX12_ruleLine_7 : decode cX12_ruleLine 7 = .ok (.aload_n 0, 1) := by decide +kernel
theorem dX12_ruleLine_8 : decode cX12_ruleLine 8 = .ok (.iconst 3, 1) := by decide +kernel
theorem dX12_ruleLine_9 : decode cX12_ruleLine 9 = .ok (.invokevirtual 132, 3) := by decide +kernel
theorem dX12_ruleLine_12 : decode cX12_ruleLine 12 = .ok (.ireturn, 1) := by decide +kernel
theorem dX12_ruleLine_13 : decode cX12_ruleLine 13 = .ok (.aload_n 0, 1) := by decide +kernel
theorem dX12_ruleLine_14 : decode cX12_ruleLine 14 = .ok (.iconst 1, 1) := by decide +kernel
theorem dX12_ruleLine_15 : decode cX12_ruleLine 15 = .ok (.putfield 153, 3) := by decide +kernel
theorem dX12_ruleLine_18 : decode cX12_ruleLine 18 = .ok (.aload_n 0, 1) := by decide +kernel
theorem dX12_ruleLine_19 : decode cX12_ruleLine 19 = .ok (.invokevirtual 135, 3) := by decide +kernel
theorem dX12_ruleLine_22 : decode cX12_ruleLine 22 = .ok (.iconst 4, 1) := by decide +kernel
theorem dX12_ruleLine_23 : decode cX12_ruleLine 23 = .ok (.istore_n 1, 1) := by decide +kernel
theorem dX12_ruleLine_24 : decode cX12_ruleLine 24 = .ok (.iload_n 1, 1) := by decide +kernel
theorem dX12_ruleLine_25 : decode cX12_ruleLine 25 = .ok (.bipush 7, 2) := by decide +kernel
theorem dX12_ruleLine_27 : decode cX12_ruleLine 27 = .ok (.if_icmp .ge 17, 3) := by decide +kernel
theorem dX12_ruleLine_30 : decode cX12_ruleLine 30 = .ok (.aload_n 0, 1) := by decide +kernel
theorem dX12_ruleLine_31 : decode cX12_ruleLine 31 = .ok (.iload_n 1, 1) := by decide +kernel
theorem dX12_ruleLine_32 : decode cX12_ruleLine 32 = .ok (.invokevirtual 129, 3) := by decide +kernel
theorem dX12_ruleLine_35 : decode cX12_ruleLine 35 = .ok (.ifCond .ne 9, 3) := by decide +kernel
theorem dX12_ruleLine_38 : decode cX12_ruleLine 38 = .ok (.iinc 1 1, 3) := by decide +kernel
theorem dX12_ruleLine_41 : decode cX12_ruleLine 41 = .ok (.goto (-17), 3) := by decide +kernel
theorem dX12_ruleLine_44 : decode cX12_ruleLine 44 = .ok (.iload_n 1, 1) := by decide +kernel
theorem dX12_ruleLine_45 : decode cX12_ruleLine 45 = .ok (.bipush 7, 2) := by decide +kernel
theorem dX12_ruleLine_47 : decode cX12_ruleLine 47 = .ok (.if_icmp .ne 9, 3) := by decide +kernel
theorem dX12_ruleLine_50 : decode cX12_ruleLine 50 = .ok (.aload_n 0, 1) := by decide +kernel
theorem dX12_ruleLine_51 : decode cX12_ruleLine 51 = .ok (.iconst 1, 1) := by decide +kernel
theorem dX12_ruleLine_52 : decode cX12_ruleLine 52 = .ok (.invokevirtual 132, 3) := by decide +kernel
theorem dX12_ruleLine_55 : decode cX12_ruleLine 55 = .ok (.ireturn, 1) := by decide +kernel
theorem dX12_ruleLine_56 : decode cX12_ruleLine 56 = .ok (.aload_n 0, 1) := by decide +kernel
theorem dX12_ruleLine_57 : decode cX12_ruleLine 57 = .ok (.getfield 19, 3) := by decide +kernel
theorem dX12_ruleLine_60 : decode cX12_ruleLine 60 = .ok (.iconst 1, 1) := by decide +kernel
theorem dX12_ruleLine_61 : decode cX12_ruleLine 61 = .ok (.iload_n 1, 1) := by decide +kernel
theorem dX12_ruleLine_62 : decode cX12_ruleLine 62 = .ok (.iconst 4, 1) := by decide +kernel
theorem dX12_ruleLine_63 : decode cX12_ruleLine 63 = .ok (.isub, 1) := by decide +kernel
theorem dX12_ruleLine_64 : decode cX12_ruleLine 64 = .ok (.iastore, 1) := by decide +kernel
theorem dX12_ruleLine_65 : decode cX12_ruleLine 65 = .ok (.aload_n 0, 1) := by decide +kernel
theorem dX12_ruleLine_66 : decode cX12_ruleLine 66 = .ok (.invokevirtual 135, 3) := by decide +kernel
theorem dX12_ruleLine_69 : decode cX12_ruleLine 69 = .ok (.iconst 1, 1) := by decide +kernel
theorem dX12_ruleLine_70 : decode cX12_ruleLine 70 = .ok (.ireturn, 1) := by decide +kernel
set_option maxRecDepth 20000 in
theorem ggX12_readsLine_X12_isKnown : GoodIn wsX12_readsLine wsX12_isKnown := goodIn_r _ [5, 6, 7, 8, 9, 73, 74, 75, 76, 77, 78, 79, 80, 81, 82, 83, 84, 85, 86, 87, 88, 89, 90, 91, 92, 93, 94, 95, 96, 97, 98, 99, 100, 101, 102, 103, 104, 105, 106, 107, 108, 109, 110, 111, 112, 113, 114, 115, 116, 117, 118, 119] (by decide +kernel) (by decide +kernel)
set_option maxRecDepth 20000 in
theorem gX12_readsLine_X12_isKnown : GoodIn wsX12_readsLine (wsV RX12 129 RX12 yX12_isKnown wsX12_isKnown) := goodIn_app (goodIn_of _ (by decide +kernel)) ggX12_readsLine_X12_isKnown
set_option maxRecDepth 20000 in
theorem ggX12_readsLine_X12_roomLine : GoodIn wsX12_readsLine wsX12_roomLine := goodIn_r _ [13, 14, 15, 16, 17, 18, 19, 4, 20, 21, 22, 23, 24, 25, 26, 27, 28, 29, 30, 31, 32, 6, 8, 7, 33, 34, 35, 36, 37, 38, 39, 40, 41, 42, 43, 44, 45, 46, 47, 48, 49, 50, 51, 73, 74, 75, 76, 77, 78, 79, 80, 81, 82, 83, 84, 85, 86, 87, 88, 89, 90, 91, 92, 93, 94, 95, 96, 97, 98, 99, 100, 101, 102, 103, 104, 105, 106, 107, 108, 109, 110, 111, 112, 113, 114, 115, 116, 117, 118, 119] (by decide +kernel) (by decide +kernel)
set_option maxRecDepth 20000 in
theorem gX12_readsLine_X12_roomLine : GoodIn wsX12_readsLine (wsV RX12 156 RX12 yX12_roomLine wsX12_roomLine) := goodIn_app (goodIn_of _ (by decide +kernel)) ggX12_readsLine_X12_roomLine
set_option maxRecDepth 20000 in
theorem ggX12_readsLine_X12_ruleLine : GoodIn wsX12_readsLine wsX12_ruleLine := goodIn_r _ [55, 56, 15, 17, 18, 19, 4, 20, 21, 22, 23, 24, 25, 26, 27, 28, 29, 30, 31, 32, 16, 6, 8, 7, 33, 34, 35, 36, 37, 38, 39, 40, 41, 42, 43, 44, 45, 46, 47, 1, 2, 3, 5, 9, 73, 74, 75, 76, 77, 78, 79, 80, 81, 82, 83, 84, 85, 86, 87, 88, 89, 90, 91, 92, 93, 94, 95, 96, 97, 98, 99, 100, 101, 102, 103, 104, 105, 106, 107, 108, 109, 110, 111, 112, 113, 114, 115, 116, 117, 118, 119] (by decide +kernel) (by decide +kernel)
set_option maxRecDepth 20000 in
theorem gX12_readsLine_X12_ruleLine : GoodIn wsX12_readsLine (wsV RX12 159 RX12 yX12_ruleLine wsX12_ruleLine) := goodIn_app (goodIn_of _ (by decide +kernel)) ggX12_readsLine_X12_ruleLine
set_option maxRecDepth 20000 in
theorem ggX12_readsLine_X12_item : GoodIn wsX12_readsLine wsX12_item := goodIn_r _ [60, 15, 7, 8, 16, 17, 18, 19, 4, 20, 21, 22, 23, 24, 25, 26, 27, 28, 29, 30, 31, 32, 6, 33, 34, 35, 36, 37, 38, 39, 40, 41, 42, 43, 44, 45, 46, 47, 61, 62, 63, 64, 1, 2, 3, 5, 9, 65, 66, 67, 68, 48, 49, 50, 51, 73, 74, 75, 76, 77, 78, 79, 80, 81, 82, 83, 84, 85, 86, 87, 88, 89, 90, 91, 92, 93, 94, 95, 96, 97, 98, 99, 100, 101, 102, 103, 104, 105, 106, 107, 108, 109, 110, 111, 112, 113, 114, 115, 116, 117, 118, 119] (by decide +kernel) (by decide +kernel)
set_option maxRecDepth 20000 in
theorem gX12_readsLine_X12_item : GoodIn wsX12_readsLine (wsV RX12 162 RX12 yX12_item wsX12_item) := goodIn_app (goodIn_of _ (by decide +kernel)) ggX12_readsLine_X12_item
set_option maxRecDepth 20000 in
theorem ggX12_readsLine_X12_badHere : GoodIn wsX12_readsLine wsX12_badHere := goodIn_r _ [20, 21, 22, 23, 24, 4, 25, 26, 27, 73, 74, 75, 76, 77, 78, 79, 80, 81, 82, 83, 84, 85, 86, 87, 88, 89, 90, 91, 92, 93, 94, 95, 96, 97, 98, 99, 100, 101, 102, 103, 104, 105, 106, 107, 108, 109, 110, 111, 112, 113, 114, 115, 116, 117, 118, 119] (by decide +kernel) (by decide +kernel)
set_option maxRecDepth 20000 in
theorem gX12_readsLine_X12_badHere : GoodIn wsX12_readsLine (wsV RX12 132 RX12 yX12_badHere wsX12_badHere) := goodIn_app (goodIn_of _ (by decide +kernel)) ggX12_readsLine_X12_badHere
set_option maxRecDepth 20000 in
theorem ggX12_readsLine_X12_isSign : GoodIn wsX12_readsLine wsX12_isSign := goodIn_r _ [72, 6, 16, 73, 74, 75, 76, 77, 78, 79, 80, 81, 82, 83, 84, 85, 86, 87, 88, 89, 90, 91, 92, 93, 94, 95, 96, 97, 98, 99, 100, 101, 102, 103, 104, 105, 106, 107, 108, 109, 110, 111, 112, 113, 114, 115, 116, 117, 118, 119] (by decide +kernel) (by decide +kernel)
set_option maxRecDepth 20000 in
theorem gX12_readsLine_X12_isSign : GoodIn wsX12_readsLine (wsV RX12 165 RX12 yX12_isSign wsX12_isSign) := goodIn_app (goodIn_of _ (by decide +kernel)) ggX12_readsLine_X12_isSign
set_option maxRecDepth 20000 in
theorem ggX12_readsLine_X12_next : GoodIn wsX12_readsLine wsX12_next := goodIn_r _ [31, 32, 21, 16, 6, 8, 7, 33, 34, 35, 4, 36, 37, 38, 39, 40, 41, 42, 43, 44, 45, 46, 47, 73, 74, 75, 76, 77, 78, 79, 80, 81, 82, 83, 84, 85, 86, 87, 88, 89, 90, 91, 92, 93, 94, 95, 96, 97, 98, 99, 100, 101, 102, 103, 104, 105, 106, 107, 108, 109, 110, 111, 112, 113, 114, 115, 116, 117, 118, 119] (by decide +kernel) (by decide +kernel)
set_option maxRecDepth 20000 in
theorem gX12_readsLine_X12_next : GoodIn wsX12_readsLine (wsV RX12 135 RX12 yX12_next wsX12_next) := goodIn_app (goodIn_of _ (by decide +kernel)) ggX12_readsLine_X12_next
theorem dX12_readsLine_0 : decode cX12_readsLine 0 = .ok (.aload_n 0, 1) := by decide +kernel
theorem dX12_readsLine_1 : decode cX12_readsLine 1 = .ok (.iconst 0, 1) := by decide +kernel
theorem dX12_readsLine_2 : decode cX12_readsLine 2 = .ok (.invokevirtual 129, 3) := by decide +kernel
theorem dX12_readsLine_5 : decode cX12_readsLine 5 = .ok (.ifCond .eq 10, 3) := by decide +kernel
theorem dX12_readsLine_8 : decode cX12_readsLine 8 = .ok (.aload_n 0, 1) := by decide +kernel
theorem dX12_readsLine_9 : decode cX12_readsLine 9 = .ok (.invokevirtual 156, 3) := by decide +kernel
theorem dX12_readsLine_12 : decode cX12_readsLine 12 = .ok (.goto 38, 3) := by decide +kernel
theorem dX12_readsLine_15 : decode cX12_readsLine 15 = .ok (.aload_n 0, 1) := by decide +kernel
theorem dX12_readsLine_16 : decode cX12_readsLine 16 = .ok (.iconst 1, 1) := by decide +kernel
theorem dX12_readsLine_17 : decode cX12_readsLine 17 = .ok (.invokevirtual 129, 3) := by decide +kernel
theorem dX12_readsLine_20 : decode cX12_readsLine 20 = .ok (.ifCond .eq 10, 3) := by decide +kernel
theorem dX12_readsLine_23 : decode cX12_readsLine 23 = .ok (.aload_n 0, 1) := by decide +kernel
theorem dX12_readsLine_24 : decode cX12_readsLine 24 = .ok (.invokevirtual 159, 3) := by decide +kernel
theorem dX12_readsLine_27 : decode cX12_readsLine 27 = .ok (.goto 23, 3) := by decide +kernel
theorem dX12_readsLine_30 : decode cX12_readsLine 30 = .ok (.aload_n 0, 1) := by decide +kernel
theorem dX12_readsLine_31 : decode cX12_readsLine 31 = .ok (.iconst 2, 1) := by decide +kernel
theorem dX12_readsLine_32 : decode cX12_readsLine 32 = .ok (.invokevirtual 129, 3) := by decide +kernel
theorem dX12_readsLine_35 : decode cX12_readsLine 35 = .ok (.ifCond .eq 10, 3) := by decide +kernel
theorem dX12_readsLine_38 : decode cX12_readsLine 38 = .ok (.aload_n 0, 1) := by decide +kernel
theorem dX12_readsLine_39 : decode cX12_readsLine 39 = .ok (.invokevirtual 162, 3) := by decide +kernel
theorem dX12_readsLine_42 : decode cX12_readsLine 42 = .ok (.goto 8, 3) := by decide +kernel
theorem dX12_readsLine_45 : decode cX12_readsLine 45 = .ok (.aload_n 0, 1) := by decide +kernel
theorem dX12_readsLine_46 : decode cX12_readsLine 46 = .ok (.iconst 1, 1) := by decide +kernel
theorem dX12_readsLine_47 : decode cX12_readsLine 47 = .ok (.invokevirtual 132, 3) := by decide +kernel
theorem dX12_readsLine_50 : decode cX12_readsLine 50 = .ok (.istore_n 1, 1) := by decide +kernel
theorem dX12_readsLine_51 : decode cX12_readsLine 51 = .ok (.iload_n 1, 1) := by decide +kernel
theorem dX12_readsLine_52 : decode cX12_readsLine 52 = .ok (.ifCond .ne 5, 3) := by decide +kernel
theorem dX12_readsLine_55 : decode cX12_readsLine 55 = .ok (.iconst 0, 1) := by decide +kernel
theorem dX12_readsLine_56 : decode cX12_readsLine 56 = .ok (.ireturn, 1) := by decide +kernel
theorem dX12_readsLine_57 : decode cX12_readsLine 57 = .ok (.aload_n 0, 1) := by decide +kernel
theorem dX12_readsLine_58 : decode cX12_readsLine 58 = .ok (.bipush 59, 2) := by decide +kernel
theorem dX12_readsLine_60 : decode cX12_readsLine 60 = .ok (.invokevirtual 165, 3) := by decide +kernel
theorem dX12_readsLine_63 : decode cX12_readsLine 63 = .ok (.ifCond .ne 9, 3) := by decide +kernel
theorem dX12_readsLine_66 : decode cX12_readsLine 66 = .ok (.aload_n 0, 1) := by decide +kernel
theorem dX12_readsLine_67 : decode cX12_readsLine 67 = .ok (.iconst 1, 1) := by decide +kernel
theorem dX12_readsLine_68 : decode cX12_readsLine 68 = .ok (.invokevirtual 132, 3) := by decide +kernel
theorem dX12_readsLine_71 : decode cX12_readsLine 71 = .ok (.ireturn, 1) := by decide +kernel
theorem dX12_readsLine_72 : decode cX12_readsLine 72 = .ok (.aload_n 0, 1) := by decide +kernel
theorem dX12_readsLine_73 : decode cX12_readsLine 73 = .ok (.invokevirtual 135, 3) := by decide +kernel
theorem dX12_readsLine_76 : decode cX12_readsLine 76 = .ok (.iconst 1, 1) := by decide +kernel
theorem dX12_readsLine_77 : decode cX12_readsLine 77 = .ok (.ireturn, 1) := by decide +kernel
set_option maxRecDepth 20000 in
theorem ggX12_takes_X12_bad : GoodIn wsX12_takes wsX12_bad := goodIn_r _ [9, 3, 10, 34, 35, 36, 37, 38, 39, 40, 41, 42, 43, 44, 45, 46, 47, 48, 49, 50, 51, 52, 53, 54, 55, 56, 57, 58, 59, 60, 61, 62, 63, 64, 65, 66, 67, 68, 69, 70, 71, 72, 73, 74, 75, 76, 77, 78, 79, 80] (by decide +kernel) (by decide +kernel)
set_option maxRecDepth 20000 in
theorem gX12_takes_X12_bad : GoodIn wsX12_takes (wsV RX12 102 RX12 yX12_bad wsX12_bad) := goodIn_app (goodIn_of _ (by decide +kernel)) ggX12_takes_X12_bad
set_option maxRecDepth 20000 in
theorem ggX12_takes_X12_next : GoodIn wsX12_takes wsX12_next := goodIn_r _ [14, 4, 15, 16, 17, 18, 19, 20, 21, 22, 8, 23, 2, 24, 25, 26, 27, 28, 29, 30, 31, 32, 33, 34, 35, 36, 37, 38, 39, 40, 41, 42, 43, 44, 45, 46, 47, 48, 49, 50, 51, 52, 53, 54, 55, 56, 57, 58, 59, 60, 61, 62, 63, 64, 65, 66, 67, 68, 69, 70, 71, 72, 73, 74, 75, 76, 77, 78, 79, 80] (by decide +kernel) (by decide +kernel)
set_option maxRecDepth 20000 in
theorem gX12_takes_X12_next : GoodIn wsX12_takes (wsV RX12 135 RX12 yX12_next wsX12_next) := goodIn_app (goodIn_of _ (by decide +kernel)) ggX12_takes_X12_next
theorem dX12_takes_0 : decode cX12_takes 0 = .ok (.aload_n 0, 1) := by decide +kernel
theorem dX12_takes_1 : decode cX12_takes 1 = .ok (.aload_n 0, 1) := by decide +kernel
theorem dX12_takes_2 : decode cX12_takes 2 = .ok (.getfield 75, 3) := by decide +kernel
theorem dX12_takes_5 : decode cX12_takes 5 = .ok (.putfield 90, 3) := by decide +kernel
theorem dX12_takes_8 : decode cX12_takes 8 = .ok (.aload_n 0, 1) := by decide +kernel
theorem dX12_takes_9 : decode cX12_takes 9 = .ok (.iconst 0, 1) := by decide +kernel
theorem dX12_takes_10 : decode cX12_takes 10 = .ok (.putfield 75, 3) := by decide +kernel
theorem dX12_takes_13 : decode cX12_takes 13 = .ok (.aload_n 0, 1) := by decide +kernel
theorem dX12_takes_14 : decode cX12_takes 14 = .ok (.iconst 0, 1) := by decide +kernel
theorem dX12_takes_15 : decode cX12_takes 15 = .ok (.putfield 93, 3) := by decide +kernel
theorem dX12_takes_18 : decode cX12_takes 18 = .ok (.aload_n 0, 1) := by decide +kernel
theorem dX12_takes_19 : decode cX12_takes 19 = .ok (.getfield 90, 3) := by decide +kernel
theorem dX12_takes_22 : decode cX12_takes 22 = .ok (.sipush 400, 3) := by decide +kernel
theorem dX12_takes_25 : decode cX12_takes 25 = .ok (.if_icmp .le 12, 3) := by decide +kernel
theorem dX12_takes_28 : decode cX12_takes 28 = .ok (.aload_n 0, 1) := by decide +kernel
theorem dX12_takes_29 : decode cX12_takes 29 = .ok (.iconst 1, 1) := by decide +kernel
theorem dX12_takes_30 : decode cX12_takes 30 = .ok (.sipush 400, 3) := by decide +kernel
theorem dX12_takes_33 : decode cX12_takes 33 = .ok (.invokevirtual 102, 3) := by decide +kernel
theorem dX12_takes_36 : decode cX12_takes 36 = .ok (.ireturn, 1) := by decide +kernel
theorem dX12_takes_37 : decode cX12_takes 37 = .ok (.aload_n 0, 1) := by decide +kernel
theorem dX12_takes_38 : decode cX12_takes 38 = .ok (.iconst 0, 1) := by decide +kernel
theorem dX12_takes_39 : decode cX12_takes 39 = .ok (.putfield 87, 3) := by decide +kernel
theorem dX12_takes_42 : decode cX12_takes 42 = .ok (.aload_n 0, 1) := by decide +kernel
theorem dX12_takes_43 : decode cX12_takes 43 = .ok (.invokevirtual 135, 3) := by decide +kernel
theorem dX12_takes_46 : decode cX12_takes 46 = .ok (.iconst 1, 1) := by decide +kernel
theorem dX12_takes_47 : decode cX12_takes 47 = .ok (.ireturn, 1) := by decide +kernel
set_option maxRecDepth 20000 in
theorem ggX12_readsStore_X12_takes : GoodIn wsX12_readsStore wsX12_takes := goodIn_r _ [9, 10, 11, 12, 13, 14, 15, 16, 8, 17, 18, 19, 20, 21, 22, 23, 24, 4, 25, 26, 27, 28, 29, 30, 31, 32, 33, 34, 35, 36, 37, 38, 39, 40, 82, 83, 84, 85, 86, 87, 88, 89, 90, 91, 92, 93, 94, 95, 96, 97, 98, 99, 100, 101, 102, 103, 104, 105, 106, 107, 108, 109, 110, 111, 112, 113, 114, 115, 116, 117, 118, 119, 120, 121, 122, 123, 124, 125, 126, 127, 128] (by decide +kernel) (by decide +kernel)
set_option maxRecDepth 20000 in
theorem gX12_readsStore_X12_takes : GoodIn wsX12_readsStore (wsV RX12 168 RX12 yX12_takes wsX12_takes) := goodIn_app (goodIn_of _ (by decide +kernel)) ggX12_readsStore_X12_takes
set_option maxRecDepth 20000 in
theorem ggX12_readsStore_X12_readsLine : GoodIn wsX12_readsStore wsX12_readsLine := goodIn_r _ [44, 45, 46, 47, 8, 48, 4, 26, 25, 49, 50, 51, 52, 53, 2, 1, 24, 54, 55, 56, 57, 23, 14, 15, 16, 17, 12, 18, 19, 20, 21, 22, 13, 27, 28, 29, 30, 11, 31, 32, 33, 34, 35, 36, 37, 38, 39, 40, 58, 59, 60, 61, 62, 63, 64, 65, 3, 66, 67, 68, 69, 70, 71, 72, 73, 74, 75, 76, 77, 78, 79, 80, 81, 82, 83, 84, 85, 86, 87, 88, 89, 90, 91, 92, 93, 94, 95, 96, 97, 98, 99, 100, 101, 102, 103, 104, 105, 106, 107, 108, 109, 110, 111, 112, 113, 114, 115, 116, 117, 118, 119, 120, 121, 122, 123, 124, 125, 126, 127, 128] (by decide +kernel) (by decide +kernel)
set_option maxRecDepth 20000 in
theorem gX12_readsStore_X12_readsLine : GoodIn wsX12_readsStore (wsV RX12 171 RX12 yX12_readsLine wsX12_readsLine) := goodIn_app (goodIn_of _ (by decide +kernel)) ggX12_readsStore_X12_readsLine
theorem dX12_readsStore_0 : decode cX12_readsStore 0 = .ok (.aload_n 0, 1) := by decide +kernel
theorem dX12_readsStore_1 : decode cX12_readsStore 1 = .ok (.invokevirtual 168, 3) := by decide +kernel
theorem dX12_readsStore_4 : decode cX12_readsStore 4 = .ok (.ifCond .ne 5, 3) := by decide +kernel
theorem dX12_readsStore_7 : decode cX12_readsStore 7 = .ok (.iconst 0, 1) := by decide +kernel
theorem dX12_readsStore_8 : decode cX12_readsStore 8 = .ok (.ireturn, 1) := by decide +kernel
theorem dX12_readsStore_9 : decode cX12_readsStore 9 = .ok (.iconst 0, 1) := by decide +kernel
theorem dX12_readsStore_10 : decode cX12_readsStore 10 = .ok (.istore_n 1, 1) := by decide +kernel
theorem dX12_readsStore_11 : decode cX12_readsStore 11 = .ok (.iload_n 1, 1) := by decide +kernel
theorem dX12_readsStore_12 : decode cX12_readsStore 12 = .ok (.sipush 835, 3) := by decide +kernel
theorem dX12_readsStore_15 : decode cX12_readsStore 15 = .ok (.if_icmp .ge 16, 3) := by decide +kernel
theorem dX12_readsStore_18 : decode cX12_readsStore 18 = .ok (.aload_n 0, 1) := by decide +kernel
theorem dX12_readsStore_19 : decode cX12_readsStore 19 = .ok (.getfield 19, 3) := by decide +kernel
theorem dX12_readsStore_22 : decode cX12_readsStore 22 = .ok (.iload_n 1, 1) := by decide +kernel
theorem dX12_readsStore_23 : decode cX12_readsStore 23 = .ok (.iconst 0, 1) := by decide +kernel
theorem dX12_readsStore_24 : decode cX12_readsStore 24 = .ok (.iastore, 1) := by decide +kernel
theorem dX12_readsStore_25 : decode cX12_readsStore 25 = .ok (.iinc 1 1, 3) := by decide +kernel
theorem dX12_readsStore_28 : decode cX12_readsStore 28 = .ok (.goto (-17), 3) := by decide +kernel
theorem dX12_readsStore_31 : decode cX12_readsStore 31 = .ok (.aload_n 0, 1) := by decide +kernel
theorem dX12_readsStore_32 : decode cX12_readsStore 32 = .ok (.getfield 19, 3) := by decide +kernel
theorem dX12_readsStore_35 : decode cX12_readsStore 35 = .ok (.iconst 0, 1) := by decide +kernel
theorem dX12_readsStore_36 : decode cX12_readsStore 36 = .ok (.bipush 6, 2) := by decide +kernel
theorem dX12_readsStore_38 : decode cX12_readsStore 38 = .ok (.iastore, 1) := by decide +kernel
theorem dX12_readsStore_39 : decode cX12_readsStore 39 = .ok (.aload_n 0, 1) := by decide +kernel
theorem dX12_readsStore_40 : decode cX12_readsStore 40 = .ok (.getfield 19, 3) := by decide +kernel
theorem dX12_readsStore_43 : decode cX12_readsStore 43 = .ok (.iconst 1, 1) := by decide +kernel
theorem dX12_readsStore_44 : decode cX12_readsStore 44 = .ok (.iconst 1, 1) := by decide +kernel
theorem dX12_readsStore_45 : decode cX12_readsStore 45 = .ok (.iastore, 1) := by decide +kernel
theorem dX12_readsStore_46 : decode cX12_readsStore 46 = .ok (.aload_n 0, 1) := by decide +kernel
theorem dX12_readsStore_47 : decode cX12_readsStore 47 = .ok (.iconst 0, 1) := by decide +kernel
theorem dX12_readsStore_48 : decode cX12_readsStore 48 = .ok (.putfield 149, 3) := by decide +kernel
theorem dX12_readsStore_51 : decode cX12_readsStore 51 = .ok (.aload_n 0, 1) := by decide +kernel
theorem dX12_readsStore_52 : decode cX12_readsStore 52 = .ok (.iconst 0, 1) := by decide +kernel
theorem dX12_readsStore_53 : decode cX12_readsStore 53 = .ok (.putfield 153, 3) := by decide +kernel
theorem dX12_readsStore_56 : decode cX12_readsStore 56 = .ok (.aload_n 0, 1) := by decide +kernel
theorem dX12_readsStore_57 : decode cX12_readsStore 57 = .ok (.getfield 113, 3) := by decide +kernel
theorem dX12_readsStore_60 : decode cX12_readsStore 60 = .ok (.ifCond .eq 12, 3) := by decide +kernel
theorem dX12_readsStore_63 : decode cX12_readsStore 63 = .ok (.aload_n 0, 1) := by decide +kernel
theorem dX12_readsStore_64 : decode cX12_readsStore 64 = .ok (.invokevirtual 171, 3) := by decide +kernel
theorem dX12_readsStore_67 : decode cX12_readsStore 67 = .ok (.ifCond .ne (-11), 3) := by decide +kernel
theorem dX12_readsStore_70 : decode cX12_readsStore 70 = .ok (.iconst 0, 1) := by decide +kernel
theorem dX12_readsStore_71 : decode cX12_readsStore 71 = .ok (.ireturn, 1) := by decide +kernel
theorem dX12_readsStore_72 : decode cX12_readsStore 72 = .ok (.iconst 1, 1) := by decide +kernel
theorem dX12_readsStore_73 : decode cX12_readsStore 73 = .ok (.ireturn, 1) := by decide +kernel
set_option maxRecDepth 20000 in
theorem ggX12_store_X12_readsStore : GoodIn wsX12_store wsX12_readsStore := goodIn_r _ [9, 2, 10, 11, 12, 13, 14, 15, 8, 16, 17, 18, 19, 20, 21, 22, 23, 24, 1, 25, 26, 27, 28, 29, 30, 31, 32, 33, 34, 35, 36, 37, 38, 39, 40, 41, 42, 43, 44, 45, 46, 47, 48, 49, 50, 51, 52, 53, 54, 55, 56, 57, 58, 59, 60, 61, 62, 63, 64, 65, 66, 67, 68, 69, 70, 71, 72, 73, 74, 75, 76, 77, 78, 79, 80, 81, 82, 83, 84, 85, 86, 87, 91, 92, 93, 94, 95, 96, 97, 98, 99, 100, 101, 102, 103, 104, 105, 106, 107, 108, 109, 110, 111, 112, 113, 114, 115, 116, 117, 118, 119, 120, 121, 122, 123, 124, 125, 126, 127, 128, 129, 130, 131, 132, 133, 134, 135, 136, 137] (by decide +kernel) (by decide +kernel)
set_option maxRecDepth 20000 in
theorem gX12_store_X12_readsStore : GoodIn wsX12_store (wsV RX12 174 RX12 yX12_readsStore wsX12_readsStore) := goodIn_app (goodIn_of _ (by decide +kernel)) ggX12_store_X12_readsStore
set_option maxRecDepth 20000 in
theorem ggX12_store_X12_copies : GoodIn wsX12_store wsX12_copies := goodIn_r _ [90] (by decide +kernel) (by decide +kernel)
set_option maxRecDepth 20000 in
theorem gX12_store_X12_copies : GoodIn wsX12_store (va_wsS RX12 177 yX12_copies wsX12_copies) := goodIn_app (goodIn_of _ (by decide +kernel)) ggX12_store_X12_copies
theorem dX12_store_0 : decode cX12_store 0 = .ok (.aload_n 0, 1) := by decide +kernel
theorem dX12_store_1 : decode cX12_store 1 = .ok (.invokevirtual 174, 3) := by decide +kernel
theorem dX12_store_4 : decode cX12_store 4 = .ok (.ifCond .ne 12, 3) := by decide +kernel
theorem dX12_store_7 : decode cX12_store 7 = .ok (.sipush (-1000), 3) := by decide +kernel
theorem dX12_store_10 : decode cX12_store 10 = .ok (.aload_n 0, 1) := by decide +kernel
theorem dX12_store_11 : decode cX12_store 11 = .ok (.getfield 96, 3) := by decide +kernel
theorem dX12_store_14 : decode cX12_store 14 = .ok (.isub, 1) := by decide +kernel
theorem dX12_store_15 : decode cX12_store 15 = .ok (.ireturn, 1) := by decide +kernel
theorem dX12_store_16 : decode cX12_store 16 = .ok (.aload_n 0, 1) := by decide +kernel
theorem dX12_store_17 : decode cX12_store 17 = .ok (.getfield 19, 3) := by decide +kernel
theorem dX12_store_20 : decode cX12_store 20 = .ok (.iconst 0, 1) := by decide +kernel
theorem dX12_store_21 : decode cX12_store 21 = .ok (.aload_n 0, 1) := by decide +kernel
theorem dX12_store_22 : decode cX12_store 22 = .ok (.getfield 7, 3) := by decide +kernel
theorem dX12_store_25 : decode cX12_store 25 = .ok (.iconst 0, 1) := by decide +kernel
theorem dX12_store_26 : decode cX12_store 26 = .ok (.invokestatic 177, 3) := by decide +kernel
theorem dX12_store_29 : decode cX12_store 29 = .ok (.aload_n 0, 1) := by decide +kernel
theorem dX12_store_30 : decode cX12_store 30 = .ok (.iconst 0, 1) := by decide +kernel
theorem dX12_store_31 : decode cX12_store 31 = .ok (.putfield 181, 3) := by decide +kernel
theorem dX12_store_34 : decode cX12_store 34 = .ok (.aload_n 0, 1) := by decide +kernel
theorem dX12_store_35 : decode cX12_store 35 = .ok (.getfield 7, 3) := by decide +kernel
theorem dX12_store_38 : decode cX12_store 38 = .ok (.iconst 2, 1) := by decide +kernel
theorem dX12_store_39 : decode cX12_store 39 = .ok (.iaload, 1) := by decide +kernel
theorem dX12_store_40 : decode cX12_store 40 = .ok (.ireturn, 1) := by decide +kernel
theorem dX12_fault_0 : decode cX12_fault 0 = .ok (.aload_n 0, 1) := by decide +kernel
theorem dX12_fault_1 : decode cX12_fault 1 = .ok (.getfield 93, 3) := by decide +kernel
theorem dX12_fault_4 : decode cX12_fault 4 = .ok (.ireturn, 1) := by decide +kernel
theorem dX12_call_0 : decode cX12_call 0 = .ok (.aload_n 0, 1) := by decide +kernel
theorem dX12_call_1 : decode cX12_call 1 = .ok (.iconst 0, 1) := by decide +kernel
theorem dX12_call_2 : decode cX12_call 2 = .ok (.putfield 184, 3) := by decide +kernel
theorem dX12_call_5 : decode cX12_call 5 = .ok (.return_, 1) := by decide +kernel
theorem dX12_gatesOpen_0 : decode cX12_gatesOpen 0 = .ok (.aload_n 0, 1) := by decide +kernel
theorem dX12_gatesOpen_1 : decode cX12_gatesOpen 1 = .ok (.getfield 184, 3) := by decide +kernel
theorem dX12_gatesOpen_4 : decode cX12_gatesOpen 4 = .ok (.ifCond .ne 8, 3) := by decide +kernel
theorem dX12_gatesOpen_7 : decode cX12_gatesOpen 7 = .ok (.aload_n 0, 1) := by decide +kernel
theorem dX12_gatesOpen_8 : decode cX12_gatesOpen 8 = .ok (.iconst 0, 1) := by decide +kernel
theorem dX12_gatesOpen_9 : decode cX12_gatesOpen 9 = .ok (.putfield 187, 3) := by decide +kernel
theorem dX12_gatesOpen_12 : decode cX12_gatesOpen 12 = .ok (.aload_n 0, 1) := by decide +kernel
theorem dX12_gatesOpen_13 : decode cX12_gatesOpen 13 = .ok (.iconst 1, 1) := by decide +kernel
theorem dX12_gatesOpen_14 : decode cX12_gatesOpen 14 = .ok (.putfield 184, 3) := by decide +kernel
theorem dX12_gatesOpen_17 : decode cX12_gatesOpen 17 = .ok (.iconst 1, 1) := by decide +kernel
theorem dX12_gatesOpen_18 : decode cX12_gatesOpen 18 = .ok (.istore_n 1, 1) := by decide +kernel
theorem dX12_gatesOpen_19 : decode cX12_gatesOpen 19 = .ok (.iload_n 1, 1) := by decide +kernel
theorem dX12_gatesOpen_20 : decode cX12_gatesOpen 20 = .ok (.iconst 5, 1) := by decide +kernel
theorem dX12_gatesOpen_21 : decode cX12_gatesOpen 21 = .ok (.if_icmp .ge 39, 3) := by decide +kernel
theorem dX12_gatesOpen_24 : decode cX12_gatesOpen 24 = .ok (.aload_n 0, 1) := by decide +kernel
theorem dX12_gatesOpen_25 : decode cX12_gatesOpen 25 = .ok (.getfield 187, 3) := by decide +kernel
theorem dX12_gatesOpen_28 : decode cX12_gatesOpen 28 = .ok (.bipush 60, 2) := by decide +kernel
theorem dX12_gatesOpen_30 : decode cX12_gatesOpen 30 = .ok (.if_icmp .ne 4, 3) := by decide +kernel
theorem dX12_gatesOpen_33 : decode cX12_gatesOpen 33 = .ok (.return_, 1) := by decide +kernel
theorem dX12_gatesOpen_34 : decode cX12_gatesOpen 34 = .ok (.aload_n 0, 1) := by decide +kernel
theorem dX12_gatesOpen_35 : decode cX12_gatesOpen 35 = .ok (.getfield 33, 3) := by decide +kernel
theorem dX12_gatesOpen_38 : decode cX12_gatesOpen 38 = .ok (.aload_n 0, 1) := by decide +kernel
theorem dX12_gatesOpen_39 : decode cX12_gatesOpen 39 = .ok (.getfield 187, 3) := by decide +kernel
theorem dX12_gatesOpen_42 : decode cX12_gatesOpen 42 = .ok (.iload_n 1, 1) := by decide +kernel
theorem dX12_gatesOpen_43 : decode cX12_gatesOpen 43 = .ok (.iastore, 1) := by decide +kernel
theorem dX12_gatesOpen_44 : decode cX12_gatesOpen 44 = .ok (.aload_n 0, 1) := by decide +kernel
theorem dX12_gatesOpen_45 : decode cX12_gatesOpen 45 = .ok (.dup, 1) := by decide +kernel
theorem dX12_gatesOpen_46 : decode cX12_gatesOpen 46 = .ok (.getfield 187, 3) := by decide +kernel
theorem dX12_gatesOpen_49 : decode cX12_gatesOpen 49 = .ok (.iconst 1, 1) := by decide +kernel
theorem dX12_gatesOpen_50 : decode cX12_gatesOpen 50 = .ok (.iadd, 1) := by decide +kernel
theorem dX12_gatesOpen_51 : decode cX12_gatesOpen 51 = .ok (.putfield 187, 3) := by decide +kernel
theorem dX12_gatesOpen_54 : decode cX12_gatesOpen 54 = .ok (.iinc 1 1, 3) := by decide +kernel
theorem dX12_gatesOpen_57 : decode cX12_gatesOpen 57 = .ok (.goto (-38), 3) := by decide +kernel
theorem dX12_gatesOpen_60 : decode cX12_gatesOpen 60 = .ok (.return_, 1) := by decide +kernel
set_option maxRecDepth 20000 in
theorem ggX12_gate_X12_isIn : GoodIn wsX12_gate wsX12_isIn := goodIn_r _ [6] (by decide +kernel) (by decide +kernel)
set_option maxRecDepth 20000 in
theorem gX12_gate_X12_isIn : GoodIn wsX12_gate (va_wsS RX12 83 yX12_isIn wsX12_isIn) := goodIn_app (goodIn_of _ (by decide +kernel)) ggX12_gate_X12_isIn
theorem dX12_gate_0 : decode cX12_gate 0 = .ok (.iload_n 1, 1) := by decide +kernel
theorem dX12_gate_1 : decode cX12_gate 1 = .ok (.iconst 0, 1) := by decide +kernel
theorem dX12_gate_2 : decode cX12_gate 2 = .ok (.aload_n 0, 1) := by decide +kernel
theorem dX12_gate_3 : decode cX12_gate 3 = .ok (.getfield 187, 3) := by decide +kernel
theorem dX12_gate_6 : decode cX12_gate 6 = .ok (.iconst 1, 1) := by decide +kernel
theorem dX12_gate_7 : decode cX12_gate 7 = .ok (.isub, 1) := by decide +kernel
theorem dX12_gate_8 : decode cX12_gate 8 = .ok (.invokestatic 83, 3) := by decide +kernel
theorem dX12_gate_11 : decode cX12_gate 11 = .ok (.ifCond .eq 12, 3) := by decide +kernel
theorem dX12_gate_14 : decode cX12_gate 14 = .ok (.aload_n 0, 1) := by decide +kernel
theorem dX12_gate_15 : decode cX12_gate 15 = .ok (.getfield 33, 3) := by decide +kernel
theorem dX12_gate_18 : decode cX12_gate 18 = .ok (.iload_n 1, 1) := by decide +kernel
theorem dX12_gate_19 : decode cX12_gate 19 = .ok (.iaload, 1) := by decide +kernel
theorem dX12_gate_20 : decode cX12_gate 20 = .ok (.goto 4, 3) := by decide +kernel
theorem dX12_gate_23 : decode cX12_gate 23 = .ok (.iconst (-1), 1) := by decide +kernel
theorem dX12_gate_24 : decode cX12_gate 24 = .ok (.ireturn, 1) := by decide +kernel
theorem dX12_isTaken_0 : decode cX12_isTaken 0 = .ok (.iload_n 0, 1) := by decide +kernel
theorem dX12_isTaken_1 : decode cX12_isTaken 1 = .ok (.ifCond .eq 33, 3) := by decide +kernel
theorem dX12_isTaken_4 : decode cX12_isTaken 4 = .ok (.iload_n 0, 1) := by decide +kernel
theorem dX12_isTaken_5 : decode cX12_isTaken 5 = .ok (.iconst 1, 1) := by decide +kernel
theorem dX12_isTaken_6 : decode cX12_isTaken 6 = .ok (.if_icmp .ne 8, 3) := by decide +kernel
theorem dX12_isTaken_9 : decode cX12_isTaken 9 = .ok (.iload_n 1, 1) := by decide +kernel
theorem dX12_isTaken_10 : decode cX12_isTaken 10 = .ok (.iconst 2, 1) := by decide +kernel
theorem dX12_isTaken_11 : decode cX12_isTaken 11 = .ok (.if_icmp .lt 23, 3) := by decide +kernel
theorem dX12_isTaken_14 : decode cX12_isTaken 14 = .ok (.iload_n 0, 1) := by decide +kernel
theorem dX12_isTaken_15 : decode cX12_isTaken 15 = .ok (.iconst 2, 1) := by decide +kernel
theorem dX12_isTaken_16 : decode cX12_isTaken 16 = .ok (.if_icmp .ne 8, 3) := by decide +kernel
theorem dX12_isTaken_19 : decode cX12_isTaken 19 = .ok (.iload_n 1, 1) := by decide +kernel
theorem dX12_isTaken_20 : decode cX12_isTaken 20 = .ok (.iconst 1, 1) := by decide +kernel
theorem dX12_isTaken_21 : decode cX12_isTaken 21 = .ok (.if_icmp .gt 13, 3) := by decide +kernel
theorem dX12_isTaken_24 : decode cX12_isTaken 24 = .ok (.iload_n 0, 1) := by decide +kernel
theorem dX12_isTaken_25 : decode cX12_isTaken 25 = .ok (.iconst 3, 1) := by decide +kernel
theorem dX12_isTaken_26 : decode cX12_isTaken 26 = .ok (.if_icmp .ne 12, 3) := by decide +kernel
theorem dX12_isTaken_29 : decode cX12_isTaken 29 = .ok (.iload_n 1, 1) := by decide +kernel
theorem dX12_isTaken_30 : decode cX12_isTaken 30 = .ok (.iconst 3, 1) := by decide +kernel
theorem dX12_isTaken_31 : decode cX12_isTaken 31 = .ok (.if_icmp .ne 7, 3) := by decide +kernel
theorem dX12_isTaken_34 : decode cX12_isTaken 34 = .ok (.iconst 1, 1) := by decide +kernel
theorem dX12_isTaken_35 : decode cX12_isTaken 35 = .ok (.goto 4, 3) := by decide +kernel
theorem dX12_isTaken_38 : decode cX12_isTaken 38 = .ok (.iconst 0, 1) := by decide +kernel
theorem dX12_isTaken_39 : decode cX12_isTaken 39 = .ok (.ireturn, 1) := by decide +kernel
set_option maxRecDepth 20000 in
theorem ggX12_entry_X12_isTaken : GoodIn wsX12_entry wsX12_isTaken := goodIn_r _ [5] (by decide +kernel) (by decide +kernel)
set_option maxRecDepth 20000 in
theorem gX12_entry_X12_isTaken : GoodIn wsX12_entry (va_wsS RX12 190 yX12_isTaken wsX12_isTaken) := goodIn_app (goodIn_of _ (by decide +kernel)) ggX12_entry_X12_isTaken
theorem dX12_entry_0 : decode cX12_entry 0 = .ok (.iconst 0, 1) := by decide +kernel
theorem dX12_entry_1 : decode cX12_entry 1 = .ok (.istore 4, 2) := by decide +kernel
theorem dX12_entry_3 : decode cX12_entry 3 = .ok (.iload 4, 2) := by decide +kernel
theorem dX12_entry_5 : decode cX12_entry 5 = .ok (.iconst 3, 1) := by decide +kernel
theorem dX12_entry_6 : decode cX12_entry 6 = .ok (.if_icmp .ge 180, 3) := by decide +kernel
theorem dX12_entry_9 : decode cX12_entry 9 = .ok (.sipush 544, 3) := by decide +kernel
theorem dX12_entry_12 : decode cX12_entry 12 = .ok (.bipush 7, 2) := by decide +kernel
theorem dX12_entry_14 : decode cX12_entry 14 = .ok (.iload 4, 2) := by decide +kernel
theorem dX12_entry_16 : decode cX12_entry 16 = .ok (.imul, 1) := by decide +kernel
theorem dX12_entry_17 : decode cX12_entry 17 = .ok (.iadd, 1) := by decide +kernel
theorem dX12_entry_18 : decode cX12_entry 18 = .ok (.istore 5, 2) := by decide +kernel
theorem dX12_entry_20 : decode cX12_entry 20 = .ok (.aload_n 0, 1) := by decide +kernel
theorem dX12_entry_21 : decode cX12_entry 21 = .ok (.getfield 7, 3) := by decide +kernel
theorem dX12_entry_24 : decode cX12_entry 24 = .ok (.iload 5, 2) := by decide +kernel
theorem dX12_entry_26 : decode cX12_entry 26 = .ok (.iaload, 1) := by decide +kernel
theorem dX12_entry_27 : decode cX12_entry 27 = .ok (.ifCond .ne 6, 3) := by decide +kernel
theorem dX12_entry_30 : decode cX12_entry 30 = .ok (.goto 150, 3) := by decide +kernel
theorem dX12_entry_33 : decode cX12_entry 33 = .ok (.aload_n 0, 1) := by decide +kernel
theorem dX12_entry_34 : decode cX12_entry 34 = .ok (.getfield 7, 3) := by decide +kernel
theorem dX12_entry_37 : decode cX12_entry 37 = .ok (.iload 5, 2) := by decide +kernel
theorem dX12_entry_39 : decode cX12_entry 39 = .ok (.iconst 3, 1) := by decide +kernel
theorem dX12_entry_40 : decode cX12_entry 40 = .ok (.iadd, 1) := by decide +kernel
theorem dX12_entry_41 : decode cX12_entry 41 = .ok (.iaload, 1) := by decide +kernel
theorem dX12_entry_42 : decode cX12_entry 42 = .ok (.aload_n 0, 1) := by decide +kernel
theorem dX12_entry_43 : decode cX12_entry 43 = .ok (.getfield 7, 3) := by decide +kernel
theorem dX12_entry_46 : decode cX12_entry 46 = .ok (.iload 5, 2) := by decide +kernel
theorem dX12_entry_48 : decode cX12_entry 48 = .ok (.iconst 2, 1) := by decide +kernel
theorem dX12_entry_49 : decode cX12_entry 49 = .ok (.iadd, 1) := by decide +kernel
theorem dX12_entry_50 : decode cX12_entry 50 = .ok (.iaload, 1) := by decide +kernel
theorem dX12_entry_51 : decode cX12_entry 51 = .ok (.if_icmp .ne 19, 3) := by decide +kernel
theorem dX12_entry_54 : decode cX12_entry 54 = .ok (.aload_n 0, 1) := by decide +kernel
theorem dX12_entry_55 : decode cX12_entry 55 = .ok (.getfield 7, 3) := by decide +kernel
theorem dX12_entry_58 : decode cX12_entry 58 = .ok (.iload 5, 2) := by decide +kernel
theorem dX12_entry_60 : decode cX12_entry 60 = .ok (.iconst 5, 1) := by decide +kernel
theorem dX12_entry_61 : decode cX12_entry 61 = .ok (.iadd, 1) := by decide +kernel
theorem dX12_entry_62 : decode cX12_entry 62 = .ok (.dup2, 1) := by decide +kernel
theorem dX12_entry_63 : decode cX12_entry 63 = .ok (.iaload, 1) := by decide +kernel
theorem dX12_entry_64 : decode cX12_entry 64 = .ok (.iconst 1, 1) := by decide +kernel
theorem dX12_entry_65 : decode cX12_entry 65 = .ok (.iadd, 1) := by decide +kernel
theorem dX12_entry_66 : decode cX12_entry 66 = .ok (.iastore, 1) := by decide +kernel
theorem dX12_entry_67 : decode cX12_entry 67 = .ok (.goto 113, 3) := by decide +kernel
theorem dX12_entry_70 : decode cX12_entry 70 = .ok (.aload_n 0, 1) := by decide +kernel
theorem dX12_entry_71 : decode cX12_entry 71 = .ok (.getfield 7, 3) := by decide +kernel
theorem dX12_entry_74 : decode cX12_entry 74 = .ok (.iload 5, 2) := by decide +kernel
theorem dX12_entry_76 : decode cX12_entry 76 = .ok (.iconst 1, 1) := by decide +kernel
theorem dX12_entry_77 : decode cX12_entry 77 = .ok (.iadd, 1) := by decide +kernel
theorem dX12_entry_78 : decode cX12_entry 78 = .ok (.iaload, 1) := by decide +kernel
theorem dX12_entry_79 : decode cX12_entry 79 = .ok (.iload_n 1, 1) := by decide +kernel
theorem dX12_entry_80 : decode cX12_entry 80 = .ok (.invokestatic 190, 3) := by decide +kernel
theorem dX12_entry_83 : decode cX12_entry 83 = .ok (.ifCond .ne 19, 3) := by decide +kernel
theorem dX12_entry_86 : decode cX12_entry 86 = .ok (.aload_n 0, 1) := by decide +kernel
theorem dX12_entry_87 : decode cX12_entry 87 = .ok (.getfield 7, 3) := by decide +kernel
theorem dX12_entry_90 : decode cX12_entry 90 = .ok (.iload 5, 2) := by decide +kernel
theorem dX12_entry_92 : decode cX12_entry 92 = .ok (.iconst 4, 1) := by decide +kernel
theorem dX12_entry_93 : decode cX12_entry 93 = .ok (.iadd, 1) := by decide +kernel
theorem dX12_entry_94 : decode cX12_entry 94 = .ok (.dup2, 1) := by decide +kernel
theorem dX12_entry_95 : decode cX12_entry 95 = .ok (.iaload, 1) := by decide +kernel
theorem dX12_entry_96 : decode cX12_entry 96 = .ok (.iconst 1, 1) := by decide +kernel
theorem dX12_entry_97 : decode cX12_entry 97 = .ok (.iadd, 1) := by decide +kernel
theorem dX12_entry_98 : decode cX12_entry 98 = .ok (.iastore, 1) := by decide +kernel
theorem dX12_entry_99 : decode cX12_entry 99 = .ok (.goto 81, 3) := by decide +kernel
theorem dX12_entry_102 : decode cX12_entry 102 = .ok (.sipush 565, 3) := by decide +kernel
theorem dX12_entry_105 : decode cX12_entry 105 = .ok (.bipush 90, 2) := by decide +kernel
theorem dX12_entry_107 : decode cX12_entry 107 = .ok (.iload 4, 2) := by decide +kernel
theorem dX12_entry_109 : decode cX12_entry 109 = .ok (.imul, 1) := by decide +kernel
theorem dX12_entry_110 : decode cX12_entry 110 = .ok (.iadd, 1) := by decide +kernel
theorem dX12_entry_111 : decode cX12_entry 111 = .ok (.iconst 3, 1) := by decide +kernel
theorem dX12_entry_112 : decode cX12_entry 112 = .ok (.aload_n 0, 1) := by decide +kernel
theorem dX12_entry_113 : decode cX12_entry 113 = .ok (.getfield 7, 3) := by decide +kernel
theorem dX12_entry_116 : decode cX12_entry 116 = .ok (.iload 5, 2) := by decide +kernel
theorem dX12_entry_118 : decode cX12_entry 118 = .ok (.iconst 3, 1) := by decide +kernel
theorem dX12_entry_119 : decode cX12_entry 119 = .ok (.iadd, 1) := by decide +kernel
theorem dX12_entry_120 : decode cX12_entry 120 = .ok (.iaload, 1) := by decide +kernel
theorem dX12_entry_121 : decode cX12_entry 121 = .ok (.imul, 1) := by decide +kernel
theorem dX12_entry_122 : decode cX12_entry 122 = .ok (.iadd, 1) := by decide +kernel
theorem dX12_entry_123 : decode cX12_entry 123 = .ok (.istore 6, 2) := by decide +kernel
theorem dX12_entry_125 : decode cX12_entry 125 = .ok (.aload_n 0, 1) := by decide +kernel
theorem dX12_entry_126 : decode cX12_entry 126 = .ok (.getfield 7, 3) := by decide +kernel
theorem dX12_entry_129 : decode cX12_entry 129 = .ok (.iload 6, 2) := by decide +kernel
theorem dX12_entry_131 : decode cX12_entry 131 = .ok (.iload_n 1, 1) := by decide +kernel
theorem dX12_entry_132 : decode cX12_entry 132 = .ok (.iastore, 1) := by decide +kernel
theorem dX12_entry_133 : decode cX12_entry 133 = .ok (.aload_n 0, 1) := by decide +kernel
theorem dX12_entry_134 : decode cX12_entry 134 = .ok (.getfield 7, 3) := by decide +kernel
theorem dX12_entry_137 : decode cX12_entry 137 = .ok (.iload 6, 2) := by decide +kernel
theorem dX12_entry_139 : decode cX12_entry 139 = .ok (.iconst 1, 1) := by decide +kernel
theorem dX12_entry_140 : decode cX12_entry 140 = .ok (.iadd, 1) := by decide +kernel
theorem dX12_entry_141 : decode cX12_entry 141 = .ok (.iload_n 2, 1) := by decide +kernel
theorem dX12_entry_142 : decode cX12_entry 142 = .ok (.iastore, 1) := by decide +kernel
theorem dX12_entry_143 : decode cX12_entry 143 = .ok (.aload_n 0, 1) := by decide +kernel
theorem dX12_entry_144 : decode cX12_entry 144 = .ok (.getfield 7, 3) := by decide +kernel
theorem dX12_entry_147 : decode cX12_entry 147 = .ok (.iload 6, 2) := by decide +kernel
theorem dX12_entry_149 : decode cX12_entry 149 = .ok (.iconst 2, 1) := by decide +kernel
theorem dX12_entry_150 : decode cX12_entry 150 = .ok (.iadd, 1) := by decide +kernel
theorem dX12_entry_151 : decode cX12_entry 151 = .ok (.iload_n 3, 1) := by decide +kernel
theorem dX12_entry_152 : decode cX12_entry 152 = .ok (.iastore, 1) := by decide +kernel
theorem dX12_entry_153 : decode cX12_entry 153 = .ok (.aload_n 0, 1) := by decide +kernel
theorem dX12_entry_154 : decode cX12_entry 154 = .ok (.getfield 7, 3) := by decide +kernel
theorem dX12_entry_157 : decode cX12_entry 157 = .ok (.iload 5, 2) := by decide +kernel
theorem dX12_entry_159 : decode cX12_entry 159 = .ok (.iconst 3, 1) := by decide +kernel
theorem dX12_entry_160 : decode cX12_entry 160 = .ok (.iadd, 1) := by decide +kernel
theorem dX12_entry_161 : decode cX12_entry 161 = .ok (.dup2, 1) := by decide +kernel
theorem dX12_entry_162 : decode cX12_entry 162 = .ok (.iaload, 1) := by decide +kernel
theorem dX12_entry_163 : decode cX12_entry 163 = .ok (.iconst 1, 1) := by decide +kernel
theorem dX12_entry_164 : decode cX12_entry 164 = .ok (.iadd, 1) := by decide +kernel
theorem dX12_entry_165 : decode cX12_entry 165 = .ok (.iastore, 1) := by decide +kernel
theorem dX12_entry_166 : decode cX12_entry 166 = .ok (.aload_n 0, 1) := by decide +kernel
theorem dX12_entry_167 : decode cX12_entry 167 = .ok (.getfield 7, 3) := by decide +kernel
theorem dX12_entry_170 : decode cX12_entry 170 = .ok (.iload 5, 2) := by decide +kernel
theorem dX12_entry_172 : decode cX12_entry 172 = .ok (.bipush 6, 2) := by decide +kernel
theorem dX12_entry_174 : decode cX12_entry 174 = .ok (.iadd, 1) := by decide +kernel
theorem dX12_entry_175 : decode cX12_entry 175 = .ok (.dup2, 1) := by decide +kernel
theorem dX12_entry_176 : decode cX12_entry 176 = .ok (.iaload, 1) := by decide +kernel
theorem dX12_entry_177 : decode cX12_entry 177 = .ok (.iload_n 3, 1) := by decide +kernel
theorem dX12_entry_178 : decode cX12_entry 178 = .ok (.iadd, 1) := by decide +kernel
theorem dX12_entry_179 : decode cX12_entry 179 = .ok (.iastore, 1) := by decide +kernel
theorem dX12_entry_180 : decode cX12_entry 180 = .ok (.iinc 4 1, 3) := by decide +kernel
theorem dX12_entry_183 : decode cX12_entry 183 = .ok (.goto (-180), 3) := by decide +kernel
theorem dX12_entry_186 : decode cX12_entry 186 = .ok (.return_, 1) := by decide +kernel
set_option maxRecDepth 20000 in
theorem ggX12_book_X12_isIn : GoodIn wsX12_book wsX12_isIn := goodIn_r _ [5] (by decide +kernel) (by decide +kernel)
set_option maxRecDepth 20000 in
theorem gX12_book_X12_isIn : GoodIn wsX12_book (va_wsS RX12 83 yX12_isIn wsX12_isIn) := goodIn_app (goodIn_of _ (by decide +kernel)) ggX12_book_X12_isIn
theorem dX12_book_0 : decode cX12_book 0 = .ok (.iload_n 1, 1) := by decide +kernel
theorem dX12_book_1 : decode cX12_book 1 = .ok (.iconst 0, 1) := by decide +kernel
theorem dX12_book_2 : decode cX12_book 2 = .ok (.iconst 2, 1) := by decide +kernel
theorem dX12_book_3 : decode cX12_book 3 = .ok (.invokestatic 83, 3) := by decide +kernel
theorem dX12_book_6 : decode cX12_book 6 = .ok (.ifCond .eq 22, 3) := by decide +kernel
theorem dX12_book_9 : decode cX12_book 9 = .ok (.iload_n 2, 1) := by decide +kernel
theorem dX12_book_10 : decode cX12_book 10 = .ok (.iconst 0, 1) := by decide +kernel
theorem dX12_book_11 : decode cX12_book 11 = .ok (.iconst 3, 1) := by decide +kernel
theorem dX12_book_12 : decode cX12_book 12 = .ok (.invokestatic 83, 3) := by decide +kernel
theorem dX12_book_15 : decode cX12_book 15 = .ok (.ifCond .eq 13, 3) := by decide +kernel
theorem dX12_book_18 : decode cX12_book 18 = .ok (.iload_n 3, 1) := by decide +kernel
theorem dX12_book_19 : decode cX12_book 19 = .ok (.iconst 0, 1) := by decide +kernel
theorem dX12_book_20 : decode cX12_book 20 = .ok (.bipush 30, 2) := by decide +kernel
theorem dX12_book_22 : decode cX12_book 22 = .ok (.invokestatic 83, 3) := by decide +kernel
theorem dX12_book_25 : decode cX12_book 25 = .ok (.ifCond .ne 5, 3) := by decide +kernel
theorem dX12_book_28 : decode cX12_book 28 = .ok (.iconst (-1), 1) := by decide +kernel
theorem dX12_book_29 : decode cX12_book 29 = .ok (.ireturn, 1) := by decide +kernel
theorem dX12_book_30 : decode cX12_book 30 = .ok (.sipush 544, 3) := by decide +kernel
theorem dX12_book_33 : decode cX12_book 33 = .ok (.bipush 7, 2) := by decide +kernel
theorem dX12_book_35 : decode cX12_book 35 = .ok (.iload_n 1, 1) := by decide +kernel
theorem dX12_book_36 : decode cX12_book 36 = .ok (.imul, 1) := by decide +kernel
theorem dX12_book_37 : decode cX12_book 37 = .ok (.iadd, 1) := by decide +kernel
theorem dX12_book_38 : decode cX12_book 38 = .ok (.istore 4, 2) := by decide +kernel
theorem dX12_book_40 : decode cX12_book 40 = .ok (.iconst 0, 1) := by decide +kernel
theorem dX12_book_41 : decode cX12_book 41 = .ok (.istore 5, 2) := by decide +kernel
theorem dX12_book_43 : decode cX12_book 43 = .ok (.iload 5, 2) := by decide +kernel
theorem dX12_book_45 : decode cX12_book 45 = .ok (.bipush 7, 2) := by decide +kernel
theorem dX12_book_47 : decode cX12_book 47 = .ok (.if_icmp .ge 20, 3) := by decide +kernel
theorem dX12_book_50 : decode cX12_book 50 = .ok (.aload_n 0, 1) := by decide +kernel
theorem dX12_book_51 : decode cX12_book 51 = .ok (.getfield 7, 3) := by decide +kernel
theorem dX12_book_54 : decode cX12_book 54 = .ok (.iload 4, 2) := by decide +kernel
theorem dX12_book_56 : decode cX12_book 56 = .ok (.iload 5, 2) := by decide +kernel
theorem dX12_book_58 : decode cX12_book 58 = .ok (.iadd, 1) := by decide +kernel
theorem dX12_book_59 : decode cX12_book 59 = .ok (.iconst 0, 1) := by decide +kernel
theorem dX12_book_60 : decode cX12_book 60 = .ok (.iastore, 1) := by decide +kernel
theorem dX12_book_61 : decode cX12_book 61 = .ok (.iinc 5 1, 3) := by decide +kernel
theorem dX12_book_64 : decode cX12_book 64 = .ok (.goto (-21), 3) := by decide +kernel
theorem dX12_book_67 : decode cX12_book 67 = .ok (.aload_n 0, 1) := by decide +kernel
theorem dX12_book_68 : decode cX12_book 68 = .ok (.getfield 7, 3) := by decide +kernel
theorem dX12_book_71 : decode cX12_book 71 = .ok (.iload 4, 2) := by decide +kernel
theorem dX12_book_73 : decode cX12_book 73 = .ok (.iconst 1, 1) := by decide +kernel
theorem dX12_book_74 : decode cX12_book 74 = .ok (.iastore, 1) := by decide +kernel
theorem dX12_book_75 : decode cX12_book 75 = .ok (.aload_n 0, 1) := by decide +kernel
theorem dX12_book_76 : decode cX12_book 76 = .ok (.getfield 7, 3) := by decide +kernel
theorem dX12_book_79 : decode cX12_book 79 = .ok (.iload 4, 2) := by decide +kernel
theorem dX12_book_81 : decode cX12_book 81 = .ok (.iconst 1, 1) := by decide +kernel
theorem dX12_book_82 : decode cX12_book 82 = .ok (.iadd, 1) := by decide +kernel
theorem dX12_book_83 : decode cX12_book 83 = .ok (.iload_n 2, 1) := by decide +kernel
theorem dX12_book_84 : decode cX12_book 84 = .ok (.iastore, 1) := by decide +kernel
theorem dX12_book_85 : decode cX12_book 85 = .ok (.aload_n 0, 1) := by decide +kernel
theorem dX12_book_86 : decode cX12_book 86 = .ok (.getfield 7, 3) := by decide +kernel
theorem dX12_book_89 : decode cX12_book 89 = .ok (.iload 4, 2) := by decide +kernel
theorem dX12_book_91 : decode cX12_book 91 = .ok (.iconst 2, 1) := by decide +kernel
theorem dX12_book_92 : decode cX12_book 92 = .ok (.iadd, 1) := by decide +kernel
theorem dX12_book_93 : decode cX12_book 93 = .ok (.iload_n 3, 1) := by decide +kernel
theorem dX12_book_94 : decode cX12_book 94 = .ok (.iastore, 1) := by decide +kernel
theorem dX12_book_95 : decode cX12_book 95 = .ok (.iconst 0, 1) := by decide +kernel
theorem dX12_book_96 : decode cX12_book 96 = .ok (.ireturn, 1) := by decide +kernel
set_option maxRecDepth 20000 in
theorem ggX12_isOpened_X12_isIn : GoodIn wsX12_isOpened wsX12_isIn := goodIn_r _ [5] (by decide +kernel) (by decide +kernel)
set_option maxRecDepth 20000 in
theorem gX12_isOpened_X12_isIn : GoodIn wsX12_isOpened (va_wsS RX12 83 yX12_isIn wsX12_isIn) := goodIn_app (goodIn_of _ (by decide +kernel)) ggX12_isOpened_X12_isIn
theorem dX12_isOpened_0 : decode cX12_isOpened 0 = .ok (.iload_n 1, 1) := by decide +kernel
theorem dX12_isOpened_1 : decode cX12_isOpened 1 = .ok (.iconst 0, 1) := by decide +kernel
theorem dX12_isOpened_2 : decode cX12_isOpened 2 = .ok (.iconst 2, 1) := by decide +kernel
theorem dX12_isOpened_3 : decode cX12_isOpened 3 = .ok (.invokestatic 83, 3) := by decide +kernel
theorem dX12_isOpened_6 : decode cX12_isOpened 6 = .ok (.ifCond .eq 24, 3) := by decide +kernel
theorem dX12_isOpened_9 : decode cX12_isOpened 9 = .ok (.aload_n 0, 1) := by decide +kernel
theorem dX12_isOpened_10 : decode cX12_isOpened 10 = .ok (.getfield 7, 3) := by decide +kernel
theorem dX12_isOpened_13 : decode cX12_isOpened 13 = .ok (.sipush 544, 3) := by decide +kernel
theorem dX12_isOpened_16 : decode cX12_isOpened 16 = .ok (.bipush 7, 2) := by decide +kernel
theorem dX12_isOpened_18 : decode cX12_isOpened 18 = .ok (.iload_n 1, 1) := by decide +kernel
theorem dX12_isOpened_19 : decode cX12_isOpened 19 = .ok (.imul, 1) := by decide +kernel
theorem dX12_isOpened_20 : decode cX12_isOpened 20 = .ok (.iadd, 1) := by decide +kernel
theorem dX12_isOpened_21 : decode cX12_isOpened 21 = .ok (.iaload, 1) := by decide +kernel
theorem dX12_isOpened_22 : decode cX12_isOpened 22 = .ok (.iconst 1, 1) := by decide +kernel
theorem dX12_isOpened_23 : decode cX12_isOpened 23 = .ok (.if_icmp .ne 7, 3) := by decide +kernel
theorem dX12_isOpened_26 : decode cX12_isOpened 26 = .ok (.iconst 1, 1) := by decide +kernel
theorem dX12_isOpened_27 : decode cX12_isOpened 27 = .ok (.goto 4, 3) := by decide +kernel
theorem dX12_isOpened_30 : decode cX12_isOpened 30 = .ok (.iconst 0, 1) := by decide +kernel
theorem dX12_isOpened_31 : decode cX12_isOpened 31 = .ok (.ireturn, 1) := by decide +kernel
set_option maxRecDepth 20000 in
theorem ggX12_booked_X12_isOpened : GoodIn wsX12_booked wsX12_isOpened := goodIn_r _ [6, 1, 7, 8, 5, 9, 10, 11, 12, 13, 14, 15, 16, 17, 18, 19, 20, 21, 22, 23, 24, 25, 26, 27, 28, 29, 30, 31, 32, 33, 34, 35, 36, 37, 38, 39, 40, 41, 42, 43, 44, 45, 46, 47, 48, 49, 50, 51, 52, 53, 54, 55, 56] (by decide +kernel) (by decide +kernel)
set_option maxRecDepth 20000 in
theorem gX12_booked_X12_isOpened : GoodIn wsX12_booked (wsV RX12 193 RX12 yX12_isOpened wsX12_isOpened) := goodIn_app (goodIn_of _ (by decide +kernel)) ggX12_booked_X12_isOpened
theorem dX12_booked_0 : decode cX12_booked 0 = .ok (.aload_n 0, 1) := by decide +kernel
theorem dX12_booked_1 : decode cX12_booked 1 = .ok (.iload_n 1, 1) := by decide +kernel
theorem dX12_booked_2 : decode cX12_booked 2 = .ok (.invokevirtual 193, 3) := by decide +kernel
theorem dX12_booked_5 : decode cX12_booked 5 = .ok (.ifCond .ne 5, 3) := by decide +kernel
theorem dX12_booked_8 : decode cX12_booked 8 = .ok (.iconst (-1), 1) := by decide +kernel
theorem dX12_booked_9 : decode cX12_booked 9 = .ok (.ireturn, 1) := by decide +kernel
theorem dX12_booked_10 : decode cX12_booked 10 = .ok (.sipush 544, 3) := by decide +kernel
theorem dX12_booked_13 : decode cX12_booked 13 = .ok (.bipush 7, 2) := by decide +kernel
theorem dX12_booked_15 : decode cX12_booked 15 = .ok (.iload_n 1, 1) := by decide +kernel
theorem dX12_booked_16 : decode cX12_booked 16 = .ok (.imul, 1) := by decide +kernel
theorem dX12_booked_17 : decode cX12_booked 17 = .ok (.iadd, 1) := by decide +kernel
theorem dX12_booked_18 : decode cX12_booked 18 = .ok (.istore_n 3, 1) := by decide +kernel
theorem dX12_booked_19 : decode cX12_booked 19 = .ok (.iload_n 2, 1) := by decide +kernel
theorem dX12_booked_20 : decode cX12_booked 20 = .ok (.tableswitch 95 0 5 #[40, 49, 58, 67, 77, 86], 40) := by decide +kernel
theorem dX12_booked_60 : decode cX12_booked 60 = .ok (.aload_n 0, 1) := by decide +kernel
theorem dX12_booked_61 : decode cX12_booked 61 = .ok (.getfield 7, 3) := by decide +kernel
theorem dX12_booked_64 : decode cX12_booked 64 = .ok (.iload_n 3, 1) := by decide +kernel
theorem dX12_booked_65 : decode cX12_booked 65 = .ok (.iconst 3, 1) := by decide +kernel
theorem dX12_booked_66 : decode cX12_booked 66 = .ok (.iadd, 1) := by decide +kernel
theorem dX12_booked_67 : decode cX12_booked 67 = .ok (.iaload, 1) := by decide +kernel
theorem dX12_booked_68 : decode cX12_booked 68 = .ok (.ireturn, 1) := by decide +kernel
theorem dX12_booked_69 : decode cX12_booked 69 = .ok (.aload_n 0, 1) := by decide +kernel
theorem dX12_booked_70 : decode cX12_booked 70 = .ok (.getfield 7, 3) := by decide +kernel
theorem dX12_booked_73 : decode cX12_booked 73 = .ok (.iload_n 3, 1) := by decide +kernel
theorem dX12_booked_74 : decode cX12_booked 74 = .ok (.iconst 4, 1) := by decide +kernel
theorem dX12_booked_75 : decode cX12_booked 75 = .ok (.iadd, 1) := by decide +kernel
theorem dX12_booked_76 : decode cX12_booked 76 = .ok (.iaload, 1) := by decide +kernel
theorem dX12_booked_77 : decode cX12_booked 77 = .ok (.ireturn, 1) := by decide +kernel
theorem dX12_booked_78 : decode cX12_booked 78 = .ok (.aload_n 0, 1) := by decide +kernel
theorem dX12_booked_79 : decode cX12_booked 79 = .ok (.getfield 7, 3) := by decide +kernel
theorem dX12_booked_82 : decode cX12_booked 82 = .ok (.iload_n 3, 1) := by decide +kernel
theorem dX12_booked_83 : decode cX12_booked 83 = .ok (.iconst 5, 1) := by decide +kernel
theorem dX12_booked_84 : decode cX12_booked 84 = .ok (.iadd, 1) := by decide +kernel
theorem dX12_booked_85 : decode cX12_booked 85 = .ok (.iaload, 1) := by decide +kernel
theorem dX12_booked_86 : decode cX12_booked 86 = .ok (.ireturn, 1) := by decide +kernel
theorem dX12_booked_87 : decode cX12_booked 87 = .ok (.aload_n 0, 1) := by decide +kernel
theorem dX12_booked_88 : decode cX12_booked 88 = .ok (.getfield 7, 3) := by decide +kernel
theorem dX12_booked_91 : decode cX12_booked 91 = .ok (.iload_n 3, 1) := by decide +kernel
theorem dX12_booked_92 : decode cX12_booked 92 = .ok (.bipush 6, 2) := by decide +kernel
theorem dX12_booked_94 : decode cX12_booked 94 = .ok (.iadd, 1) := by decide +kernel
theorem dX12_booked_95 : decode cX12_booked 95 = .ok (.iaload, 1) := by decide +kernel
theorem dX12_booked_96 : decode cX12_booked 96 = .ok (.ireturn, 1) := by decide +kernel
theorem dX12_booked_97 : decode cX12_booked 97 = .ok (.aload_n 0, 1) := by decide +kernel
theorem dX12_booked_98 : decode cX12_booked 98 = .ok (.getfield 7, 3) := by decide +kernel
theorem dX12_booked_101 : decode cX12_booked 101 = .ok (.iload_n 3, 1) := by decide +kernel
theorem dX12_booked_102 : decode cX12_booked 102 = .ok (.iconst 1, 1) := by decide +kernel
theorem dX12_booked_103 : decode cX12_booked 103 = .ok (.iadd, 1) := by decide +kernel
theorem dX12_booked_104 : decode cX12_booked 104 = .ok (.iaload, 1) := by decide +kernel
theorem dX12_booked_105 : decode cX12_booked 105 = .ok (.ireturn, 1) := by decide +kernel
theorem dX12_booked_106 : decode cX12_booked 106 = .ok (.aload_n 0, 1) := by decide +kernel
theorem dX12_booked_107 : decode cX12_booked 107 = .ok (.getfield 7, 3) := by decide +kernel
theorem dX12_booked_110 : decode cX12_booked 110 = .ok (.iload_n 3, 1) := by decide +kernel
theorem dX12_booked_111 : decode cX12_booked 111 = .ok (.iconst 2, 1) := by decide +kernel
theorem dX12_booked_112 : decode cX12_booked 112 = .ok (.iadd, 1) := by decide +kernel
theorem dX12_booked_113 : decode cX12_booked 113 = .ok (.iaload, 1) := by decide +kernel
theorem dX12_booked_114 : decode cX12_booked 114 = .ok (.ireturn, 1) := by decide +kernel
theorem dX12_booked_115 : decode cX12_booked 115 = .ok (.iconst (-1), 1) := by decide +kernel
theorem dX12_booked_116 : decode cX12_booked 116 = .ok (.ireturn, 1) := by decide +kernel
set_option maxRecDepth 20000 in
theorem ggX12_line_X12_isOpened : GoodIn wsX12_line wsX12_isOpened := goodIn_r _ [6, 1, 7, 8, 5, 9, 10, 11, 12, 13, 14, 15, 16, 17, 18, 19, 20, 21, 22, 23, 24, 25, 26, 27, 28, 29, 30, 31, 32, 33, 34, 35, 36, 37, 38, 39, 40, 41, 42, 43, 44, 45, 46, 47, 48, 49, 50, 51, 52, 53, 54, 55, 56] (by decide +kernel) (by decide +kernel)
set_option maxRecDepth 20000 in
theorem gX12_line_X12_isOpened : GoodIn wsX12_line (wsV RX12 193 RX12 yX12_isOpened wsX12_isOpened) := goodIn_app (goodIn_of _ (by decide +kernel)) ggX12_line_X12_isOpened
set_option maxRecDepth 20000 in
theorem ggX12_line_X12_isIn : GoodIn wsX12_line wsX12_isIn := goodIn_r _ [9] (by decide +kernel) (by decide +kernel)
set_option maxRecDepth 20000 in
theorem gX12_line_X12_isIn : GoodIn wsX12_line (va_wsS RX12 83 yX12_isIn wsX12_isIn) := goodIn_app (goodIn_of _ (by decide +kernel)) ggX12_line_X12_isIn
theorem dX12_line_0 : decode cX12_line 0 = .ok (.aload_n 0, 1) := by decide +kernel
theorem dX12_line_1 : decode cX12_line 1 = .ok (.iload_n 1, 1) := by decide +kernel
theorem dX12_line_2 : decode cX12_line 2 = .ok (.invokevirtual 193, 3) := by decide +kernel
theorem dX12_line_5 : decode cX12_line 5 = .ok (.ifCond .eq 59, 3) := by decide +kernel
theorem dX12_line_8 : decode cX12_line 8 = .ok (.iload_n 2, 1) := by decide +kernel
theorem dX12_line_9 : decode cX12_line 9 = .ok (.iconst 0, 1) := by decide +kernel
theorem dX12_line_10 : decode cX12_line 10 = .ok (.aload_n 0, 1) := by decide +kernel
theorem dX12_line_11 : decode cX12_line 11 = .ok (.getfield 7, 3) := by decide +kernel
theorem dX12_line_14 : decode cX12_line 14 = .ok (.sipush 544, 3) := by decide +kernel
theorem dX12_line_17 : decode cX12_line 17 = .ok (.bipush 7, 2) := by decide +kernel
theorem dX12_line_19 : decode cX12_line 19 = .ok (.iload_n 1, 1) := by decide +kernel
theorem dX12_line_20 : decode cX12_line 20 = .ok (.imul, 1) := by decide +kernel
theorem dX12_line_21 : decode cX12_line 21 = .ok (.iadd, 1) := by decide +kernel
theorem dX12_line_22 : decode cX12_line 22 = .ok (.iconst 3, 1) := by decide +kernel
theorem dX12_line_23 : decode cX12_line 23 = .ok (.iadd, 1) := by decide +kernel
theorem dX12_line_24 : decode cX12_line 24 = .ok (.iaload, 1) := by decide +kernel
theorem dX12_line_25 : decode cX12_line 25 = .ok (.iconst 1, 1) := by decide +kernel
theorem dX12_line_26 : decode cX12_line 26 = .ok (.isub, 1) := by decide +kernel
theorem dX12_line_27 : decode cX12_line 27 = .ok (.invokestatic 83, 3) := by decide +kernel
theorem dX12_line_30 : decode cX12_line 30 = .ok (.ifCond .eq 34, 3) := by decide +kernel
theorem dX12_line_33 : decode cX12_line 33 = .ok (.iload_n 3, 1) := by decide +kernel
theorem dX12_line_34 : decode cX12_line 34 = .ok (.iconst 0, 1) := by decide +kernel
theorem dX12_line_35 : decode cX12_line 35 = .ok (.iconst 2, 1) := by decide +kernel
theorem dX12_line_36 : decode cX12_line 36 = .ok (.invokestatic 83, 3) := by decide +kernel
theorem dX12_line_39 : decode cX12_line 39 = .ok (.ifCond .eq 25, 3) := by decide +kernel
theorem dX12_line_42 : decode cX12_line 42 = .ok (.aload_n 0, 1) := by decide +kernel
theorem dX12_line_43 : decode cX12_line 43 = .ok (.getfield 7, 3) := by decide +kernel
theorem dX12_line_46 : decode cX12_line 46 = .ok (.sipush 565, 3) := by decide +kernel
theorem dX12_line_49 : decode cX12_line 49 = .ok (.bipush 90, 2) := by decide +kernel
theorem dX12_line_51 : decode cX12_line 51 = .ok (.iload_n 1, 1) := by decide +kernel
theorem dX12_line_52 : decode cX12_line 52 = .ok (.imul, 1) := by decide +kernel
theorem dX12_line_53 : decode cX12_line 53 = .ok (.iadd, 1) := by decide +kernel
theorem dX12_line_54 : decode cX12_line 54 = .ok (.iconst 3, 1) := by decide +kernel
theorem dX12_line_55 : decode cX12_line 55 = .ok (.iload_n 2, 1) := by decide +kernel
theorem dX12_line_56 : decode cX12_line 56 = .ok (.imul, 1) := by decide +kernel
theorem dX12_line_57 : decode cX12_line 57 = .ok (.iadd, 1) := by decide +kernel
theorem dX12_line_58 : decode cX12_line 58 = .ok (.iload_n 3, 1) := by decide +kernel
theorem dX12_line_59 : decode cX12_line 59 = .ok (.iadd, 1) := by decide +kernel
theorem dX12_line_60 : decode cX12_line 60 = .ok (.iaload, 1) := by decide +kernel
theorem dX12_line_61 : decode cX12_line 61 = .ok (.goto 4, 3) := by decide +kernel
theorem dX12_line_64 : decode cX12_line 64 = .ok (.iconst (-1), 1) := by decide +kernel
theorem dX12_line_65 : decode cX12_line 65 = .ok (.ireturn, 1) := by decide +kernel
set_option maxRecDepth 20000 in
theorem ggX12_lies_X12_bitOf : GoodIn wsX12_lies wsX12_bitOf := goodIn_r _ [5] (by decide +kernel) (by decide +kernel)
set_option maxRecDepth 20000 in
theorem gX12_lies_X12_bitOf : GoodIn wsX12_lies (va_wsS RX12 196 yX12_bitOf wsX12_bitOf) := goodIn_app (goodIn_of _ (by decide +kernel)) ggX12_lies_X12_bitOf
theorem dX12_lies_0 : decode cX12_lies 0 = .ok (.iconst 0, 1) := by decide +kernel
theorem dX12_lies_1 : decode cX12_lies 1 = .ok (.istore_n 1, 1) := by decide +kernel
theorem dX12_lies_2 : decode cX12_lies 2 = .ok (.iconst 0, 1) := by decide +kernel
theorem dX12_lies_3 : decode cX12_lies 3 = .ok (.istore_n 2, 1) := by decide +kernel
theorem dX12_lies_4 : decode cX12_lies 4 = .ok (.iload_n 2, 1) := by decide +kernel
theorem dX12_lies_5 : decode cX12_lies 5 = .ok (.aload_n 0, 1) := by decide +kernel
theorem dX12_lies_6 : decode cX12_lies 6 = .ok (.getfield 7, 3) := by decide +kernel
theorem dX12_lies_9 : decode cX12_lies 9 = .ok (.iconst 2, 1) := by decide +kernel
theorem dX12_lies_10 : decode cX12_lies 10 = .ok (.iaload, 1) := by decide +kernel
theorem dX12_lies_11 : decode cX12_lies 11 = .ok (.if_icmp .ge 38, 3) := by decide +kernel
theorem dX12_lies_14 : decode cX12_lies 14 = .ok (.iload_n 1, 1) := by decide +kernel
theorem dX12_lies_15 : decode cX12_lies 15 = .ok (.aload_n 0, 1) := by decide +kernel
theorem dX12_lies_16 : decode cX12_lies 16 = .ok (.getfield 7, 3) := by decide +kernel
theorem dX12_lies_19 : decode cX12_lies 19 = .ok (.iconst 3, 1) := by decide +kernel
theorem dX12_lies_20 : decode cX12_lies 20 = .ok (.iaload, 1) := by decide +kernel
theorem dX12_lies_21 : decode cX12_lies 21 = .ok (.iload_n 2, 1) := by decide +kernel
theorem dX12_lies_22 : decode cX12_lies 22 = .ok (.invokestatic 196, 3) := by decide +kernel
theorem dX12_lies_25 : decode cX12_lies 25 = .ok (.ifCond .eq 15, 3) := by decide +kernel
theorem dX12_lies_28 : decode cX12_lies 28 = .ok (.aload_n 0, 1) := by decide +kernel
theorem dX12_lies_29 : decode cX12_lies 29 = .ok (.getfield 7, 3) := by decide +kernel
theorem dX12_lies_32 : decode cX12_lies 32 = .ok (.bipush 8, 2) := by decide +kernel
theorem dX12_lies_34 : decode cX12_lies 34 = .ok (.iload_n 2, 1) := by decide +kernel
theorem dX12_lies_35 : decode cX12_lies 35 = .ok (.iadd, 1) := by decide +kernel
theorem dX12_lies_36 : decode cX12_lies 36 = .ok (.iaload, 1) := by decide +kernel
theorem dX12_lies_37 : decode cX12_lies 37 = .ok (.goto 4, 3) := by decide +kernel
theorem dX12_lies_40 : decode cX12_lies 40 = .ok (.iconst 0, 1) := by decide +kernel
theorem dX12_lies_41 : decode cX12_lies 41 = .ok (.iadd, 1) := by decide +kernel
theorem dX12_lies_42 : decode cX12_lies 42 = .ok (.istore_n 1, 1) := by decide +kernel
theorem dX12_lies_43 : decode cX12_lies 43 = .ok (.iinc 2 1, 3) := by decide +kernel
theorem dX12_lies_46 : decode cX12_lies 46 = .ok (.goto (-42), 3) := by decide +kernel
theorem dX12_lies_49 : decode cX12_lies 49 = .ok (.iload_n 1, 1) := by decide +kernel
theorem dX12_lies_50 : decode cX12_lies 50 = .ok (.ireturn, 1) := by decide +kernel
set_option maxRecDepth 20000 in
theorem ggX12_down_X12_entry : GoodIn wsX12_down wsX12_entry := goodIn_r _ [6, 1, 7, 8, 5, 9, 17, 18, 19, 20, 21, 22, 23, 24, 25, 26, 27, 28, 29, 30, 31, 32, 33, 34, 35, 36, 37, 38, 39, 40, 41, 42, 43, 44, 45, 46, 47, 48, 49, 50, 51, 52, 53, 54, 55, 56, 57, 58, 59, 60, 61, 62, 63] (by decide +kernel) (by decide +kernel)
set_option maxRecDepth 20000 in
theorem gX12_down_X12_entry : GoodIn wsX12_down (wsV RX12 199 RX12 yX12_entry wsX12_entry) := goodIn_app (goodIn_of _ (by decide +kernel)) ggX12_down_X12_entry
set_option maxRecDepth 20000 in
theorem ggX12_down_X12_gatesOpen : GoodIn wsX12_down wsX12_gatesOpen := goodIn_r _ [13, 14, 15, 16, 17, 18, 19, 20, 21, 22, 23, 24, 25, 26, 27, 28, 29, 30, 31, 32, 33, 34, 35, 36, 37, 38, 39, 40, 41, 42, 43, 44, 45, 46, 47, 48, 49, 50, 51, 52, 53, 54, 55, 56, 57, 58, 59, 60, 61, 62, 63] (by decide +kernel) (by decide +kernel)
set_option maxRecDepth 20000 in
theorem gX12_down_X12_gatesOpen : GoodIn wsX12_down (wsV RX12 203 RX12 yX12_gatesOpen wsX12_gatesOpen) := goodIn_app (goodIn_of _ (by decide +kernel)) ggX12_down_X12_gatesOpen
theorem dX12_down_0 : decode cX12_down 0 = .ok (.aload_n 0, 1) := by decide +kernel
theorem dX12_down_1 : decode cX12_down 1 = .ok (.getfield 7, 3) := by decide +kernel
theorem dX12_down_4 : decode cX12_down 4 = .ok (.iconst 3, 1) := by decide +kernel
theorem dX12_down_5 : decode cX12_down 5 = .ok (.dup2, 1) := by decide +kernel
theorem dX12_down_6 : decode cX12_down 6 = .ok (.iaload, 1) := by decide +kernel
theorem dX12_down_7 : decode cX12_down 7 = .ok (.iconst 1, 1) := by decide +kernel
theorem dX12_down_8 : decode cX12_down 8 = .ok (.iload_n 1, 1) := by decide +kernel
theorem dX12_down_9 : decode cX12_down 9 = .ok (.ishl, 1) := by decide +kernel
theorem dX12_down_10 : decode cX12_down 10 = .ok (.iconst (-1), 1) := by decide +kernel
theorem dX12_down_11 : decode cX12_down 11 = .ok (.ixor, 1) := by decide +kernel
theorem dX12_down_12 : decode cX12_down 12 = .ok (.iand, 1) := by decide +kernel
theorem dX12_down_13 : decode cX12_down 13 = .ok (.iastore, 1) := by decide +kernel
theorem dX12_down_14 : decode cX12_down 14 = .ok (.aload_n 0, 1) := by decide +kernel
theorem dX12_down_15 : decode cX12_down 15 = .ok (.getfield 7, 3) := by decide +kernel
theorem dX12_down_18 : decode cX12_down 18 = .ok (.bipush 32, 2) := by decide +kernel
theorem dX12_down_20 : decode cX12_down 20 = .ok (.iload_n 1, 1) := by decide +kernel
theorem dX12_down_21 : decode cX12_down 21 = .ok (.iadd, 1) := by decide +kernel
theorem dX12_down_22 : decode cX12_down 22 = .ok (.iconst 0, 1) := by decide +kernel
theorem dX12_down_23 : decode cX12_down 23 = .ok (.iastore, 1) := by decide +kernel
theorem dX12_down_24 : decode cX12_down 24 = .ok (.aload_n 0, 1) := by decide +kernel
theorem dX12_down_25 : decode cX12_down 25 = .ok (.getfield 7, 3) := by decide +kernel
theorem dX12_down_28 : decode cX12_down 28 = .ok (.iconst 5, 1) := by decide +kernel
theorem dX12_down_29 : decode cX12_down 29 = .ok (.dup2, 1) := by decide +kernel
theorem dX12_down_30 : decode cX12_down 30 = .ok (.iaload, 1) := by decide +kernel
theorem dX12_down_31 : decode cX12_down 31 = .ok (.iconst 1, 1) := by decide +kernel
theorem dX12_down_32 : decode cX12_down 32 = .ok (.iadd, 1) := by decide +kernel
theorem dX12_down_33 : decode cX12_down 33 = .ok (.iastore, 1) := by decide +kernel
theorem dX12_down_34 : decode cX12_down 34 = .ok (.aload_n 0, 1) := by decide +kernel
theorem dX12_down_35 : decode cX12_down 35 = .ok (.iconst 2, 1) := by decide +kernel
theorem dX12_down_36 : decode cX12_down 36 = .ok (.iload_n 1, 1) := by decide +kernel
theorem dX12_down_37 : decode cX12_down 37 = .ok (.aload_n 0, 1) := by decide +kernel
theorem dX12_down_38 : decode cX12_down 38 = .ok (.getfield 7, 3) := by decide +kernel
theorem dX12_down_41 : decode cX12_down 41 = .ok (.bipush 8, 2) := by decide +kernel
theorem dX12_down_43 : decode cX12_down 43 = .ok (.iload_n 1, 1) := by decide +kernel
theorem dX12_down_44 : decode cX12_down 44 = .ok (.iadd, 1) := by decide +kernel
theorem dX12_down_45 : decode cX12_down 45 = .ok (.iaload, 1) := by decide +kernel
theorem dX12_down_46 : decode cX12_down 46 = .ok (.invokevirtual 199, 3) := by decide +kernel
theorem dX12_down_49 : decode cX12_down 49 = .ok (.aload_n 0, 1) := by decide +kernel
theorem dX12_down_50 : decode cX12_down 50 = .ok (.invokevirtual 203, 3) := by decide +kernel
theorem dX12_down_53 : decode cX12_down 53 = .ok (.return_, 1) := by decide +kernel
set_option maxRecDepth 20000 in
theorem ggX12_up_X12_entry : GoodIn wsX12_up wsX12_entry := goodIn_r _ [6, 1, 7, 8, 5, 9, 17, 18, 19, 20, 21, 22, 23, 24, 25, 26, 27, 28, 29, 30, 31, 32, 33, 34, 35, 36, 37, 38, 39, 40, 41, 42, 43, 44, 45, 46, 47, 48, 49, 50, 51, 52, 53, 54, 55, 56, 57, 58, 59, 60, 61, 62, 63] (by decide +kernel) (by decide +kernel)
set_option maxRecDepth 20000 in
theorem gX12_up_X12_entry : GoodIn wsX12_up (wsV RX12 199 RX12 yX12_entry wsX12_entry) := goodIn_app (goodIn_of _ (by decide +kernel)) ggX12_up_X12_entry
set_option maxRecDepth 20000 in
theorem ggX12_up_X12_gatesOpen : GoodIn wsX12_up wsX12_gatesOpen := goodIn_r _ [13, 14, 15, 16, 17, 18, 19, 20, 21, 22, 23, 24, 25, 26, 27, 28, 29, 30, 31, 32, 33, 34, 35, 36, 37, 38, 39, 40, 41, 42, 43, 44, 45, 46, 47, 48, 49, 50, 51, 52, 53, 54, 55, 56, 57, 58, 59, 60, 61, 62, 63] (by decide +kernel) (by decide +kernel)
set_option maxRecDepth 20000 in
theorem gX12_up_X12_gatesOpen : GoodIn wsX12_up (wsV RX12 203 RX12 yX12_gatesOpen wsX12_gatesOpen) := goodIn_app (goodIn_of _ (by decide +kernel)) ggX12_up_X12_gatesOpen
theorem dX12_up_0 : decode cX12_up 0 = .ok (.aload_n 0, 1) := by decide +kernel
theorem dX12_up_1 : decode cX12_up 1 = .ok (.getfield 7, 3) := by decide +kernel
theorem dX12_up_4 : decode cX12_up 4 = .ok (.iconst 3, 1) := by decide +kernel
theorem dX12_up_5 : decode cX12_up 5 = .ok (.dup2, 1) := by decide +kernel
theorem dX12_up_6 : decode cX12_up 6 = .ok (.iaload, 1) := by decide +kernel
theorem dX12_up_7 : decode cX12_up 7 = .ok (.iconst 1, 1) := by decide +kernel
theorem dX12_up_8 : decode cX12_up 8 = .ok (.iload_n 1, 1) := by decide +kernel
theorem dX12_up_9 : decode cX12_up 9 = .ok (.ishl, 1) := by decide +kernel
theorem dX12_up_10 : decode cX12_up 10 = .ok (.ior, 1) := by decide +kernel
theorem dX12_up_11 : decode cX12_up 11 = .ok (.iastore, 1) := by decide +kernel
theorem dX12_up_12 : decode cX12_up 12 = .ok (.aload_n 0, 1) := by decide +kernel
theorem dX12_up_13 : decode cX12_up 13 = .ok (.getfield 7, 3) := by decide +kernel
theorem dX12_up_16 : decode cX12_up 16 = .ok (.bipush 32, 2) := by decide +kernel
theorem dX12_up_18 : decode cX12_up 18 = .ok (.iload_n 1, 1) := by decide +kernel
theorem dX12_up_19 : decode cX12_up 19 = .ok (.iadd, 1) := by decide +kernel
theorem dX12_up_20 : decode cX12_up 20 = .ok (.bipush 60, 2) := by decide +kernel
theorem dX12_up_22 : decode cX12_up 22 = .ok (.aload_n 0, 1) := by decide +kernel
theorem dX12_up_23 : decode cX12_up 23 = .ok (.getfield 7, 3) := by decide +kernel
theorem dX12_up_26 : decode cX12_up 26 = .ok (.bipush 16, 2) := by decide +kernel
theorem dX12_up_28 : decode cX12_up 28 = .ok (.iload_n 1, 1) := by decide +kernel
theorem dX12_up_29 : decode cX12_up 29 = .ok (.iadd, 1) := by decide +kernel
theorem dX12_up_30 : decode cX12_up 30 = .ok (.iaload, 1) := by decide +kernel
theorem dX12_up_31 : decode cX12_up 31 = .ok (.imul, 1) := by decide +kernel
theorem dX12_up_32 : decode cX12_up 32 = .ok (.aload_n 0, 1) := by decide +kernel
theorem dX12_up_33 : decode cX12_up 33 = .ok (.getfield 7, 3) := by decide +kernel
theorem dX12_up_36 : decode cX12_up 36 = .ok (.bipush 8, 2) := by decide +kernel
theorem dX12_up_38 : decode cX12_up 38 = .ok (.iload_n 1, 1) := by decide +kernel
theorem dX12_up_39 : decode cX12_up 39 = .ok (.iadd, 1) := by decide +kernel
theorem dX12_up_40 : decode cX12_up 40 = .ok (.iaload, 1) := by decide +kernel
theorem dX12_up_41 : decode cX12_up 41 = .ok (.idiv, 1) := by decide +kernel
theorem dX12_up_42 : decode cX12_up 42 = .ok (.iastore, 1) := by decide +kernel
theorem dX12_up_43 : decode cX12_up 43 = .ok (.aload_n 0, 1) := by decide +kernel
theorem dX12_up_44 : decode cX12_up 44 = .ok (.getfield 7, 3) := by decide +kernel
theorem dX12_up_47 : decode cX12_up 47 = .ok (.bipush 40, 2) := by decide +kernel
theorem dX12_up_49 : decode cX12_up 49 = .ok (.iload_n 1, 1) := by decide +kernel
theorem dX12_up_50 : decode cX12_up 50 = .ok (.iadd, 1) := by decide +kernel
theorem dX12_up_51 : decode cX12_up 51 = .ok (.iconst 0, 1) := by decide +kernel
theorem dX12_up_52 : decode cX12_up 52 = .ok (.iastore, 1) := by decide +kernel
theorem dX12_up_53 : decode cX12_up 53 = .ok (.aload_n 0, 1) := by decide +kernel
theorem dX12_up_54 : decode cX12_up 54 = .ok (.getfield 7, 3) := by decide +kernel
theorem dX12_up_57 : decode cX12_up 57 = .ok (.bipush 6, 2) := by decide +kernel
theorem dX12_up_59 : decode cX12_up 59 = .ok (.dup2, 1) := by decide +kernel
theorem dX12_up_60 : decode cX12_up 60 = .ok (.iaload, 1) := by decide +kernel
theorem dX12_up_61 : decode cX12_up 61 = .ok (.iconst 1, 1) := by decide +kernel
theorem dX12_up_62 : decode cX12_up 62 = .ok (.iadd, 1) := by decide +kernel
theorem dX12_up_63 : decode cX12_up 63 = .ok (.iastore, 1) := by decide +kernel
theorem dX12_up_64 : decode cX12_up 64 = .ok (.aload_n 0, 1) := by decide +kernel
theorem dX12_up_65 : decode cX12_up 65 = .ok (.getfield 7, 3) := by decide +kernel
theorem dX12_up_68 : decode cX12_up 68 = .ok (.iconst 4, 1) := by decide +kernel
theorem dX12_up_69 : decode cX12_up 69 = .ok (.dup2, 1) := by decide +kernel
theorem dX12_up_70 : decode cX12_up 70 = .ok (.iaload, 1) := by decide +kernel
theorem dX12_up_71 : decode cX12_up 71 = .ok (.aload_n 0, 1) := by decide +kernel
theorem dX12_up_72 : decode cX12_up 72 = .ok (.getfield 7, 3) := by decide +kernel
theorem dX12_up_75 : decode cX12_up 75 = .ok (.bipush 16, 2) := by decide +kernel
theorem dX12_up_77 : decode cX12_up 77 = .ok (.iload_n 1, 1) := by decide +kernel
theorem dX12_up_78 : decode cX12_up 78 = .ok (.iadd, 1) := by decide +kernel
theorem dX12_up_79 : decode cX12_up 79 = .ok (.iaload, 1) := by decide +kernel
theorem dX12_up_80 : decode cX12_up 80 = .ok (.iadd, 1) := by decide +kernel
theorem dX12_up_81 : decode cX12_up 81 = .ok (.iastore, 1) := by decide +kernel
theorem dX12_up_82 : decode cX12_up 82 = .ok (.aload_n 0, 1) := by decide +kernel
theorem dX12_up_83 : decode cX12_up 83 = .ok (.iconst 3, 1) := by decide +kernel
theorem dX12_up_84 : decode cX12_up 84 = .ok (.iload_n 1, 1) := by decide +kernel
theorem dX12_up_85 : decode cX12_up 85 = .ok (.aload_n 0, 1) := by decide +kernel
theorem dX12_up_86 : decode cX12_up 86 = .ok (.getfield 7, 3) := by decide +kernel
theorem dX12_up_89 : decode cX12_up 89 = .ok (.bipush 16, 2) := by decide +kernel
theorem dX12_up_91 : decode cX12_up 91 = .ok (.iload_n 1, 1) := by decide +kernel
theorem dX12_up_92 : decode cX12_up 92 = .ok (.iadd, 1) := by decide +kernel
theorem dX12_up_93 : decode cX12_up 93 = .ok (.iaload, 1) := by decide +kernel
theorem dX12_up_94 : decode cX12_up 94 = .ok (.invokevirtual 199, 3) := by decide +kernel
theorem dX12_up_97 : decode cX12_up 97 = .ok (.aload_n 0, 1) := by decide +kernel
theorem dX12_up_98 : decode cX12_up 98 = .ok (.invokevirtual 203, 3) := by decide +kernel
theorem dX12_up_101 : decode cX12_up 101 = .ok (.return_, 1) := by decide +kernel
set_option maxRecDepth 20000 in
theorem ggX12_least_X12_bitOf : GoodIn wsX12_least wsX12_bitOf := goodIn_r _ [5] (by decide +kernel) (by decide +kernel)
set_option maxRecDepth 20000 in
theorem gX12_least_X12_bitOf : GoodIn wsX12_least (va_wsS RX12 196 yX12_bitOf wsX12_bitOf) := goodIn_app (goodIn_of _ (by decide +kernel)) ggX12_least_X12_bitOf
theorem dX12_least_0 : decode cX12_least 0 = .ok (.iconst (-1), 1) := by decide +kernel
theorem dX12_least_1 : decode cX12_least 1 = .ok (.istore_n 1, 1) := by decide +kernel
theorem dX12_least_2 : decode cX12_least 2 = .ok (.iconst 0, 1) := by decide +kernel
theorem dX12_least_3 : decode cX12_least 3 = .ok (.istore_n 2, 1) := by decide +kernel
theorem dX12_least_4 : decode cX12_least 4 = .ok (.iload_n 2, 1) := by decide +kernel
theorem dX12_least_5 : decode cX12_least 5 = .ok (.aload_n 0, 1) := by decide +kernel
theorem dX12_least_6 : decode cX12_least 6 = .ok (.getfield 7, 3) := by decide +kernel
theorem dX12_least_9 : decode cX12_least 9 = .ok (.iconst 2, 1) := by decide +kernel
theorem dX12_least_10 : decode cX12_least 10 = .ok (.iaload, 1) := by decide +kernel
theorem dX12_least_11 : decode cX12_least 11 = .ok (.if_icmp .ge 49, 3) := by decide +kernel
theorem dX12_least_14 : decode cX12_least 14 = .ok (.aload_n 0, 1) := by decide +kernel
theorem dX12_least_15 : decode cX12_least 15 = .ok (.getfield 7, 3) := by decide +kernel
theorem dX12_least_18 : decode cX12_least 18 = .ok (.iconst 3, 1) := by decide +kernel
theorem dX12_least_19 : decode cX12_least 19 = .ok (.iaload, 1) := by decide +kernel
theorem dX12_least_20 : decode cX12_least 20 = .ok (.iload_n 2, 1) := by decide +kernel
theorem dX12_least_21 : decode cX12_least 21 = .ok (.invokestatic 196, 3) := by decide +kernel
theorem dX12_least_24 : decode cX12_least 24 = .ok (.ifCond .eq 30, 3) := by decide +kernel
theorem dX12_least_27 : decode cX12_least 27 = .ok (.iload_n 1, 1) := by decide +kernel
theorem dX12_least_28 : decode cX12_least 28 = .ok (.ifCond .lt 24, 3) := by decide +kernel
theorem dX12_least_31 : decode cX12_least 31 = .ok (.aload_n 0, 1) := by decide +kernel
theorem dX12_least_32 : decode cX12_least 32 = .ok (.getfield 7, 3) := by decide +kernel
theorem dX12_least_35 : decode cX12_least 35 = .ok (.bipush 32, 2) := by decide +kernel
theorem dX12_least_37 : decode cX12_least 37 = .ok (.iload_n 2, 1) := by decide +kernel
theorem dX12_least_38 : decode cX12_least 38 = .ok (.iadd, 1) := by decide +kernel
theorem dX12_least_39 : decode cX12_least 39 = .ok (.iaload, 1) := by decide +kernel
theorem dX12_least_40 : decode cX12_least 40 = .ok (.aload_n 0, 1) := by decide +kernel
theorem dX12_least_41 : decode cX12_least 41 = .ok (.getfield 7, 3) := by decide +kernel
theorem dX12_least_44 : decode cX12_least 44 = .ok (.bipush 32, 2) := by decide +kernel
theorem dX12_least_46 : decode cX12_least 46 = .ok (.iload_n 1, 1) := by decide +kernel
theorem dX12_least_47 : decode cX12_least 47 = .ok (.iadd, 1) := by decide +kernel
theorem dX12_least_48 : decode cX12_least 48 = .ok (.iaload, 1) := by decide +kernel
theorem dX12_least_49 : decode cX12_least 49 = .ok (.if_icmp .ge 5, 3) := by decide +kernel
theorem dX12_least_52 : decode cX12_least 52 = .ok (.iload_n 2, 1) := by decide +kernel
theorem dX12_least_53 : decode cX12_least 53 = .ok (.istore_n 1, 1) := by decide +kernel
theorem dX12_least_54 : decode cX12_least 54 = .ok (.iinc 2 1, 3) := by decide +kernel
theorem dX12_least_57 : decode cX12_least 57 = .ok (.goto (-53), 3) := by decide +kernel
theorem dX12_least_60 : decode cX12_least 60 = .ok (.iload_n 1, 1) := by decide +kernel
theorem dX12_least_61 : decode cX12_least 61 = .ok (.ireturn, 1) := by decide +kernel
set_option maxRecDepth 20000 in
theorem ggX12_way_X12_lies : GoodIn wsX12_way wsX12_lies := goodIn_r _ [6, 1, 7, 8, 5, 9, 32, 33, 34, 35, 36, 37, 38, 39, 40, 41, 42, 43, 44, 45, 46, 47, 48, 49, 50, 51, 52, 53, 54, 55, 56, 57, 58, 59, 60, 61, 62, 63, 64, 65, 66, 67, 68, 69, 70, 71, 72, 73, 74, 75, 76, 77, 78] (by decide +kernel) (by decide +kernel)
set_option maxRecDepth 20000 in
theorem gX12_way_X12_lies : GoodIn wsX12_way (wsV RX12 206 RX12 yX12_lies wsX12_lies) := goodIn_app (goodIn_of _ (by decide +kernel)) ggX12_way_X12_lies
set_option maxRecDepth 20000 in
theorem ggX12_way_X12_least : GoodIn wsX12_way wsX12_least := goodIn_r _ [13, 1, 7, 8, 5, 9, 32, 33, 34, 35, 36, 37, 38, 39, 40, 41, 42, 43, 44, 45, 46, 47, 48, 49, 50, 51, 52, 53, 54, 55, 56, 57, 58, 59, 60, 61, 62, 63, 64, 65, 66, 67, 68, 69, 70, 71, 72, 73, 74, 75, 76, 77, 78] (by decide +kernel) (by decide +kernel)
set_option maxRecDepth 20000 in
theorem gX12_way_X12_least : GoodIn wsX12_way (wsV RX12 209 RX12 yX12_least wsX12_least) := goodIn_app (goodIn_of _ (by decide +kernel)) ggX12_way_X12_least
set_option maxRecDepth 20000 in
theorem ggX12_way_X12_down : GoodIn wsX12_way wsX12_down := goodIn_r _ [17, 1, 18, 19, 20, 5, 21, 22, 23, 24, 25, 26, 27, 28, 29, 30, 31, 32, 33, 34, 35, 36, 37, 38, 39, 40, 41, 42, 43, 44, 45, 46, 47, 48, 49, 50, 51, 52, 53, 54, 55, 56, 57, 58, 59, 60, 61, 62, 63, 64, 65, 66, 67, 68, 69, 70, 71, 72, 73, 74, 75, 76, 77, 78] (by decide +kernel) (by decide +kernel)
set_option maxRecDepth 20000 in
theorem gX12_way_X12_down : GoodIn wsX12_way (wsV RX12 212 RX12 yX12_down wsX12_down) := goodIn_app (goodIn_of _ (by decide +kernel)) ggX12_way_X12_down
set_option maxRecDepth 20000 in
theorem ggX12_way_X12_bitOf : GoodIn wsX12_way wsX12_bitOf := goodIn_r _ [9] (by decide +kernel) (by decide +kernel)
set_option maxRecDepth 20000 in
theorem gX12_way_X12_bitOf : GoodIn wsX12_way (va_wsS RX12 196 yX12_bitOf wsX12_bitOf) := goodIn_app (goodIn_of _ (by decide +kernel)) ggX12_way_X12_bitOf
theorem dX12_way_0 : decode cX12_way 0 = .ok (.aload_n 0, 1) := by decide +kernel
theorem dX12_way_1 : decode cX12_way 1 = .ok (.getfield 7, 3) := by decide +kernel
theorem dX12_way_4 : decode cX12_way 4 = .ok (.iconst 0, 1) := by decide +kernel
theorem dX12_way_5 : decode cX12_way 5 = .ok (.iaload, 1) := by decide +kernel
theorem dX12_way_6 : decode cX12_way 6 = .ok (.aload_n 0, 1) := by decide +kernel
theorem dX12_way_7 : decode cX12_way 7 = .ok (.invokevirtual 206, 3) := by decide +kernel
theorem dX12_way_10 : decode cX12_way 10 = .ok (.isub, 1) := by decide +kernel
theorem dX12_way_11 : decode cX12_way 11 = .ok (.iload_n 1, 1) := by decide +kernel
theorem dX12_way_12 : decode cX12_way 12 = .ok (.if_icmp .ge 82, 3) := by decide +kernel
theorem dX12_way_15 : decode cX12_way 15 = .ok (.aload_n 0, 1) := by decide +kernel
theorem dX12_way_16 : decode cX12_way 16 = .ok (.invokevirtual 209, 3) := by decide +kernel
theorem dX12_way_19 : decode cX12_way 19 = .ok (.istore_n 2, 1) := by decide +kernel
theorem dX12_way_20 : decode cX12_way 20 = .ok (.aload_n 0, 1) := by decide +kernel
theorem dX12_way_21 : decode cX12_way 21 = .ok (.getfield 7, 3) := by decide +kernel
theorem dX12_way_24 : decode cX12_way 24 = .ok (.bipush 32, 2) := by decide +kernel
theorem dX12_way_26 : decode cX12_way 26 = .ok (.iload_n 2, 1) := by decide +kernel
theorem dX12_way_27 : decode cX12_way 27 = .ok (.iadd, 1) := by decide +kernel
theorem dX12_way_28 : decode cX12_way 28 = .ok (.iaload, 1) := by decide +kernel
theorem dX12_way_29 : decode cX12_way 29 = .ok (.istore_n 3, 1) := by decide +kernel
theorem dX12_way_30 : decode cX12_way 30 = .ok (.iload_n 3, 1) := by decide +kernel
theorem dX12_way_31 : decode cX12_way 31 = .ok (.ifCond .ne 8, 3) := by decide +kernel
theorem dX12_way_34 : decode cX12_way 34 = .ok (.aload_n 0, 1) := by decide +kernel
theorem dX12_way_35 : decode cX12_way 35 = .ok (.iload_n 2, 1) := by decide +kernel
theorem dX12_way_36 : decode cX12_way 36 = .ok (.invokevirtual 212, 3) := by decide +kernel

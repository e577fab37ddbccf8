theorem dX11_names_37 : decode cX11_names 37 = .ok (.isub, 1) := by decide +kernel
theorem dX11_names_38 : decode cX11_names 38 = .ok (.ireturn, 1) := by decide +kernel
theorem dX11_names_39 : decode cX11_names 39 = .ok (.aload_n 0, 1) := by decide +kernel
theorem dX11_names_40 : decode cX11_names 40 = .ok (.getfield 33, 3) := by decide +kernel
theorem dX11_names_43 : decode cX11_names 43 = .ok (.aload_n 0, 1) := by decide +kernel
theorem dX11_names_44 : decode cX11_names 44 = .ok (.getfield 26, 3) := by decide +kernel
theorem dX11_names_47 : decode cX11_names 47 = .ok (.invokevirtual 133, 3) := by decide +kernel
theorem dX11_names_50 : decode cX11_names 50 = .ok (.aload_n 0, 1) := by decide +kernel
theorem dX11_names_51 : decode cX11_names 51 = .ok (.getfield 44, 3) := by decide +kernel
theorem dX11_names_54 : decode cX11_names 54 = .ok (.invokevirtual 137, 3) := by decide +kernel
theorem dX11_names_57 : decode cX11_names 57 = .ok (.iconst 0, 1) := by decide +kernel
theorem dX11_names_58 : decode cX11_names 58 = .ok (.istore_n 2, 1) := by decide +kernel
theorem dX11_names_59 : decode cX11_names 59 = .ok (.iconst 0, 1) := by decide +kernel
theorem dX11_names_60 : decode cX11_names 60 = .ok (.istore_n 3, 1) := by decide +kernel
theorem dX11_names_61 : decode cX11_names 61 = .ok (.iload_n 3, 1) := by decide +kernel
theorem dX11_names_62 : decode cX11_names 62 = .ok (.aload_n 0, 1) := by decide +kernel
theorem dX11_names_63 : decode cX11_names 63 = .ok (.getfield 10, 3) := by decide +kernel
theorem dX11_names_66 : decode cX11_names 66 = .ok (.getfield 140, 3) := by decide +kernel
theorem dX11_names_69 : decode cX11_names 69 = .ok (.if_icmp .ge 49, 3) := by decide +kernel
theorem dX11_names_72 : decode cX11_names 72 = .ok (.aload_n 0, 1) := by decide +kernel
theorem dX11_names_73 : decode cX11_names 73 = .ok (.getfield 26, 3) := by decide +kernel
theorem dX11_names_76 : decode cX11_names 76 = .ok (.getfield 143, 3) := by decide +kernel
theorem dX11_names_79 : decode cX11_names 79 = .ok (.invokevirtual 147, 3) := by decide +kernel
theorem dX11_names_82 : decode cX11_names 82 = .ok (.ifCond .ne 36, 3) := by decide +kernel
theorem dX11_names_85 : decode cX11_names 85 = .ok (.iload_n 2, 1) := by decide +kernel
theorem dX11_names_86 : decode cX11_names 86 = .ok (.aload_n 0, 1) := by decide +kernel
theorem dX11_names_87 : decode cX11_names 87 = .ok (.getfield 26, 3) := by decide +kernel
theorem dX11_names_90 : decode cX11_names 90 = .ok (.aload_n 0, 1) := by decide +kernel
theorem dX11_names_91 : decode cX11_names 91 = .ok (.getfield 10, 3) := by decide +kernel
theorem dX11_names_94 : decode cX11_names 94 = .ok (.getfield 153, 3) := by decide +kernel
theorem dX11_names_97 : decode cX11_names 97 = .ok (.iload_n 3, 1) := by decide +kernel
theorem dX11_names_98 : decode cX11_names 98 = .ok (.iaload, 1) := by decide +kernel
theorem dX11_names_99 : decode cX11_names 99 = .ok (.aload_n 0, 1) := by decide +kernel
theorem dX11_names_100 : decode cX11_names 100 = .ok (.getfield 51, 3) := by decide +kernel
theorem dX11_names_103 : decode cX11_names 103 = .ok (.aload_n 0, 1) := by decide +kernel
theorem dX11_names_104 : decode cX11_names 104 = .ok (.getfield 44, 3) := by decide +kernel
theorem dX11_names_107 : decode cX11_names 107 = .ok (.invokevirtual 156, 3) := by decide +kernel
theorem dX11_names_110 : decode cX11_names 110 = .ok (.iadd, 1) := by decide +kernel
theorem dX11_names_111 : decode cX11_names 111 = .ok (.istore_n 2, 1) := by decide +kernel
theorem dX11_names_112 : decode cX11_names 112 = .ok (.iinc 3 1, 3) := by decide +kernel
theorem dX11_names_115 : decode cX11_names 115 = .ok (.goto (-54), 3) := by decide +kernel
theorem dX11_names_118 : decode cX11_names 118 = .ok (.iload_n 2, 1) := by decide +kernel
theorem dX11_names_119 : decode cX11_names 119 = .ok (.ireturn, 1) := by decide +kernel
set_option maxRecDepth 20000 in
theorem ggX11_now_X8_free : GoodIn wsX11_now wsX8_free := goodIn_r _ [19, 20, 21, 44, 45, 46, 47, 48, 49, 50] (by decide +kernel) (by decide +kernel)
set_option maxRecDepth 20000 in
theorem gX11_now_X8_free : GoodIn wsX11_now (wsV RX11 168 RX8 yX8_free wsX8_free) := goodIn_app (goodIn_of _ (by decide +kernel)) ggX11_now_X8_free
theorem dX11_now_0 : decode cX11_now 0 = .ok (.iload_n 1, 1) := by decide +kernel
theorem dX11_now_1 : decode cX11_now 1 = .ok (.tableswitch 153 0 9 #[55, 66, 77, 88, 99, 110, 118, 129, 137, 145], 55) := by decide +kernel
theorem dX11_now_56 : decode cX11_now 56 = .ok (.aload_n 0, 1) := by decide +kernel
theorem dX11_now_57 : decode cX11_now 57 = .ok (.getfield 26, 3) := by decide +kernel
theorem dX11_now_60 : decode cX11_now 60 = .ok (.getfield 160, 3) := by decide +kernel
theorem dX11_now_63 : decode cX11_now 63 = .ok (.getfield 163, 3) := by decide +kernel
theorem dX11_now_66 : decode cX11_now 66 = .ok (.ireturn, 1) := by decide +kernel
theorem dX11_now_67 : decode cX11_now 67 = .ok (.aload_n 0, 1) := by decide +kernel
theorem dX11_now_68 : decode cX11_now 68 = .ok (.getfield 26, 3) := by decide +kernel
theorem dX11_now_71 : decode cX11_now 71 = .ok (.getfield 160, 3) := by decide +kernel
theorem dX11_now_74 : decode cX11_now 74 = .ok (.getfield 164, 3) := by decide +kernel
theorem dX11_now_77 : decode cX11_now 77 = .ok (.ireturn, 1) := by decide +kernel
theorem dX11_now_78 : decode cX11_now 78 = .ok (.aload_n 0, 1) := by decide +kernel
theorem dX11_now_79 : decode cX11_now 79 = .ok (.getfield 26, 3) := by decide +kernel
theorem dX11_now_82 : decode cX11_now 82 = .ok (.getfield 127, 3) := by decide +kernel
theorem dX11_now_85 : decode cX11_now 85 = .ok (.getfield 121, 3) := by decide +kernel
theorem dX11_now_88 : decode cX11_now 88 = .ok (.ireturn, 1) := by decide +kernel
theorem dX11_now_89 : decode cX11_now 89 = .ok (.aload_n 0, 1) := by decide +kernel
theorem dX11_now_90 : decode cX11_now 90 = .ok (.getfield 26, 3) := by decide +kernel
theorem dX11_now_93 : decode cX11_now 93 = .ok (.getfield 160, 3) := by decide +kernel
theorem dX11_now_96 : decode cX11_now 96 = .ok (.getfield 165, 3) := by decide +kernel
theorem dX11_now_99 : decode cX11_now 99 = .ok (.ireturn, 1) := by decide +kernel
theorem dX11_now_100 : decode cX11_now 100 = .ok (.aload_n 0, 1) := by decide +kernel
theorem dX11_now_101 : decode cX11_now 101 = .ok (.getfield 26, 3) := by decide +kernel
theorem dX11_now_104 : decode cX11_now 104 = .ok (.getfield 160, 3) := by decide +kernel
theorem dX11_now_107 : decode cX11_now 107 = .ok (.invokevirtual 168, 3) := by decide +kernel
theorem dX11_now_110 : decode cX11_now 110 = .ok (.ireturn, 1) := by decide +kernel
theorem dX11_now_111 : decode cX11_now 111 = .ok (.aload_n 0, 1) := by decide +kernel
theorem dX11_now_112 : decode cX11_now 112 = .ok (.getfield 26, 3) := by decide +kernel
theorem dX11_now_115 : decode cX11_now 115 = .ok (.getfield 172, 3) := by decide +kernel
theorem dX11_now_118 : decode cX11_now 118 = .ok (.ireturn, 1) := by decide +kernel
theorem dX11_now_119 : decode cX11_now 119 = .ok (.aload_n 0, 1) := by decide +kernel
theorem dX11_now_120 : decode cX11_now 120 = .ok (.getfield 26, 3) := by decide +kernel
theorem dX11_now_123 : decode cX11_now 123 = .ok (.getfield 143, 3) := by decide +kernel
theorem dX11_now_126 : decode cX11_now 126 = .ok (.getfield 175, 3) := by decide +kernel
theorem dX11_now_129 : decode cX11_now 129 = .ok (.ireturn, 1) := by decide +kernel
theorem dX11_now_130 : decode cX11_now 130 = .ok (.aload_n 0, 1) := by decide +kernel
theorem dX11_now_131 : decode cX11_now 131 = .ok (.getfield 10, 3) := by decide +kernel
theorem dX11_now_134 : decode cX11_now 134 = .ok (.getfield 96, 3) := by decide +kernel
theorem dX11_now_137 : decode cX11_now 137 = .ok (.ireturn, 1) := by decide +kernel
theorem dX11_now_138 : decode cX11_now 138 = .ok (.aload_n 0, 1) := by decide +kernel
theorem dX11_now_139 : decode cX11_now 139 = .ok (.getfield 26, 3) := by decide +kernel
theorem dX11_now_142 : decode cX11_now 142 = .ok (.getfield 176, 3) := by decide +kernel
theorem dX11_now_145 : decode cX11_now 145 = .ok (.ireturn, 1) := by decide +kernel
theorem dX11_now_146 : decode cX11_now 146 = .ok (.aload_n 0, 1) := by decide +kernel
theorem dX11_now_147 : decode cX11_now 147 = .ok (.getfield 26, 3) := by decide +kernel
theorem dX11_now_150 : decode cX11_now 150 = .ok (.getfield 179, 3) := by decide +kernel
theorem dX11_now_153 : decode cX11_now 153 = .ok (.ireturn, 1) := by decide +kernel
theorem dX11_now_154 : decode cX11_now 154 = .ok (.iconst (-1), 1) := by decide +kernel
theorem dX11_now_155 : decode cX11_now 155 = .ok (.ireturn, 1) := by decide +kernel
set_option maxRecDepth 20000 in
theorem ggX11_item_X10_has : GoodIn wsX11_item wsX10_has := goodIn_r _ [14, 15, 44, 45, 46, 47, 48] (by decide +kernel) (by decide +kernel)
set_option maxRecDepth 20000 in
theorem gX11_item_X10_has : GoodIn wsX11_item (wsV RX11 182 RX10 yX10_has wsX10_has) := goodIn_app (goodIn_of _ (by decide +kernel)) ggX11_item_X10_has
set_option maxRecDepth 20000 in
theorem ggX11_item_X11_floatBits : GoodIn wsX11_item wsX11_floatBits := goodIn_r _ [19, 20, 21] (by decide +kernel) (by decide +kernel)
set_option maxRecDepth 20000 in
theorem gX11_item_X11_floatBits : GoodIn wsX11_item (va_wsS RX11 204 yX11_floatBits wsX11_floatBits) := goodIn_app (goodIn_of _ (by decide +kernel)) ggX11_item_X11_floatBits
theorem dX11_item_0 : decode cX11_item 0 = .ok (.aload_n 0, 1) := by decide +kernel
theorem dX11_item_1 : decode cX11_item 1 = .ok (.getfield 26, 3) := by decide +kernel
theorem dX11_item_4 : decode cX11_item 4 = .ok (.getfield 127, 3) := by decide +kernel
theorem dX11_item_7 : decode cX11_item 7 = .ok (.iload_n 1, 1) := by decide +kernel
theorem dX11_item_8 : decode cX11_item 8 = .ok (.invokevirtual 182, 3) := by decide +kernel
theorem dX11_item_11 : decode cX11_item 11 = .ok (.ifCond .ne 5, 3) := by decide +kernel
theorem dX11_item_14 : decode cX11_item 14 = .ok (.iconst (-1), 1) := by decide +kernel
theorem dX11_item_15 : decode cX11_item 15 = .ok (.ireturn, 1) := by decide +kernel
theorem dX11_item_16 : decode cX11_item 16 = .ok (.iload_n 2, 1) := by decide +kernel
theorem dX11_item_17 : decode cX11_item 17 = .ok (.tableswitch 120 0 5 #[39, 52, 65, 78, 91, 104], 39) := by decide +kernel
theorem dX11_item_56 : decode cX11_item 56 = .ok (.aload_n 0, 1) := by decide +kernel
theorem dX11_item_57 : decode cX11_item 57 = .ok (.getfield 26, 3) := by decide +kernel
theorem dX11_item_60 : decode cX11_item 60 = .ok (.getfield 127, 3) := by decide +kernel
theorem dX11_item_63 : decode cX11_item 63 = .ok (.getfield 185, 3) := by decide +kernel
theorem dX11_item_66 : decode cX11_item 66 = .ok (.iload_n 1, 1) := by decide +kernel
theorem dX11_item_67 : decode cX11_item 67 = .ok (.iaload, 1) := by decide +kernel
theorem dX11_item_68 : decode cX11_item 68 = .ok (.ireturn, 1) := by decide +kernel
theorem dX11_item_69 : decode cX11_item 69 = .ok (.aload_n 0, 1) := by decide +kernel
theorem dX11_item_70 : decode cX11_item 70 = .ok (.getfield 26, 3) := by decide +kernel
theorem dX11_item_73 : decode cX11_item 73 = .ok (.getfield 127, 3) := by decide +kernel
theorem dX11_item_76 : decode cX11_item 76 = .ok (.getfield 188, 3) := by decide +kernel
theorem dX11_item_79 : decode cX11_item 79 = .ok (.iload_n 1, 1) := by decide +kernel
theorem dX11_item_80 : decode cX11_item 80 = .ok (.iaload, 1) := by decide +kernel
theorem dX11_item_81 : decode cX11_item 81 = .ok (.ireturn, 1) := by decide +kernel
theorem dX11_item_82 : decode cX11_item 82 = .ok (.aload_n 0, 1) := by decide +kernel
theorem dX11_item_83 : decode cX11_item 83 = .ok (.getfield 26, 3) := by decide +kernel
theorem dX11_item_86 : decode cX11_item 86 = .ok (.getfield 127, 3) := by decide +kernel
theorem dX11_item_89 : decode cX11_item 89 = .ok (.getfield 191, 3) := by decide +kernel
theorem dX11_item_92 : decode cX11_item 92 = .ok (.iload_n 1, 1) := by decide +kernel
theorem dX11_item_93 : decode cX11_item 93 = .ok (.iaload, 1) := by decide +kernel
theorem dX11_item_94 : decode cX11_item 94 = .ok (.ireturn, 1) := by decide +kernel
theorem dX11_item_95 : decode cX11_item 95 = .ok (.aload_n 0, 1) := by decide +kernel
theorem dX11_item_96 : decode cX11_item 96 = .ok (.getfield 26, 3) := by decide +kernel
theorem dX11_item_99 : decode cX11_item 99 = .ok (.getfield 160, 3) := by decide +kernel
theorem dX11_item_102 : decode cX11_item 102 = .ok (.getfield 194, 3) := by decide +kernel
theorem dX11_item_105 : decode cX11_item 105 = .ok (.iload_n 1, 1) := by decide +kernel
theorem dX11_item_106 : decode cX11_item 106 = .ok (.iaload, 1) := by decide +kernel
theorem dX11_item_107 : decode cX11_item 107 = .ok (.ireturn, 1) := by decide +kernel
theorem dX11_item_108 : decode cX11_item 108 = .ok (.aload_n 0, 1) := by decide +kernel
theorem dX11_item_109 : decode cX11_item 109 = .ok (.getfield 26, 3) := by decide +kernel
theorem dX11_item_112 : decode cX11_item 112 = .ok (.getfield 160, 3) := by decide +kernel
theorem dX11_item_115 : decode cX11_item 115 = .ok (.getfield 197, 3) := by decide +kernel
theorem dX11_item_118 : decode cX11_item 118 = .ok (.iload_n 1, 1) := by decide +kernel
theorem dX11_item_119 : decode cX11_item 119 = .ok (.iaload, 1) := by decide +kernel
theorem dX11_item_120 : decode cX11_item 120 = .ok (.ireturn, 1) := by decide +kernel
theorem dX11_item_121 : decode cX11_item 121 = .ok (.aload_n 0, 1) := by decide +kernel
theorem dX11_item_122 : decode cX11_item 122 = .ok (.getfield 26, 3) := by decide +kernel
theorem dX11_item_125 : decode cX11_item 125 = .ok (.getfield 160, 3) := by decide +kernel
theorem dX11_item_128 : decode cX11_item 128 = .ok (.getfield 200, 3) := by decide +kernel
theorem dX11_item_131 : decode cX11_item 131 = .ok (.iload_n 1, 1) := by decide +kernel
theorem dX11_item_132 : decode cX11_item 132 = .ok (.faload, 1) := by decide +kernel
theorem dX11_item_133 : decode cX11_item 133 = .ok (.invokestatic 204, 3) := by decide +kernel
theorem dX11_item_136 : decode cX11_item 136 = .ok (.ireturn, 1) := by decide +kernel
theorem dX11_item_137 : decode cX11_item 137 = .ok (.iconst (-1), 1) := by decide +kernel
theorem dX11_item_138 : decode cX11_item 138 = .ok (.ireturn, 1) := by decide +kernel
set_option maxRecDepth 20000 in
theorem ggX11_picture_X8_holds : GoodIn wsX11_picture wsX8_holds := goodIn_r _ [13, 14, 48, 49, 50, 51, 52, 53, 54] (by decide +kernel) (by decide +kernel)
set_option maxRecDepth 20000 in
theorem gX11_picture_X8_holds : GoodIn wsX11_picture (wsV RX11 208 RX8 yX8_holds wsX8_holds) := goodIn_app (goodIn_of _ (by decide +kernel)) ggX11_picture_X8_holds
set_option maxRecDepth 20000 in
theorem ggX11_picture_X10_firstLetter : GoodIn wsX11_picture wsX10_firstLetter := goodIn_r _ [19, 20, 43, 44, 45, 46, 47] (by decide +kernel) (by decide +kernel)
set_option maxRecDepth 20000 in
theorem gX11_picture_X10_firstLetter : GoodIn wsX11_picture (wsV RX11 211 RX10 yX10_firstLetter wsX10_firstLetter) := goodIn_app (goodIn_of _ (by decide +kernel)) ggX11_picture_X10_firstLetter
theorem dX11_picture_0 : decode cX11_picture 0 = .ok (.iconst 0, 1) := by decide +kernel
theorem dX11_picture_1 : decode cX11_picture 1 = .ok (.istore_n 1, 1) := by decide +kernel
theorem dX11_picture_2 : decode cX11_picture 2 = .ok (.iconst 0, 1) := by decide +kernel
theorem dX11_picture_3 : decode cX11_picture 3 = .ok (.istore_n 2, 1) := by decide +kernel
theorem dX11_picture_4 : decode cX11_picture 4 = .ok (.iload_n 2, 1) := by decide +kernel
theorem dX11_picture_5 : decode cX11_picture 5 = .ok (.aload_n 0, 1) := by decide +kernel
theorem dX11_picture_6 : decode cX11_picture 6 = .ok (.getfield 26, 3) := by decide +kernel
theorem dX11_picture_9 : decode cX11_picture 9 = .ok (.getfield 127, 3) := by decide +kernel
theorem dX11_picture_12 : decode cX11_picture 12 = .ok (.getfield 121, 3) := by decide +kernel
theorem dX11_picture_15 : decode cX11_picture 15 = .ok (.if_icmp .ge 81, 3) := by decide +kernel
theorem dX11_picture_18 : decode cX11_picture 18 = .ok (.aload_n 0, 1) := by decide +kernel
theorem dX11_picture_19 : decode cX11_picture 19 = .ok (.getfield 26, 3) := by decide +kernel
theorem dX11_picture_22 : decode cX11_picture 22 = .ok (.getfield 160, 3) := by decide +kernel
theorem dX11_picture_25 : decode cX11_picture 25 = .ok (.iload_n 2, 1) := by decide +kernel
theorem dX11_picture_26 : decode cX11_picture 26 = .ok (.invokevirtual 208, 3) := by decide +kernel
theorem dX11_picture_29 : decode cX11_picture 29 = .ok (.ifCond .eq 18, 3) := by decide +kernel
theorem dX11_picture_32 : decode cX11_picture 32 = .ok (.aload_n 0, 1) := by decide +kernel
theorem dX11_picture_33 : decode cX11_picture 33 = .ok (.getfield 26, 3) := by decide +kernel
theorem dX11_picture_36 : decode cX11_picture 36 = .ok (.getfield 127, 3) := by decide +kernel
theorem dX11_picture_39 : decode cX11_picture 39 = .ok (.getfield 185, 3) := by decide +kernel
theorem dX11_picture_42 : decode cX11_picture 42 = .ok (.iload_n 2, 1) := by decide +kernel
theorem dX11_picture_43 : decode cX11_picture 43 = .ok (.iaload, 1) := by decide +kernel
theorem dX11_picture_44 : decode cX11_picture 44 = .ok (.goto 4, 3) := by decide +kernel
theorem dX11_picture_47 : decode cX11_picture 47 = .ok (.iconst 0, 1) := by decide +kernel
theorem dX11_picture_48 : decode cX11_picture 48 = .ok (.istore_n 3, 1) := by decide +kernel
theorem dX11_picture_49 : decode cX11_picture 49 = .ok (.iconst 0, 1) := by decide +kernel
theorem dX11_picture_50 : decode cX11_picture 50 = .ok (.istore 4, 2) := by decide +kernel
theorem dX11_picture_52 : decode cX11_picture 52 = .ok (.iload 4, 2) := by decide +kernel
theorem dX11_picture_54 : decode cX11_picture 54 = .ok (.iload_n 3, 1) := by decide +kernel
theorem dX11_picture_55 : decode cX11_picture 55 = .ok (.if_icmp .ge 35, 3) := by decide +kernel
theorem dX11_picture_58 : decode cX11_picture 58 = .ok (.iload_n 1, 1) := by decide +kernel
theorem dX11_picture_59 : decode cX11_picture 59 = .ok (.bipush 20, 2) := by decide +kernel
theorem dX11_picture_61 : decode cX11_picture 61 = .ok (.if_icmp .ge 29, 3) := by decide +kernel
theorem dX11_picture_64 : decode cX11_picture 64 = .ok (.aload_n 0, 1) := by decide +kernel
theorem dX11_picture_65 : decode cX11_picture 65 = .ok (.getfield 84, 3) := by decide +kernel
theorem dX11_picture_68 : decode cX11_picture 68 = .ok (.iload_n 1, 1) := by decide +kernel
theorem dX11_picture_69 : decode cX11_picture 69 = .ok (.iinc 1 1, 3) := by decide +kernel
theorem dX11_picture_72 : decode cX11_picture 72 = .ok (.aload_n 0, 1) := by decide +kernel
theorem dX11_picture_73 : decode cX11_picture 73 = .ok (.getfield 26, 3) := by decide +kernel
theorem dX11_picture_76 : decode cX11_picture 76 = .ok (.getfield 127, 3) := by decide +kernel
theorem dX11_picture_79 : decode cX11_picture 79 = .ok (.iload_n 2, 1) := by decide +kernel
theorem dX11_picture_80 : decode cX11_picture 80 = .ok (.invokevirtual 211, 3) := by decide +kernel
theorem dX11_picture_83 : decode cX11_picture 83 = .ok (.iastore, 1) := by decide +kernel
theorem dX11_picture_84 : decode cX11_picture 84 = .ok (.iinc 4 1, 3) := by decide +kernel
theorem dX11_picture_87 : decode cX11_picture 87 = .ok (.goto (-35), 3) := by decide +kernel
theorem dX11_picture_90 : decode cX11_picture 90 = .ok (.iinc 2 1, 3) := by decide +kernel
theorem dX11_picture_93 : decode cX11_picture 93 = .ok (.goto (-89), 3) := by decide +kernel
theorem dX11_picture_96 : decode cX11_picture 96 = .ok (.iload_n 1, 1) := by decide +kernel
theorem dX11_picture_97 : decode cX11_picture 97 = .ok (.aload_n 0, 1) := by decide +kernel
theorem dX11_picture_98 : decode cX11_picture 98 = .ok (.getfield 26, 3) := by decide +kernel
theorem dX11_picture_101 : decode cX11_picture 101 = .ok (.getfield 160, 3) := by decide +kernel
theorem dX11_picture_104 : decode cX11_picture 104 = .ok (.getfield 163, 3) := by decide +kernel
theorem dX11_picture_107 : decode cX11_picture 107 = .ok (.if_icmp .ge 23, 3) := by decide +kernel
theorem dX11_picture_110 : decode cX11_picture 110 = .ok (.iload_n 1, 1) := by decide +kernel
theorem dX11_picture_111 : decode cX11_picture 111 = .ok (.bipush 20, 2) := by decide +kernel
theorem dX11_picture_113 : decode cX11_picture 113 = .ok (.if_icmp .ge 17, 3) := by decide +kernel
theorem dX11_picture_116 : decode cX11_picture 116 = .ok (.aload_n 0, 1) := by decide +kernel
theorem dX11_picture_117 : decode cX11_picture 117 = .ok (.getfield 84, 3) := by decide +kernel
theorem dX11_picture_120 : decode cX11_picture 120 = .ok (.iload_n 1, 1) := by decide +kernel
theorem dX11_picture_121 : decode cX11_picture 121 = .ok (.iinc 1 1, 3) := by decide +kernel
theorem dX11_picture_124 : decode cX11_picture 124 = .ok (.bipush 46, 2) := by decide +kernel
theorem dX11_picture_126 : decode cX11_picture 126 = .ok (.iastore, 1) := by decide +kernel
theorem dX11_picture_127 : decode cX11_picture 127 = .ok (.goto (-31), 3) := by decide +kernel
theorem dX11_picture_130 : decode cX11_picture 130 = .ok (.aload_n 0, 1) := by decide +kernel
theorem dX11_picture_131 : decode cX11_picture 131 = .ok (.iload_n 1, 1) := by decide +kernel
theorem dX11_picture_132 : decode cX11_picture 132 = .ok (.putfield 215, 3) := by decide +kernel
theorem dX11_picture_135 : decode cX11_picture 135 = .ok (.iload_n 1, 1) := by decide +kernel
theorem dX11_picture_136 : decode cX11_picture 136 = .ok (.ireturn, 1) := by decide +kernel
theorem dX11_byteAt_0 : decode cX11_byteAt 0 = .ok (.iload_n 1, 1) := by decide +kernel
theorem dX11_byteAt_1 : decode cX11_byteAt 1 = .ok (.ifCond .lt 20, 3) := by decide +kernel
theorem dX11_byteAt_4 : decode cX11_byteAt 4 = .ok (.iload_n 1, 1) := by decide +kernel
theorem dX11_byteAt_5 : decode cX11_byteAt 5 = .ok (.aload_n 0, 1) := by decide +kernel
theorem dX11_byteAt_6 : decode cX11_byteAt 6 = .ok (.getfield 215, 3) := by decide +kernel
theorem dX11_byteAt_9 : decode cX11_byteAt 9 = .ok (.if_icmp .ge 12, 3) := by decide +kernel
theorem dX11_byteAt_12 : decode cX11_byteAt 12 = .ok (.aload_n 0, 1) := by decide +kernel
theorem dX11_byteAt_13 : decode cX11_byteAt 13 = .ok (.getfield 84, 3) := by decide +kernel
theorem dX11_byteAt_16 : decode cX11_byteAt 16 = .ok (.iload_n 1, 1) := by decide +kernel
theorem dX11_byteAt_17 : decode cX11_byteAt 17 = .ok (.iaload, 1) := by decide +kernel
theorem dX11_byteAt_18 : decode cX11_byteAt 18 = .ok (.goto 4, 3) := by decide +kernel
theorem dX11_byteAt_21 : decode cX11_byteAt 21 = .ok (.iconst (-1), 1) := by decide +kernel
theorem dX11_byteAt_22 : decode cX11_byteAt 22 = .ok (.ireturn, 1) := by decide +kernel
set_option maxRecDepth 20000 in
theorem ggX11_request_X10_has : GoodIn wsX11_request wsX10_has := goodIn_r _ [11, 12, 242, 243, 244, 245, 246] (by decide +kernel) (by decide +kernel)
set_option maxRecDepth 20000 in
theorem gX11_request_X10_has : GoodIn wsX11_request (wsV RX11 182 RX10 yX10_has wsX10_has) := goodIn_app (goodIn_of _ (by decide +kernel)) ggX11_request_X10_has
set_option maxRecDepth 20000 in
theorem ggX11_request_X4_isFull : GoodIn wsX11_request wsX4_isFull := goodIn_r _ [17, 18, 247, 248, 249, 250, 251] (by decide +kernel) (by decide +kernel)
set_option maxRecDepth 20000 in
theorem gX11_request_X4_isFull : GoodIn wsX11_request (wsV RX11 147 RX4 yX4_isFull wsX4_isFull) := goodIn_app (goodIn_of _ (by decide +kernel)) ggX11_request_X4_isFull
set_option maxRecDepth 20000 in
theorem ggX11_request_X3_keep : GoodIn wsX11_request wsX3_keep := goodIn_r _ [23, 24, 25, 26, 27, 28, 29, 30, 31, 32, 22, 33, 34, 35, 36, 37, 38, 39, 40, 41, 10, 42, 43, 44, 45, 46, 47, 48, 16, 49, 50, 51, 52, 53, 54, 55, 56, 57, 58, 59, 60, 61, 62, 63, 64, 65, 66, 67, 68, 69, 70, 71, 72, 73, 74, 75, 76, 77, 78, 79, 80, 81, 82, 83, 84, 85, 86, 87, 88, 89, 90, 91, 92, 93, 94, 12, 95, 96, 97, 98, 99, 100, 101, 102, 103, 104, 105, 106, 107, 108, 109, 18, 110, 111, 112, 113, 114, 115, 116, 117, 118, 119, 120, 121, 122, 252, 253, 254, 235, 236, 237, 238, 239, 240, 241, 242, 243, 244, 245, 246, 255, 256, 257, 258, 259, 260, 261, 247, 248, 249, 250, 251, 262, 263, 264, 265, 266, 267, 268, 269, 270, 271] (by decide +kernel) (by decide +kernel)
set_option maxRecDepth 20000 in
theorem gX11_request_X3_keep : GoodIn wsX11_request (wsV RX11 133 RX3 yX3_keep wsX3_keep) := goodIn_app (goodIn_of _ (by decide +kernel)) ggX11_request_X3_keep
set_option maxRecDepth 20000 in
theorem ggX11_request_X2_newCall : GoodIn wsX11_request wsX2_newCall := goodIn_r _ [127, 128, 272, 273, 274] (by decide +kernel) (by decide +kernel)
set_option maxRecDepth 20000 in
theorem gX11_request_X2_newCall : GoodIn wsX11_request (wsV RX11 137 RX2 yX2_newCall wsX2_newCall) := goodIn_app (goodIn_of _ (by decide +kernel)) ggX11_request_X2_newCall
set_option maxRecDepth 20000 in
theorem ggX11_request_X9_ask : GoodIn wsX11_request wsX9_ask := goodIn_r _ [132, 133, 46, 42, 88, 49, 134, 135, 136, 45, 137, 67, 138, 65, 66, 139, 140, 141, 142, 143, 144, 70, 145, 146, 147, 148, 149, 103, 150, 151, 152, 10, 153, 58, 59, 154, 155, 156, 157, 158, 159, 160, 161, 162, 163, 164, 165, 166, 68, 167, 168, 169, 170, 171, 172, 173, 174, 104, 175, 176, 177, 178, 179, 180, 181, 182, 183, 184, 185, 186, 187, 188, 189, 190, 191, 192, 193, 194, 16, 195, 74, 18, 75, 76, 196, 197, 77, 110, 96, 97, 98, 198, 14, 15, 17, 199, 200, 201, 29, 202, 203, 89, 90, 51, 204, 205, 206, 207, 208, 126, 209, 128, 210, 211, 212, 213, 214, 53, 215, 115, 118, 117, 120, 119, 81, 82, 83, 121, 216, 217, 218, 219, 116, 275, 276, 277, 278, 235, 236, 237, 238, 239, 240, 241, 255, 256, 257, 258, 259, 260, 261, 242, 243, 244, 245, 246, 247, 248, 249, 250, 251, 272, 273, 274, 262, 263, 264, 265, 266, 267, 268, 269, 270, 271] (by decide +kernel) (by decide +kernel)
set_option maxRecDepth 20000 in
theorem gX11_request_X9_ask : GoodIn wsX11_request (wsV RX11 156 RX9 yX9_ask wsX9_ask) := goodIn_app (goodIn_of _ (by decide +kernel)) ggX11_request_X9_ask
theorem dX11_request_0 : decode cX11_request 0 = .ok (.aload_n 0, 1) := by decide +kernel
theorem dX11_request_1 : decode cX11_request 1 = .ok (.getfield 26, 3) := by decide +kernel
theorem dX11_request_4 : decode cX11_request 4 = .ok (.getfield 127, 3) := by decide +kernel
theorem dX11_request_7 : decode cX11_request 7 = .ok (.iload_n 1, 1) := by decide +kernel
theorem dX11_request_8 : decode cX11_request 8 = .ok (.invokevirtual 182, 3) := by decide +kernel
theorem dX11_request_11 : decode cX11_request 11 = .ok (.ifCond .ne 6, 3) := by decide +kernel
theorem dX11_request_14 : decode cX11_request 14 = .ok (.bipush (-2), 2) := by decide +kernel
theorem dX11_request_16 : decode cX11_request 16 = .ok (.ireturn, 1) := by decide +kernel
theorem dX11_request_17 : decode cX11_request 17 = .ok (.aload_n 0, 1) := by decide +kernel
theorem dX11_request_18 : decode cX11_request 18 = .ok (.getfield 26, 3) := by decide +kernel
theorem dX11_request_21 : decode cX11_request 21 = .ok (.getfield 143, 3) := by decide +kernel
theorem dX11_request_24 : decode cX11_request 24 = .ok (.invokevirtual 147, 3) := by decide +kernel
theorem dX11_request_27 : decode cX11_request 27 = .ok (.ifCond .eq 6, 3) := by decide +kernel
theorem dX11_request_30 : decode cX11_request 30 = .ok (.bipush (-3), 2) := by decide +kernel
theorem dX11_request_32 : decode cX11_request 32 = .ok (.ireturn, 1) := by decide +kernel
theorem dX11_request_33 : decode cX11_request 33 = .ok (.aload_n 0, 1) := by decide +kernel
theorem dX11_request_34 : decode cX11_request 34 = .ok (.getfield 33, 3) := by decide +kernel
theorem dX11_request_37 : decode cX11_request 37 = .ok (.aload_n 0, 1) := by decide +kernel
theorem dX11_request_38 : decode cX11_request 38 = .ok (.getfield 26, 3) := by decide +kernel
theorem dX11_request_41 : decode cX11_request 41 = .ok (.invokevirtual 133, 3) := by decide +kernel
theorem dX11_request_44 : decode cX11_request 44 = .ok (.aload_n 0, 1) := by decide +kernel
theorem dX11_request_45 : decode cX11_request 45 = .ok (.getfield 44, 3) := by decide +kernel
theorem dX11_request_48 : decode cX11_request 48 = .ok (.invokevirtual 137, 3) := by decide +kernel
theorem dX11_request_51 : decode cX11_request 51 = .ok (.aload_n 0, 1) := by decide +kernel
theorem dX11_request_52 : decode cX11_request 52 = .ok (.getfield 26, 3) := by decide +kernel
theorem dX11_request_55 : decode cX11_request 55 = .ok (.iload_n 1, 1) := by decide +kernel
theorem dX11_request_56 : decode cX11_request 56 = .ok (.aload_n 0, 1) := by decide +kernel
theorem dX11_request_57 : decode cX11_request 57 = .ok (.getfield 51, 3) := by decide +kernel
theorem dX11_request_60 : decode cX11_request 60 = .ok (.aload_n 0, 1) := by decide +kernel
theorem dX11_request_61 : decode cX11_request 61 = .ok (.getfield 44, 3) := by decide +kernel
theorem dX11_request_64 : decode cX11_request 64 = .ok (.invokevirtual 156, 3) := by decide +kernel
theorem dX11_request_67 : decode cX11_request 67 = .ok (.ireturn, 1) := by decide +kernel
set_option maxRecDepth 20000 in
theorem ggX11_drawn_X3_keep : GoodIn wsX11_drawn wsX3_keep := goodIn_r _ [13, 14, 15, 16, 17, 18, 19, 20, 21, 22, 12, 23, 24, 25, 26, 27, 28, 29, 30, 31, 32, 33, 34, 35, 36, 37, 38, 39, 40, 41, 42, 43, 44, 45, 46, 47, 48, 49, 50, 51, 52, 53, 54, 55, 56, 57, 58, 59, 60, 61, 62, 63, 64, 65, 66, 67, 68, 69, 70, 71, 72, 73, 74, 75, 76, 77, 78, 79, 80, 81, 82, 83, 84, 85, 86, 87, 88, 89, 90, 91, 92, 93, 94, 95, 96, 97, 98, 99, 100, 101, 102, 103, 104, 105, 106, 107, 108, 109, 110, 111, 112, 113, 114, 115, 116, 255, 256, 257, 243, 244, 245, 246, 247, 248, 249, 250, 251, 252, 253, 254, 258, 259, 260, 261, 262, 263, 264, 265, 266, 267, 268, 269, 270, 271, 272, 273, 274, 275, 276, 277, 278, 279] (by decide +kernel) (by decide +kernel)
set_option maxRecDepth 20000 in
theorem gX11_drawn_X3_keep : GoodIn wsX11_drawn (wsV RX11 133 RX3 yX3_keep wsX3_keep) := goodIn_app (goodIn_of _ (by decide +kernel)) ggX11_drawn_X3_keep
set_option maxRecDepth 20000 in
theorem ggX11_drawn_X2_newCall : GoodIn wsX11_drawn wsX2_newCall := goodIn_r _ [121, 122, 280, 281, 282] (by decide +kernel) (by decide +kernel)
set_option maxRecDepth 20000 in
theorem gX11_drawn_X2_newCall : GoodIn wsX11_drawn (wsV RX11 137 RX2 yX2_newCall wsX2_newCall) := goodIn_app (goodIn_of _ (by decide +kernel)) ggX11_drawn_X2_newCall
set_option maxRecDepth 20000 in
theorem ggX11_drawn_X4_isFull : GoodIn wsX11_drawn wsX4_isFull := goodIn_r _ [126, 103, 265, 266, 267, 268, 269] (by decide +kernel) (by decide +kernel)
set_option maxRecDepth 20000 in
theorem gX11_drawn_X4_isFull : GoodIn wsX11_drawn (wsV RX11 147 RX4 yX4_isFull wsX4_isFull) := goodIn_app (goodIn_of _ (by decide +kernel)) ggX11_drawn_X4_isFull
set_option maxRecDepth 20000 in
theorem ggX11_drawn_X11_drawItem : GoodIn wsX11_drawn wsX11_drawItem := goodIn_r _ [131, 1, 2, 3, 132, 133, 134, 130, 135, 6, 136, 228, 229, 230, 231, 232, 233, 234, 235, 236, 237, 238, 239, 240, 241, 242, 243, 244, 245, 246, 247, 248, 249, 250, 251, 252, 253, 254] (by decide +kernel) (by decide +kernel)
set_option maxRecDepth 20000 in
theorem gX11_drawn_X11_drawItem : GoodIn wsX11_drawn (wsV RX11 221 RX11 yX11_drawItem wsX11_drawItem) := goodIn_app (goodIn_of _ (by decide +kernel)) ggX11_drawn_X11_drawItem
set_option maxRecDepth 20000 in
theorem ggX11_drawn_X9_ask : GoodIn wsX11_drawn wsX9_ask := goodIn_r _ [140, 141, 37, 33, 80, 41, 142, 143, 144, 36, 145, 59, 146, 57, 58, 147, 148, 149, 150, 151, 152, 62, 153, 154, 155, 156, 157, 96, 158, 159, 160, 32, 161, 50, 51, 162, 163, 164, 165, 166, 167, 168, 169, 170, 171, 172, 173, 174, 60, 175, 176, 177, 178, 179, 180, 181, 182, 97, 183, 184, 185, 186, 187, 188, 189, 190, 191, 192, 193, 194, 195, 196, 197, 198, 199, 200, 201, 202, 40, 203, 66, 103, 67, 68, 204, 205, 69, 104, 89, 90, 91, 206, 124, 125, 126, 207, 208, 209, 19, 210, 211, 81, 82, 43, 212, 213, 214, 215, 216, 120, 217, 122, 218, 219, 220, 221, 222, 45, 223, 109, 112, 111, 114, 113, 73, 74, 75, 115, 224, 225, 226, 227, 110, 283, 284, 285, 286, 243, 244, 245, 246, 247, 248, 249, 258, 259, 260, 261, 262, 263, 264, 250, 251, 252, 253, 254, 265, 266, 267, 268, 269, 280, 281, 282, 270, 271, 272, 273, 274, 275, 276, 277, 278, 279] (by decide +kernel) (by decide +kernel)
set_option maxRecDepth 20000 in
theorem gX11_drawn_X9_ask : GoodIn wsX11_drawn (wsV RX11 156 RX9 yX9_ask wsX9_ask) := goodIn_app (goodIn_of _ (by decide +kernel)) ggX11_drawn_X9_ask
theorem dX11_drawn_0 : decode cX11_drawn 0 = .ok (.iload_n 1, 1) := by decide +kernel
theorem dX11_drawn_1 : decode cX11_drawn 1 = .ok (.iconst 1, 1) := by decide +kernel
theorem dX11_drawn_2 : decode cX11_drawn 2 = .ok (.if_icmp .lt 22, 3) := by decide +kernel
theorem dX11_drawn_5 : decode cX11_drawn 5 = .ok (.iload_n 1, 1) := by decide +kernel
theorem dX11_drawn_6 : decode cX11_drawn 6 = .ok (.bipush 40, 2) := by decide +kernel
theorem dX11_drawn_8 : decode cX11_drawn 8 = .ok (.if_icmp .gt 16, 3) := by decide +kernel
theorem dX11_drawn_11 : decode cX11_drawn 11 = .ok (.aload_n 0, 1) := by decide +kernel
theorem dX11_drawn_12 : decode cX11_drawn 12 = .ok (.getfield 26, 3) := by decide +kernel
theorem dX11_drawn_15 : decode cX11_drawn 15 = .ok (.getfield 127, 3) := by decide +kernel
theorem dX11_drawn_18 : decode cX11_drawn 18 = .ok (.getfield 121, 3) := by decide +kernel
theorem dX11_drawn_21 : decode cX11_drawn 21 = .ok (.ifCond .ne 5, 3) := by decide +kernel
theorem dX11_drawn_24 : decode cX11_drawn 24 = .ok (.iconst (-1), 1) := by decide +kernel
theorem dX11_drawn_25 : decode cX11_drawn 25 = .ok (.ireturn, 1) := by decide +kernel
theorem dX11_drawn_26 : decode cX11_drawn 26 = .ok (.aload_n 0, 1) := by decide +kernel
theorem dX11_drawn_27 : decode cX11_drawn 27 = .ok (.getfield 33, 3) := by decide +kernel
theorem dX11_drawn_30 : decode cX11_drawn 30 = .ok (.aload_n 0, 1) := by decide +kernel
theorem dX11_drawn_31 : decode cX11_drawn 31 = .ok (.getfield 26, 3) := by decide +kernel
theorem dX11_drawn_34 : decode cX11_drawn 34 = .ok (.invokevirtual 133, 3) := by decide +kernel
theorem dX11_drawn_37 : decode cX11_drawn 37 = .ok (.aload_n 0, 1) := by decide +kernel
theorem dX11_drawn_38 : decode cX11_drawn 38 = .ok (.getfield 44, 3) := by decide +kernel
theorem dX11_drawn_41 : decode cX11_drawn 41 = .ok (.invokevirtual 137, 3) := by decide +kernel
theorem dX11_drawn_44 : decode cX11_drawn 44 = .ok (.aload_n 0, 1) := by decide +kernel
theorem dX11_drawn_45 : decode cX11_drawn 45 = .ok (.iload_n 2, 1) := by decide +kernel
theorem dX11_drawn_46 : decode cX11_drawn 46 = .ok (.putfield 218, 3) := by decide +kernel
theorem dX11_drawn_49 : decode cX11_drawn 49 = .ok (.iconst 0, 1) := by decide +kernel
theorem dX11_drawn_50 : decode cX11_drawn 50 = .ok (.istore_n 3, 1) := by decide +kernel
theorem dX11_drawn_51 : decode cX11_drawn 51 = .ok (.iconst 0, 1) := by decide +kernel
theorem dX11_drawn_52 : decode cX11_drawn 52 = .ok (.istore 4, 2) := by decide +kernel
theorem dX11_drawn_54 : decode cX11_drawn 54 = .ok (.iload 4, 2) := by decide +kernel
theorem dX11_drawn_56 : decode cX11_drawn 56 = .ok (.iload_n 1, 1) := by decide +kernel
theorem dX11_drawn_57 : decode cX11_drawn 57 = .ok (.if_icmp .ge 44, 3) := by decide +kernel
theorem dX11_drawn_60 : decode cX11_drawn 60 = .ok (.aload_n 0, 1) := by decide +kernel
theorem dX11_drawn_61 : decode cX11_drawn 61 = .ok (.getfield 26, 3) := by decide +kernel
theorem dX11_drawn_64 : decode cX11_drawn 64 = .ok (.getfield 143, 3) := by decide +kernel
theorem dX11_drawn_67 : decode cX11_drawn 67 = .ok (.invokevirtual 147, 3) := by decide +kernel
theorem dX11_drawn_70 : decode cX11_drawn 70 = .ok (.ifCond .ne 31, 3) := by decide +kernel
theorem dX11_drawn_73 : decode cX11_drawn 73 = .ok (.iload_n 3, 1) := by decide +kernel
theorem dX11_drawn_74 : decode cX11_drawn 74 = .ok (.aload_n 0, 1) := by decide +kernel
theorem dX11_drawn_75 : decode cX11_drawn 75 = .ok (.getfield 26, 3) := by decide +kernel
theorem dX11_drawn_78 : decode cX11_drawn 78 = .ok (.aload_n 0, 1) := by decide +kernel
theorem dX11_drawn_79 : decode cX11_drawn 79 = .ok (.invokevirtual 221, 3) := by decide +kernel
theorem dX11_drawn_82 : decode cX11_drawn 82 = .ok (.aload_n 0, 1) := by decide +kernel
theorem dX11_drawn_83 : decode cX11_drawn 83 = .ok (.getfield 51, 3) := by decide +kernel
theorem dX11_drawn_86 : decode cX11_drawn 86 = .ok (.aload_n 0, 1) := by decide +kernel
theorem dX11_drawn_87 : decode cX11_drawn 87 = .ok (.getfield 44, 3) := by decide +kernel
theorem dX11_drawn_90 : decode cX11_drawn 90 = .ok (.invokevirtual 156, 3) := by decide +kernel
theorem dX11_drawn_93 : decode cX11_drawn 93 = .ok (.iadd, 1) := by decide +kernel
theorem dX11_drawn_94 : decode cX11_drawn 94 = .ok (.istore_n 3, 1) := by decide +kernel
theorem dX11_drawn_95 : decode cX11_drawn 95 = .ok (.iinc 4 1, 3) := by decide +kernel
theorem dX11_drawn_98 : decode cX11_drawn 98 = .ok (.goto (-44), 3) := by decide +kernel
theorem dX11_drawn_101 : decode cX11_drawn 101 = .ok (.iload_n 3, 1) := by decide +kernel
theorem dX11_drawn_102 : decode cX11_drawn 102 = .ok (.ireturn, 1) := by decide +kernel
set_option maxRecDepth 20000 in
theorem ggX11_drawItem_X11_draw : GoodIn wsX11_drawItem wsX11_draw := goodIn_r _ [8, 9, 10, 11, 12, 13, 14, 15, 16, 17, 18, 19, 20, 21, 22, 23, 24, 25] (by decide +kernel) (by decide +kernel)
set_option maxRecDepth 20000 in
theorem gX11_drawItem_X11_draw : GoodIn wsX11_drawItem (wsV RX11 224 RX11 yX11_draw wsX11_draw) := goodIn_app (goodIn_of _ (by decide +kernel)) ggX11_drawItem_X11_draw
theorem dX11_drawItem_0 : decode cX11_drawItem 0 = .ok (.aload_n 0, 1) := by decide +kernel
theorem dX11_drawItem_1 : decode cX11_drawItem 1 = .ok (.iconst 3, 1) := by decide +kernel
theorem dX11_drawItem_2 : decode cX11_drawItem 2 = .ok (.invokevirtual 224, 3) := by decide +kernel
theorem dX11_drawItem_5 : decode cX11_drawItem 5 = .ok (.ifCond .ne 7, 3) := by decide +kernel
theorem dX11_drawItem_8 : decode cX11_drawItem 8 = .ok (.iconst 1, 1) := by decide +kernel
theorem dX11_drawItem_9 : decode cX11_drawItem 9 = .ok (.goto 4, 3) := by decide +kernel
theorem dX11_drawItem_12 : decode cX11_drawItem 12 = .ok (.iconst 0, 1) := by decide +kernel
theorem dX11_drawItem_13 : decode cX11_drawItem 13 = .ok (.istore_n 1, 1) := by decide +kernel
theorem dX11_drawItem_14 : decode cX11_drawItem 14 = .ok (.aload_n 0, 1) := by decide +kernel
theorem dX11_drawItem_15 : decode cX11_drawItem 15 = .ok (.aload_n 0, 1) := by decide +kernel
theorem dX11_drawItem_16 : decode cX11_drawItem 16 = .ok (.getfield 26, 3) := by decide +kernel
theorem dX11_drawItem_19 : decode cX11_drawItem 19 = .ok (.getfield 127, 3) := by decide +kernel
theorem dX11_drawItem_22 : decode cX11_drawItem 22 = .ok (.getfield 121, 3) := by decide +kernel
theorem dX11_drawItem_25 : decode cX11_drawItem 25 = .ok (.invokevirtual 224, 3) := by decide +kernel
theorem dX11_drawItem_28 : decode cX11_drawItem 28 = .ok (.istore_n 2, 1) := by decide +kernel
theorem dX11_drawItem_29 : decode cX11_drawItem 29 = .ok (.iload_n 1, 1) := by decide +kernel
theorem dX11_drawItem_30 : decode cX11_drawItem 30 = .ok (.ifCond .eq 7, 3) := by decide +kernel
theorem dX11_drawItem_33 : decode cX11_drawItem 33 = .ok (.iload_n 2, 1) := by decide +kernel
theorem dX11_drawItem_34 : decode cX11_drawItem 34 = .ok (.goto 10, 3) := by decide +kernel
theorem dX11_drawItem_37 : decode cX11_drawItem 37 = .ok (.aload_n 0, 1) := by decide +kernel
theorem dX11_drawItem_38 : decode cX11_drawItem 38 = .ok (.iload_n 2, 1) := by decide +kernel
theorem dX11_drawItem_39 : decode cX11_drawItem 39 = .ok (.iconst 1, 1) := by decide +kernel
theorem dX11_drawItem_40 : decode cX11_drawItem 40 = .ok (.iadd, 1) := by decide +kernel
theorem dX11_drawItem_41 : decode cX11_drawItem 41 = .ok (.invokevirtual 224, 3) := by decide +kernel
theorem dX11_drawItem_44 : decode cX11_drawItem 44 = .ok (.ireturn, 1) := by decide +kernel
theorem dX11_draw_0 : decode cX11_draw 0 = .ok (.aload_n 0, 1) := by decide +kernel
theorem dX11_draw_1 : decode cX11_draw 1 = .ok (.aload_n 0, 1) := by decide +kernel
theorem dX11_draw_2 : decode cX11_draw 2 = .ok (.getfield 218, 3) := by decide +kernel
theorem dX11_draw_5 : decode cX11_draw 5 = .ok (.ldc 227, 2) := by decide +kernel
theorem dX11_draw_7 : decode cX11_draw 7 = .ok (.imul, 1) := by decide +kernel
theorem dX11_draw_8 : decode cX11_draw 8 = .ok (.sipush 12345, 3) := by decide +kernel
theorem dX11_draw_11 : decode cX11_draw 11 = .ok (.iadd, 1) := by decide +kernel
theorem dX11_draw_12 : decode cX11_draw 12 = .ok (.putfield 218, 3) := by decide +kernel
theorem dX11_draw_15 : decode cX11_draw 15 = .ok (.iload_n 1, 1) := by decide +kernel
theorem dX11_draw_16 : decode cX11_draw 16 = .ok (.iconst 1, 1) := by decide +kernel
theorem dX11_draw_17 : decode cX11_draw 17 = .ok (.if_icmp .ge 7, 3) := by decide +kernel
theorem dX11_draw_20 : decode cX11_draw 20 = .ok (.iconst 0, 1) := by decide +kernel
theorem dX11_draw_21 : decode cX11_draw 21 = .ok (.goto 12, 3) := by decide +kernel
theorem dX11_draw_24 : decode cX11_draw 24 = .ok (.aload_n 0, 1) := by decide +kernel
theorem dX11_draw_25 : decode cX11_draw 25 = .ok (.getfield 218, 3) := by decide +kernel
theorem dX11_draw_28 : decode cX11_draw 28 = .ok (.bipush 8, 2) := by decide +kernel
theorem dX11_draw_30 : decode cX11_draw 30 = .ok (.iushr, 1) := by decide +kernel
theorem dX11_draw_31 : decode cX11_draw 31 = .ok (.iload_n 1, 1) := by decide +kernel
theorem dX11_draw_32 : decode cX11_draw 32 = .ok (.irem, 1) := by decide +kernel
theorem dX11_draw_33 : decode cX11_draw 33 = .ok (.ireturn, 1) := by decide +kernel
set_option maxRecDepth 20000 in
theorem ggX11_log_X4_has : GoodIn wsX11_log wsX4_has := goodIn_r _ [10, 11, 34, 35, 36, 37, 38] (by decide +kernel) (by decide +kernel)
set_option maxRecDepth 20000 in
theorem gX11_log_X4_has : GoodIn wsX11_log (wsV RX11 228 RX4 yX4_has wsX4_has) := goodIn_app (goodIn_of _ (by decide +kernel)) ggX11_log_X4_has
theorem dX11_log_0 : decode cX11_log 0 = .ok (.aload_n 0, 1) := by decide +kernel
theorem dX11_log_1 : decode cX11_log 1 = .ok (.getfield 26, 3) := by decide +kernel
theorem dX11_log_4 : decode cX11_log 4 = .ok (.getfield 143, 3) := by decide +kernel
theorem dX11_log_7 : decode cX11_log 7 = .ok (.iload_n 1, 1) := by decide +kernel
theorem dX11_log_8 : decode cX11_log 8 = .ok (.invokevirtual 228, 3) := by decide +kernel
theorem dX11_log_11 : decode cX11_log 11 = .ok (.ifCond .ne 5, 3) := by decide +kernel
theorem dX11_log_14 : decode cX11_log 14 = .ok (.iconst (-1), 1) := by decide +kernel
theorem dX11_log_15 : decode cX11_log 15 = .ok (.ireturn, 1) := by decide +kernel
theorem dX11_log_16 : decode cX11_log 16 = .ok (.iload_n 2, 1) := by decide +kernel
theorem dX11_log_17 : decode cX11_log 17 = .ok (.tableswitch 66 0 2 #[27, 40, 53], 27) := by decide +kernel
theorem dX11_log_44 : decode cX11_log 44 = .ok (.aload_n 0, 1) := by decide +kernel
theorem dX11_log_45 : decode cX11_log 45 = .ok (.getfield 26, 3) := by decide +kernel
theorem dX11_log_48 : decode cX11_log 48 = .ok (.getfield 143, 3) := by decide +kernel
theorem dX11_log_51 : decode cX11_log 51 = .ok (.getfield 229, 3) := by decide +kernel
theorem dX11_log_54 : decode cX11_log 54 = .ok (.iload_n 1, 1) := by decide +kernel
theorem dX11_log_55 : decode cX11_log 55 = .ok (.iaload, 1) := by decide +kernel
theorem dX11_log_56 : decode cX11_log 56 = .ok (.ireturn, 1) := by decide +kernel
theorem dX11_log_57 : decode cX11_log 57 = .ok (.aload_n 0, 1) := by decide +kernel
theorem dX11_log_58 : decode cX11_log 58 = .ok (.getfield 26, 3) := by decide +kernel
theorem dX11_log_61 : decode cX11_log 61 = .ok (.getfield 143, 3) := by decide +kernel
theorem dX11_log_64 : decode cX11_log 64 = .ok (.getfield 232, 3) := by decide +kernel
theorem dX11_log_67 : decode cX11_log 67 = .ok (.iload_n 1, 1) := by decide +kernel
theorem dX11_log_68 : decode cX11_log 68 = .ok (.iaload, 1) := by decide +kernel
theorem dX11_log_69 : decode cX11_log 69 = .ok (.ireturn, 1) := by decide +kernel
theorem dX11_log_70 : decode cX11_log 70 = .ok (.aload_n 0, 1) := by decide +kernel
theorem dX11_log_71 : decode cX11_log 71 = .ok (.getfield 26, 3) := by decide +kernel
theorem dX11_log_74 : decode cX11_log 74 = .ok (.getfield 143, 3) := by decide +kernel
theorem dX11_log_77 : decode cX11_log 77 = .ok (.getfield 234, 3) := by decide +kernel
theorem dX11_log_80 : decode cX11_log 80 = .ok (.iload_n 1, 1) := by decide +kernel
theorem dX11_log_81 : decode cX11_log 81 = .ok (.iaload, 1) := by decide +kernel
theorem dX11_log_82 : decode cX11_log 82 = .ok (.ireturn, 1) := by decide +kernel
theorem dX11_log_83 : decode cX11_log 83 = .ok (.iconst (-1), 1) := by decide +kernel
theorem dX11_log_84 : decode cX11_log 84 = .ok (.ireturn, 1) := by decide +kernel
set_option maxRecDepth 20000 in
theorem ggX11_spent_X10_has : GoodIn wsX11_spent wsX10_has := goodIn_r _ [11, 12, 44, 45, 46, 47, 48] (by decide +kernel) (by decide +kernel)
set_option maxRecDepth 20000 in
theorem gX11_spent_X10_has : GoodIn wsX11_spent (wsV RX11 182 RX10 yX10_has wsX10_has) := goodIn_app (goodIn_of _ (by decide +kernel)) ggX11_spent_X10_has
set_option maxRecDepth 20000 in
theorem ggX11_spent_X11_spentIn : GoodIn wsX11_spent wsX11_spentIn := goodIn_r _ [16] (by decide +kernel) (by decide +kernel)
set_option maxRecDepth 20000 in
theorem gX11_spent_X11_spentIn : GoodIn wsX11_spent (va_wsS RX11 236 yX11_spentIn wsX11_spentIn) := goodIn_app (goodIn_of _ (by decide +kernel)) ggX11_spent_X11_spentIn
theorem dX11_spent_0 : decode cX11_spent 0 = .ok (.aload_n 0, 1) := by decide +kernel
theorem dX11_spent_1 : decode cX11_spent 1 = .ok (.getfield 26, 3) := by decide +kernel
theorem dX11_spent_4 : decode cX11_spent 4 = .ok (.getfield 127, 3) := by decide +kernel
theorem dX11_spent_7 : decode cX11_spent 7 = .ok (.iload_n 1, 1) := by decide +kernel
theorem dX11_spent_8 : decode cX11_spent 8 = .ok (.invokevirtual 182, 3) := by decide +kernel
theorem dX11_spent_11 : decode cX11_spent 11 = .ok (.ifCond .eq 12, 3) := by decide +kernel
theorem dX11_spent_14 : decode cX11_spent 14 = .ok (.iload_n 2, 1) := by decide +kernel
theorem dX11_spent_15 : decode cX11_spent 15 = .ok (.ifCond .lt 8, 3) := by decide +kernel
theorem dX11_spent_18 : decode cX11_spent 18 = .ok (.iload_n 2, 1) := by decide +kernel
theorem dX11_spent_19 : decode cX11_spent 19 = .ok (.iconst 2, 1) := by decide +kernel
theorem dX11_spent_20 : decode cX11_spent 20 = .ok (.if_icmp .le 5, 3) := by decide +kernel
theorem dX11_spent_23 : decode cX11_spent 23 = .ok (.iconst (-1), 1) := by decide +kernel
theorem dX11_spent_24 : decode cX11_spent 24 = .ok (.ireturn, 1) := by decide +kernel
theorem dX11_spent_25 : decode cX11_spent 25 = .ok (.iconst 0, 1) := by decide +kernel
theorem dX11_spent_26 : decode cX11_spent 26 = .ok (.istore_n 3, 1) := by decide +kernel
theorem dX11_spent_27 : decode cX11_spent 27 = .ok (.iconst 0, 1) := by decide +kernel
theorem dX11_spent_28 : decode cX11_spent 28 = .ok (.istore 4, 2) := by decide +kernel
theorem dX11_spent_30 : decode cX11_spent 30 = .ok (.iload 4, 2) := by decide +kernel
theorem dX11_spent_32 : decode cX11_spent 32 = .ok (.aload_n 0, 1) := by decide +kernel
theorem dX11_spent_33 : decode cX11_spent 33 = .ok (.getfield 26, 3) := by decide +kernel
theorem dX11_spent_36 : decode cX11_spent 36 = .ok (.getfield 143, 3) := by decide +kernel
theorem dX11_spent_39 : decode cX11_spent 39 = .ok (.getfield 175, 3) := by decide +kernel
theorem dX11_spent_42 : decode cX11_spent 42 = .ok (.if_icmp .ge 46, 3) := by decide +kernel
theorem dX11_spent_45 : decode cX11_spent 45 = .ok (.aload_n 0, 1) := by decide +kernel
theorem dX11_spent_46 : decode cX11_spent 46 = .ok (.getfield 26, 3) := by decide +kernel
theorem dX11_spent_49 : decode cX11_spent 49 = .ok (.getfield 143, 3) := by decide +kernel
theorem dX11_spent_52 : decode cX11_spent 52 = .ok (.getfield 229, 3) := by decide +kernel
theorem dX11_spent_55 : decode cX11_spent 55 = .ok (.iload 4, 2) := by decide +kernel
theorem dX11_spent_57 : decode cX11_spent 57 = .ok (.iaload, 1) := by decide +kernel
theorem dX11_spent_58 : decode cX11_spent 58 = .ok (.iload_n 1, 1) := by decide +kernel
theorem dX11_spent_59 : decode cX11_spent 59 = .ok (.if_icmp .ne 23, 3) := by decide +kernel
theorem dX11_spent_62 : decode cX11_spent 62 = .ok (.iload_n 3, 1) := by decide +kernel
theorem dX11_spent_63 : decode cX11_spent 63 = .ok (.aload_n 0, 1) := by decide +kernel
theorem dX11_spent_64 : decode cX11_spent 64 = .ok (.getfield 26, 3) := by decide +kernel
theorem dX11_spent_67 : decode cX11_spent 67 = .ok (.getfield 143, 3) := by decide +kernel
theorem dX11_spent_70 : decode cX11_spent 70 = .ok (.getfield 232, 3) := by decide +kernel
theorem dX11_spent_73 : decode cX11_spent 73 = .ok (.iload 4, 2) := by decide +kernel
theorem dX11_spent_75 : decode cX11_spent 75 = .ok (.iaload, 1) := by decide +kernel
theorem dX11_spent_76 : decode cX11_spent 76 = .ok (.iload_n 2, 1) := by decide +kernel
theorem dX11_spent_77 : decode cX11_spent 77 = .ok (.invokestatic 236, 3) := by decide +kernel
theorem dX11_spent_80 : decode cX11_spent 80 = .ok (.iadd, 1) := by decide +kernel
theorem dX11_spent_81 : decode cX11_spent 81 = .ok (.istore_n 3, 1) := by decide +kernel
theorem dX11_spent_82 : decode cX11_spent 82 = .ok (.iinc 4 1, 3) := by decide +kernel
theorem dX11_spent_85 : decode cX11_spent 85 = .ok (.goto (-55), 3) := by decide +kernel
theorem dX11_spent_88 : decode cX11_spent 88 = .ok (.iload_n 3, 1) := by decide +kernel
theorem dX11_spent_89 : decode cX11_spent 89 = .ok (.ireturn, 1) := by decide +kernel
theorem dX11_spentIn_0 : decode cX11_spentIn 0 = .ok (.iload_n 1, 1) := by decide +kernel
theorem dX11_spentIn_1 : decode cX11_spentIn 1 = .ok (.lookupswitch 39 #[(0, 27), (1, 29)], 27) := by decide +kernel
theorem dX11_spentIn_28 : decode cX11_spentIn 28 = .ok (.iconst 1, 1) := by decide +kernel
theorem dX11_spentIn_29 : decode cX11_spentIn 29 = .ok (.ireturn, 1) := by decide +kernel
theorem dX11_spentIn_30 : decode cX11_spentIn 30 = .ok (.iload_n 0, 1) := by decide +kernel
theorem dX11_spentIn_31 : decode cX11_spentIn 31 = .ok (.ifCond .ne 7, 3) := by decide +kernel
theorem dX11_spentIn_34 : decode cX11_spentIn 34 = .ok (.iconst 1, 1) := by decide +kernel
theorem dX11_spentIn_35 : decode cX11_spentIn 35 = .ok (.goto 4, 3) := by decide +kernel
theorem dX11_spentIn_38 : decode cX11_spentIn 38 = .ok (.iconst 0, 1) := by decide +kernel
theorem dX11_spentIn_39 : decode cX11_spentIn 39 = .ok (.ireturn, 1) := by decide +kernel
theorem dX11_spentIn_40 : decode cX11_spentIn 40 = .ok (.iload_n 0, 1) := by decide +kernel
theorem dX11_spentIn_41 : decode cX11_spentIn 41 = .ok (.ireturn, 1) := by decide +kernel
set_option maxRecDepth 20000 in
theorem ggX11_room_X11_startAnew : GoodIn wsX11_room wsX11_startAnew := goodIn_r _ [9, 10, 1, 11, 2, 12, 13, 14, 15, 16, 17, 18, 19, 20, 21, 22, 23, 24, 25, 26, 27, 28, 29, 30, 31, 32, 33, 34, 35, 36, 37, 38, 39, 40, 41, 42, 43, 44, 45, 46, 47, 48, 49, 50, 51, 52, 53, 54, 55, 56, 57, 58, 59, 60, 61, 62, 63, 64, 65, 66, 67, 68, 69, 70, 71, 72, 73, 74, 75, 76, 77, 78, 79, 80, 81, 82, 83, 84, 85, 86, 87, 88, 89, 90, 91, 92, 93, 94, 95, 96, 97, 98, 99, 100, 101, 102, 103, 104, 105, 106, 107, 108, 109, 110, 111, 112, 113, 114, 115, 116, 117, 118, 119, 120, 121, 122, 123, 124, 125, 126, 127, 128, 129, 130, 131, 132, 133, 134, 135, 136, 137, 138, 139, 140, 141, 142, 143, 144, 145, 146, 147, 148, 149, 150, 151, 152, 153, 154, 155, 156, 157, 158, 159, 160, 161, 162, 163, 164, 165, 166, 167, 168, 169, 170, 171, 172, 173, 174, 175, 176, 177, 178, 179, 180, 181, 182, 183, 184, 185, 186, 187, 188, 189, 190, 191, 192, 193, 194, 195, 196, 197, 198, 199, 200, 201, 202] (by decide +kernel) (by decide +kernel)
set_option maxRecDepth 20000 in
theorem gX11_room_X11_startAnew : GoodIn wsX11_room (wsV RX11 240 RX11 yX11_startAnew wsX11_startAnew) := goodIn_app (goodIn_of _ (by decide +kernel)) ggX11_room_X11_startAnew
theorem dX11_room_0 : decode cX11_room 0 = .ok (.iload_n 1, 1) := by decide +kernel
theorem dX11_room_1 : decode cX11_room 1 = .ok (.iconst 1, 1) := by decide +kernel
theorem dX11_room_2 : decode cX11_room 2 = .ok (.if_icmp .lt 23, 3) := by decide +kernel
theorem dX11_room_5 : decode cX11_room 5 = .ok (.iload_n 1, 1) := by decide +kernel
theorem dX11_room_6 : decode cX11_room 6 = .ok (.bipush 20, 2) := by decide +kernel
theorem dX11_room_8 : decode cX11_room 8 = .ok (.if_icmp .gt 17, 3) := by decide +kernel
theorem dX11_room_11 : decode cX11_room 11 = .ok (.iload_n 1, 1) := by decide +kernel
theorem dX11_room_12 : decode cX11_room 12 = .ok (.aload_n 0, 1) := by decide +kernel
theorem dX11_room_13 : decode cX11_room 13 = .ok (.getfield 26, 3) := by decide +kernel
theorem dX11_room_16 : decode cX11_room 16 = .ok (.getfield 160, 3) := by decide +kernel
theorem dX11_room_19 : decode cX11_room 19 = .ok (.getfield 163, 3) := by decide +kernel
theorem dX11_room_22 : decode cX11_room 22 = .ok (.if_icmp .ne 5, 3) := by decide +kernel
theorem dX11_room_25 : decode cX11_room 25 = .ok (.iconst (-1), 1) := by decide +kernel
theorem dX11_room_26 : decode cX11_room 26 = .ok (.ireturn, 1) := by decide +kernel
theorem dX11_room_27 : decode cX11_room 27 = .ok (.aload_n 0, 1) := by decide +kernel
theorem dX11_room_28 : decode cX11_room 28 = .ok (.iload_n 1, 1) := by decide +kernel
theorem dX11_room_29 : decode cX11_room 29 = .ok (.aload_n 0, 1) := by decide +kernel
theorem dX11_room_30 : decode cX11_room 30 = .ok (.getfield 26, 3) := by decide +kernel
theorem dX11_room_33 : decode cX11_room 33 = .ok (.getfield 160, 3) := by decide +kernel
theorem dX11_room_36 : decode cX11_room 36 = .ok (.getfield 164, 3) := by decide +kernel
theorem dX11_room_39 : decode cX11_room 39 = .ok (.invokevirtual 240, 3) := by decide +kernel
theorem dX11_room_42 : decode cX11_room 42 = .ok (.ireturn, 1) := by decide +kernel
set_option maxRecDepth 20000 in
theorem ggX11_rule_X11_startAnew : GoodIn wsX11_rule wsX11_startAnew := goodIn_r _ [9, 10, 1, 11, 2, 12, 13, 14, 15, 16, 17, 18, 19, 20, 21, 22, 23, 24, 25, 26, 27, 28, 29, 30, 31, 32, 33, 34, 35, 36, 37, 38, 39, 40, 41, 42, 43, 44, 45, 46, 47, 48, 49, 50, 51, 52, 53, 54, 55, 56, 57, 58, 59, 60, 61, 62, 63, 64, 65, 66, 67, 68, 69, 70, 71, 72, 73, 74, 75, 76, 77, 78, 79, 80, 81, 82, 83, 84, 85, 86, 87, 88, 89, 90, 91, 92, 93, 94, 95, 96, 97, 98, 99, 100, 101, 102, 103, 104, 105, 106, 107, 108, 109, 110, 111, 112, 113, 114, 115, 116, 117, 118, 119, 120, 121, 122, 123, 124, 125, 126, 127, 128, 129, 130, 131, 132, 133, 134, 135, 136, 137, 138, 139, 140, 141, 142, 143, 144, 145, 146, 147, 148, 149, 150, 151, 152, 153, 154, 155, 156, 157, 158, 159, 160, 161, 162, 163, 164, 165, 166, 167, 168, 169, 170, 171, 172, 173, 174, 175, 176, 177, 178, 179, 180, 181, 182, 183, 184, 185, 186, 187, 188, 189, 190, 191, 192, 193, 194, 195, 196, 197, 198, 199, 200, 201, 202] (by decide +kernel) (by decide +kernel)
set_option maxRecDepth 20000 in
theorem gX11_rule_X11_startAnew : GoodIn wsX11_rule (wsV RX11 240 RX11 yX11_startAnew wsX11_startAnew) := goodIn_app (goodIn_of _ (by decide +kernel)) ggX11_rule_X11_startAnew
theorem dX11_rule_0 : decode cX11_rule 0 = .ok (.iload_n 1, 1) := by decide +kernel
theorem dX11_rule_1 : decode cX11_rule 1 = .ok (.ifCond .lt 22, 3) := by decide +kernel
theorem dX11_rule_4 : decode cX11_rule 4 = .ok (.iload_n 1, 1) := by decide +kernel
theorem dX11_rule_5 : decode cX11_rule 5 = .ok (.iconst 2, 1) := by decide +kernel
theorem dX11_rule_6 : decode cX11_rule 6 = .ok (.if_icmp .gt 17, 3) := by decide +kernel
theorem dX11_rule_9 : decode cX11_rule 9 = .ok (.iload_n 1, 1) := by decide +kernel
theorem dX11_rule_10 : decode cX11_rule 10 = .ok (.aload_n 0, 1) := by decide +kernel
theorem dX11_rule_11 : decode cX11_rule 11 = .ok (.getfield 26, 3) := by decide +kernel
theorem dX11_rule_14 : decode cX11_rule 14 = .ok (.getfield 160, 3) := by decide +kernel
theorem dX11_rule_17 : decode cX11_rule 17 = .ok (.getfield 164, 3) := by decide +kernel
theorem dX11_rule_20 : decode cX11_rule 20 = .ok (.if_icmp .ne 5, 3) := by decide +kernel
theorem dX11_rule_23 : decode cX11_rule 23 = .ok (.iconst (-1), 1) := by decide +kernel
theorem dX11_rule_24 : decode cX11_rule 24 = .ok (.ireturn, 1) := by decide +kernel
theorem dX11_rule_25 : decode cX11_rule 25 = .ok (.aload_n 0, 1) := by decide +kernel
theorem dX11_rule_26 : decode cX11_rule 26 = .ok (.aload_n 0, 1) := by decide +kernel
theorem dX11_rule_27 : decode cX11_rule 27 = .ok (.getfield 26, 3) := by decide +kernel
theorem dX11_rule_30 : decode cX11_rule 30 = .ok (.getfield 160, 3) := by decide +kernel
theorem dX11_rule_33 : decode cX11_rule 33 = .ok (.getfield 163, 3) := by decide +kernel
theorem dX11_rule_36 : decode cX11_rule 36 = .ok (.iload_n 1, 1) := by decide +kernel
theorem dX11_rule_37 : decode cX11_rule 37 = .ok (.invokevirtual 240, 3) := by decide +kernel
theorem dX11_rule_40 : decode cX11_rule 40 = .ok (.ireturn, 1) := by decide +kernel
set_option maxRecDepth 20000 in
theorem ggX11_startAnew_X3_keep : GoodIn wsX11_startAnew wsX3_keep := goodIn_r _ [12, 13, 14, 15, 16, 17, 18, 19, 20, 21, 11, 22, 23, 24, 25, 26, 27, 28, 29, 30, 31, 32, 33, 34, 35, 36, 37, 38, 39, 40, 41, 42, 43, 44, 45, 46, 47, 48, 49, 50, 51, 52, 53, 54, 55, 56, 57, 58, 59, 60, 61, 62, 63, 64, 65, 66, 67, 68, 69, 70, 71, 72, 73, 74, 75, 76, 77, 78, 79, 80, 81, 82, 83, 84, 85, 86, 87, 88, 89, 90, 91, 92, 93, 94, 95, 96, 97, 98, 99, 100, 101, 102, 103, 104, 105, 106, 107, 108, 109, 110, 111, 112, 113, 114, 115, 168, 169, 170, 149, 150, 151, 152, 153, 154, 155, 171, 172, 173, 174, 175, 156, 157, 158, 159, 160, 161, 162, 163, 164, 165, 166, 167, 176, 177, 178, 179, 180, 181, 182, 183, 184, 185] (by decide +kernel) (by decide +kernel)
set_option maxRecDepth 20000 in
theorem gX11_startAnew_X3_keep : GoodIn wsX11_startAnew (wsV RX11 133 RX3 yX3_keep wsX3_keep) := goodIn_app (goodIn_of _ (by decide +kernel)) ggX11_startAnew_X3_keep
set_option maxRecDepth 20000 in
theorem ggX11_startAnew_X5_forget : GoodIn wsX11_startAnew wsX5_forget := goodIn_r _ [120, 121, 122, 186, 187, 188, 189, 190, 191, 192, 193, 194, 195] (by decide +kernel) (by decide +kernel)
set_option maxRecDepth 20000 in
theorem gX11_startAnew_X5_forget : GoodIn wsX11_startAnew (wsV RX11 120 RX5 yX5_forget wsX5_forget) := goodIn_app (goodIn_of _ (by decide +kernel)) ggX11_startAnew_X5_forget
set_option maxRecDepth 20000 in
theorem ggX11_startAnew_J6_bitCount_0f7a4 : GoodIn wsX11_startAnew wsJ6_bitCount_0f7a4 := goodIn_r _ [126, 127, 128, 129] (by decide +kernel) (by decide +kernel)
set_option maxRecDepth 20000 in
theorem gX11_startAnew_J6_bitCount_0f7a4 : GoodIn wsX11_startAnew (va_wsS RX11 243 yJ6_bitCount_0f7a4 wsJ6_bitCount_0f7a4) := goodIn_app (goodIn_of _ (by decide +kernel)) ggX11_startAnew_J6_bitCount_0f7a4
set_option maxRecDepth 20000 in
theorem ggX11_startAnew_X8_begin : GoodIn wsX11_startAnew wsX8_begin := goodIn_r _ [133, 56, 57, 95, 96, 58, 59, 61, 156, 157, 158, 159, 160, 161, 162] (by decide +kernel) (by decide +kernel)
set_option maxRecDepth 20000 in
theorem gX11_startAnew_X8_begin : GoodIn wsX11_startAnew (wsV RX11 248 RX8 yX8_begin wsX8_begin) := goodIn_app (goodIn_of _ (by decide +kernel)) ggX11_startAnew_X8_begin
theorem dX11_startAnew_0 : decode cX11_startAnew 0 = .ok (.aload_n 0, 1) := by decide +kernel
theorem dX11_startAnew_1 : decode cX11_startAnew 1 = .ok (.getfield 33, 3) := by decide +kernel
theorem dX11_startAnew_4 : decode cX11_startAnew 4 = .ok (.aload_n 0, 1) := by decide +kernel
theorem dX11_startAnew_5 : decode cX11_startAnew 5 = .ok (.getfield 26, 3) := by decide +kernel
theorem dX11_startAnew_8 : decode cX11_startAnew 8 = .ok (.invokevirtual 133, 3) := by decide +kernel
theorem dX11_startAnew_11 : decode cX11_startAnew 11 = .ok (.aload_n 0, 1) := by decide +kernel
theorem dX11_startAnew_12 : decode cX11_startAnew 12 = .ok (.getfield 67, 3) := by decide +kernel
theorem dX11_startAnew_15 : decode cX11_startAnew 15 = .ok (.invokevirtual 120, 3) := by decide +kernel
theorem dX11_startAnew_18 : decode cX11_startAnew 18 = .ok (.aload_n 0, 1) := by decide +kernel
theorem dX11_startAnew_19 : decode cX11_startAnew 19 = .ok (.getfield 26, 3) := by decide +kernel
theorem dX11_startAnew_22 : decode cX11_startAnew 22 = .ok (.getfield 160, 3) := by decide +kernel
theorem dX11_startAnew_25 : decode cX11_startAnew 25 = .ok (.getfield 165, 3) := by decide +kernel
theorem dX11_startAnew_28 : decode cX11_startAnew 28 = .ok (.invokestatic 243, 3) := by decide +kernel
theorem dX11_startAnew_31 : decode cX11_startAnew 31 = .ok (.istore_n 3, 1) := by decide +kernel
theorem dX11_startAnew_32 : decode cX11_startAnew 32 = .ok (.aload_n 0, 1) := by decide +kernel
theorem dX11_startAnew_33 : decode cX11_startAnew 33 = .ok (.getfield 26, 3) := by decide +kernel
theorem dX11_startAnew_36 : decode cX11_startAnew 36 = .ok (.getfield 160, 3) := by decide +kernel
theorem dX11_startAnew_39 : decode cX11_startAnew 39 = .ok (.iload_n 1, 1) := by decide +kernel
theorem dX11_startAnew_40 : decode cX11_startAnew 40 = .ok (.iload_n 2, 1) := by decide +kernel
theorem dX11_startAnew_41 : decode cX11_startAnew 41 = .ok (.invokevirtual 248, 3) := by decide +kernel
theorem dX11_startAnew_44 : decode cX11_startAnew 44 = .ok (.aload_n 0, 1) := by decide +kernel
theorem dX11_startAnew_45 : decode cX11_startAnew 45 = .ok (.getfield 26, 3) := by decide +kernel
theorem dX11_startAnew_48 : decode cX11_startAnew 48 = .ok (.getfield 143, 3) := by decide +kernel
theorem dX11_startAnew_51 : decode cX11_startAnew 51 = .ok (.iconst 0, 1) := by decide +kernel
theorem dX11_startAnew_52 : decode cX11_startAnew 52 = .ok (.putfield 175, 3) := by decide +kernel
theorem dX11_startAnew_55 : decode cX11_startAnew 55 = .ok (.iload_n 3, 1) := by decide +kernel
theorem dX11_startAnew_56 : decode cX11_startAnew 56 = .ok (.ireturn, 1) := by decide +kernel
set_option maxRecDepth 20000 in
theorem ggX11_carry_X10_has : GoodIn wsX11_carry wsX10_has := goodIn_r _ [10, 11, 213, 214, 215, 216, 217] (by decide +kernel) (by decide +kernel)
set_option maxRecDepth 20000 in
theorem gX11_carry_X10_has : GoodIn wsX11_carry (wsV RX11 182 RX10 yX10_has wsX10_has) := goodIn_app (goodIn_of _ (by decide +kernel)) ggX11_carry_X10_has
set_option maxRecDepth 20000 in
theorem ggX11_carry_X2_newCall : GoodIn wsX11_carry wsX2_newCall := goodIn_r _ [16, 17, 218, 219, 220] (by decide +kernel) (by decide +kernel)
set_option maxRecDepth 20000 in
theorem gX11_carry_X2_newCall : GoodIn wsX11_carry (wsV RX11 137 RX2 yX2_newCall wsX2_newCall) := goodIn_app (goodIn_of _ (by decide +kernel)) ggX11_carry_X2_newCall
set_option maxRecDepth 20000 in
theorem ggX11_carry_X11_hindrance : GoodIn wsX11_carry wsX11_hindrance := goodIn_r _ [22, 1, 23, 2, 24, 25, 26, 27, 28, 29, 30, 31, 32, 33, 34, 35, 36, 191, 192, 193, 194, 195, 196, 197, 198, 199, 200, 201, 202, 203, 204, 205, 206, 207, 208, 209, 210, 211, 212, 213, 214, 215, 216, 217, 221, 222, 223, 224, 225, 226, 227] (by decide +kernel) (by decide +kernel)
set_option maxRecDepth 20000 in
theorem gX11_carry_X11_hindrance : GoodIn wsX11_carry (wsV RX11 251 RX11 yX11_hindrance wsX11_hindrance) := goodIn_app (goodIn_of _ (by decide +kernel)) ggX11_carry_X11_hindrance
set_option maxRecDepth 20000 in
theorem ggX11_carry_X2_pass : GoodIn wsX11_carry wsX2_pass := goodIn_r _ [40, 17, 41, 42, 218, 219, 220] (by decide +kernel) (by decide +kernel)
set_option maxRecDepth 20000 in
theorem gX11_carry_X2_pass : GoodIn wsX11_carry (wsV RX11 254 RX2 yX2_pass wsX2_pass) := goodIn_app (goodIn_of _ (by decide +kernel)) ggX11_carry_X2_pass
set_option maxRecDepth 20000 in
theorem ggX11_carry_X3_keep : GoodIn wsX11_carry wsX3_keep := goodIn_r _ [47, 48, 49, 50, 51, 52, 53, 54, 55, 56, 46, 57, 58, 59, 60, 61, 62, 63, 64, 65, 9, 66, 67, 68, 28, 69, 70, 71, 72, 73, 74, 75, 76, 77, 78, 79, 80, 81, 82, 83, 84, 85, 86, 87, 88, 35, 89, 90, 91, 92, 93, 94, 95, 96, 97, 98, 99, 100, 101, 102, 103, 104, 105, 106, 107, 108, 109, 110, 111, 112, 113, 114, 115, 116, 117, 11, 118, 119, 120, 121, 122, 123, 124, 125, 30, 36, 126, 127, 128, 129, 130, 131, 132, 133, 134, 135, 136, 137, 138, 139, 140, 141, 142, 143, 144, 228, 229, 230, 206, 207, 208, 209, 210, 211, 212, 213, 214, 215, 216, 217, 221, 222, 223, 224, 225, 226, 227, 231, 232, 233, 234, 235, 236, 237, 238, 239, 240, 241, 242, 243, 244, 245] (by decide +kernel) (by decide +kernel)
set_option maxRecDepth 20000 in
theorem gX11_carry_X3_keep : GoodIn wsX11_carry (wsV RX11 133 RX3 yX3_keep wsX3_keep) := goodIn_app (goodIn_of _ (by decide +kernel)) ggX11_carry_X3_keep
set_option maxRecDepth 20000 in
theorem ggX11_carry_X9_move : GoodIn wsX11_carry wsX9_move := goodIn_r _ [148, 149, 69, 66, 111, 150, 151, 26, 27, 28, 29, 30, 152, 153, 154, 155, 36, 156, 90, 157, 158, 159, 160, 161, 162, 163, 164, 165, 166, 167, 168, 169, 91, 170, 171, 172, 173, 9, 174, 82, 83, 175, 176, 177, 53, 178, 179, 112, 113, 75, 180, 181, 182, 38, 39, 15, 40, 17, 41, 42, 183, 184, 185, 77, 186, 137, 140, 139, 142, 141, 104, 105, 106, 143, 187, 188, 189, 190, 138, 246, 247, 248, 249, 206, 207, 208, 209, 210, 211, 212, 213, 214, 215, 216, 217, 221, 222, 223, 224, 225, 226, 227, 218, 219, 220, 236, 237, 238, 239, 240, 241, 242, 243, 244, 245] (by decide +kernel) (by decide +kernel)
set_option maxRecDepth 20000 in
theorem gX11_carry_X9_move : GoodIn wsX11_carry (wsV RX11 257 RX9 yX9_move wsX9_move) := goodIn_app (goodIn_of _ (by decide +kernel)) ggX11_carry_X9_move
theorem dX11_carry_0 : decode cX11_carry 0 = .ok (.aload_n 0, 1) := by decide +kernel
theorem dX11_carry_1 : decode cX11_carry 1 = .ok (.getfield 26, 3) := by decide +kernel
theorem dX11_carry_4 : decode cX11_carry 4 = .ok (.getfield 127, 3) := by decide +kernel
theorem dX11_carry_7 : decode cX11_carry 7 = .ok (.iload_n 1, 1) := by decide +kernel
theorem dX11_carry_8 : decode cX11_carry 8 = .ok (.invokevirtual 182, 3) := by decide +kernel
theorem dX11_carry_11 : decode cX11_carry 11 = .ok (.ifCond .eq 12, 3) := by decide +kernel
theorem dX11_carry_14 : decode cX11_carry 14 = .ok (.iload_n 2, 1) := by decide +kernel
theorem dX11_carry_15 : decode cX11_carry 15 = .ok (.ifCond .lt 8, 3) := by decide +kernel
theorem dX11_carry_18 : decode cX11_carry 18 = .ok (.iload_n 2, 1) := by decide +kernel
theorem dX11_carry_19 : decode cX11_carry 19 = .ok (.iconst 1, 1) := by decide +kernel
theorem dX11_carry_20 : decode cX11_carry 20 = .ok (.if_icmp .le 6, 3) := by decide +kernel
theorem dX11_carry_23 : decode cX11_carry 23 = .ok (.bipush (-2), 2) := by decide +kernel
theorem dX11_carry_25 : decode cX11_carry 25 = .ok (.ireturn, 1) := by decide +kernel
theorem dX11_carry_26 : decode cX11_carry 26 = .ok (.aload_n 0, 1) := by decide +kernel
theorem dX11_carry_27 : decode cX11_carry 27 = .ok (.getfield 44, 3) := by decide +kernel
theorem dX11_carry_30 : decode cX11_carry 30 = .ok (.invokevirtual 137, 3) := by decide +kernel
theorem dX11_carry_33 : decode cX11_carry 33 = .ok (.aload_n 0, 1) := by decide +kernel
theorem dX11_carry_34 : decode cX11_carry 34 = .ok (.iload_n 1, 1) := by decide +kernel
theorem dX11_carry_35 : decode cX11_carry 35 = .ok (.iload_n 2, 1) := by decide +kernel
theorem dX11_carry_36 : decode cX11_carry 36 = .ok (.invokevirtual 251, 3) := by decide +kernel
theorem dX11_carry_39 : decode cX11_carry 39 = .ok (.istore_n 3, 1) := by decide +kernel
theorem dX11_carry_40 : decode cX11_carry 40 = .ok (.iload_n 3, 1) := by decide +kernel
theorem dX11_carry_41 : decode cX11_carry 41 = .ok (.ifCond .eq 12, 3) := by decide +kernel
theorem dX11_carry_44 : decode cX11_carry 44 = .ok (.aload_n 0, 1) := by decide +kernel
theorem dX11_carry_45 : decode cX11_carry 45 = .ok (.getfield 44, 3) := by decide +kernel
theorem dX11_carry_48 : decode cX11_carry 48 = .ok (.invokevirtual 254, 3) := by decide +kernel
theorem dX11_carry_51 : decode cX11_carry 51 = .ok (.iload_n 3, 1) := by decide +kernel
theorem dX11_carry_52 : decode cX11_carry 52 = .ok (.ireturn, 1) := by decide +kernel
theorem dX11_carry_53 : decode cX11_carry 53 = .ok (.aload_n 0, 1) := by decide +kernel
theorem dX11_carry_54 : decode cX11_carry 54 = .ok (.getfield 33, 3) := by decide +kernel
theorem dX11_carry_57 : decode cX11_carry 57 = .ok (.aload_n 0, 1) := by decide +kernel
theorem dX11_carry_58 : decode cX11_carry 58 = .ok (.getfield 26, 3) := by decide +kernel
theorem dX11_carry_61 : decode cX11_carry 61 = .ok (.invokevirtual 133, 3) := by decide +kernel
theorem dX11_carry_64 : decode cX11_carry 64 = .ok (.aload_n 0, 1) := by decide +kernel
theorem dX11_carry_65 : decode cX11_carry 65 = .ok (.getfield 26, 3) := by decide +kernel
theorem dX11_carry_68 : decode cX11_carry 68 = .ok (.iload_n 1, 1) := by decide +kernel
theorem dX11_carry_69 : decode cX11_carry 69 = .ok (.aload_n 0, 1) := by decide +kernel
theorem dX11_carry_70 : decode cX11_carry 70 = .ok (.getfield 51, 3) := by decide +kernel
theorem dX11_carry_73 : decode cX11_carry 73 = .ok (.aload_n 0, 1) := by decide +kernel
theorem dX11_carry_74 : decode cX11_carry 74 = .ok (.getfield 44, 3) := by decide +kernel
theorem dX11_carry_77 : decode cX11_carry 77 = .ok (.invokevirtual 257, 3) := by decide +kernel
theorem dX11_carry_80 : decode cX11_carry 80 = .ok (.iconst 0, 1) := by decide +kernel
theorem dX11_carry_81 : decode cX11_carry 81 = .ok (.ireturn, 1) := by decide +kernel
set_option maxRecDepth 20000 in
theorem ggX11_hindrance_X8_holds : GoodIn wsX11_hindrance wsX8_holds := goodIn_r _ [9, 10, 44, 45, 46, 47, 48, 49, 50] (by decide +kernel) (by decide +kernel)
set_option maxRecDepth 20000 in
theorem gX11_hindrance_X8_holds : GoodIn wsX11_hindrance (wsV RX11 208 RX8 yX8_holds wsX8_holds) := goodIn_app (goodIn_of _ (by decide +kernel)) ggX11_hindrance_X8_holds
set_option maxRecDepth 20000 in
theorem ggX11_hindrance_X8_free : GoodIn wsX11_hindrance wsX8_free := goodIn_r _ [14, 15, 16, 44, 45, 46, 47, 48, 49, 50] (by decide +kernel) (by decide +kernel)
set_option maxRecDepth 20000 in
theorem gX11_hindrance_X8_free : GoodIn wsX11_hindrance (wsV RX11 168 RX8 yX8_free wsX8_free) := goodIn_app (goodIn_of _ (by decide +kernel)) ggX11_hindrance_X8_free
theorem dX11_hindrance_0 : decode cX11_hindrance 0 = .ok (.aload_n 0, 1) := by decide +kernel
theorem dX11_hindrance_1 : decode cX11_hindrance 1 = .ok (.getfield 26, 3) := by decide +kernel
theorem dX11_hindrance_4 : decode cX11_hindrance 4 = .ok (.getfield 160, 3) := by decide +kernel
theorem dX11_hindrance_7 : decode cX11_hindrance 7 = .ok (.iload_n 1, 1) := by decide +kernel
theorem dX11_hindrance_8 : decode cX11_hindrance 8 = .ok (.invokevirtual 208, 3) := by decide +kernel
theorem dX11_hindrance_11 : decode cX11_hindrance 11 = .ok (.iload_n 2, 1) := by decide +kernel
theorem dX11_hindrance_12 : decode cX11_hindrance 12 = .ok (.iconst 1, 1) := by decide +kernel
theorem dX11_hindrance_13 : decode cX11_hindrance 13 = .ok (.if_icmp .ne 7, 3) := by decide +kernel
theorem dX11_hindrance_16 : decode cX11_hindrance 16 = .ok (.iconst 1, 1) := by decide +kernel
theorem dX11_hindrance_17 : decode cX11_hindrance 17 = .ok (.goto 4, 3) := by decide +kernel
theorem dX11_hindrance_20 : decode cX11_hindrance 20 = .ok (.iconst 0, 1) := by decide +kernel
theorem dX11_hindrance_21 : decode cX11_hindrance 21 = .ok (.if_icmp .ne 5, 3) := by decide +kernel
theorem dX11_hindrance_24 : decode cX11_hindrance 24 = .ok (.iconst 1, 1) := by decide +kernel
theorem dX11_hindrance_25 : decode cX11_hindrance 25 = .ok (.ireturn, 1) := by decide +kernel
theorem dX11_hindrance_26 : decode cX11_hindrance 26 = .ok (.iload_n 2, 1) := by decide +kernel
theorem dX11_hindrance_27 : decode cX11_hindrance 27 = .ok (.iconst 1, 1) := by decide +kernel
theorem dX11_hindrance_28 : decode cX11_hindrance 28 = .ok (.if_icmp .ne 32, 3) := by decide +kernel
theorem dX11_hindrance_31 : decode cX11_hindrance 31 = .ok (.aload_n 0, 1) := by decide +kernel
theorem dX11_hindrance_32 : decode cX11_hindrance 32 = .ok (.getfield 26, 3) := by decide +kernel
theorem dX11_hindrance_35 : decode cX11_hindrance 35 = .ok (.getfield 127, 3) := by decide +kernel
theorem dX11_hindrance_38 : decode cX11_hindrance 38 = .ok (.getfield 185, 3) := by decide +kernel
theorem dX11_hindrance_41 : decode cX11_hindrance 41 = .ok (.iload_n 1, 1) := by decide +kernel
theorem dX11_hindrance_42 : decode cX11_hindrance 42 = .ok (.iaload, 1) := by decide +kernel
theorem dX11_hindrance_43 : decode cX11_hindrance 43 = .ok (.aload_n 0, 1) := by decide +kernel
theorem dX11_hindrance_44 : decode cX11_hindrance 44 = .ok (.getfield 26, 3) := by decide +kernel
theorem dX11_hindrance_47 : decode cX11_hindrance 47 = .ok (.getfield 160, 3) := by decide +kernel
theorem dX11_hindrance_50 : decode cX11_hindrance 50 = .ok (.invokevirtual 168, 3) := by decide +kernel
theorem dX11_hindrance_53 : decode cX11_hindrance 53 = .ok (.if_icmp .le 7, 3) := by decide +kernel
theorem dX11_hindrance_56 : decode cX11_hindrance 56 = .ok (.iconst 2, 1) := by decide +kernel
theorem dX11_hindrance_57 : decode cX11_hindrance 57 = .ok (.goto 4, 3) := by decide +kernel
theorem dX11_hindrance_60 : decode cX11_hindrance 60 = .ok (.iconst 0, 1) := by decide +kernel
theorem dX11_hindrance_61 : decode cX11_hindrance 61 = .ok (.ireturn, 1) := by decide +kernel
theorem dX11_gate_0 : decode cX11_gate 0 = .ok (.iload_n 1, 1) := by decide +kernel
theorem dX11_gate_1 : decode cX11_gate 1 = .ok (.ifCond .lt 26, 3) := by decide +kernel
theorem dX11_gate_4 : decode cX11_gate 4 = .ok (.iload_n 1, 1) := by decide +kernel
theorem dX11_gate_5 : decode cX11_gate 5 = .ok (.aload_n 0, 1) := by decide +kernel
theorem dX11_gate_6 : decode cX11_gate 6 = .ok (.getfield 44, 3) := by decide +kernel
theorem dX11_gate_9 : decode cX11_gate 9 = .ok (.getfield 261, 3) := by decide +kernel
theorem dX11_gate_12 : decode cX11_gate 12 = .ok (.if_icmp .ge 15, 3) := by decide +kernel
theorem dX11_gate_15 : decode cX11_gate 15 = .ok (.aload_n 0, 1) := by decide +kernel
theorem dX11_gate_16 : decode cX11_gate 16 = .ok (.getfield 44, 3) := by decide +kernel
theorem dX11_gate_19 : decode cX11_gate 19 = .ok (.getfield 262, 3) := by decide +kernel
theorem dX11_gate_22 : decode cX11_gate 22 = .ok (.iload_n 1, 1) := by decide +kernel
theorem dX11_gate_23 : decode cX11_gate 23 = .ok (.iaload, 1) := by decide +kernel
theorem dX11_gate_24 : decode cX11_gate 24 = .ok (.goto 4, 3) := by decide +kernel
theorem dX11_gate_27 : decode cX11_gate 27 = .ok (.iconst (-1), 1) := by decide +kernel
theorem dX11_gate_28 : decode cX11_gate 28 = .ok (.ireturn, 1) := by decide +kernel
set_option maxRecDepth 20000 in
theorem ggX11_rides_X11_canShift : GoodIn wsX11_rides wsX11_canShift := goodIn_r _ [10, 2, 3, 11, 4, 12, 13, 14, 59, 60, 61, 62, 63, 64, 65, 66, 67, 68, 69, 70, 71, 72, 73, 74, 75, 76, 77, 78, 79, 80, 88, 89, 90, 91, 92, 93, 94, 95, 96, 97, 98, 99] (by decide +kernel) (by decide +kernel)
set_option maxRecDepth 20000 in
theorem gX11_rides_X11_canShift : GoodIn wsX11_rides (wsV RX11 265 RX11 yX11_canShift wsX11_canShift) := goodIn_app (goodIn_of _ (by decide +kernel)) ggX11_rides_X11_canShift
set_option maxRecDepth 20000 in
theorem ggX11_rides_X7_find : GoodIn wsX11_rides wsX7_find := goodIn_r _ [19, 20, 21, 22, 23, 24, 25, 26, 27, 28, 29, 30, 31, 32, 33, 34, 35, 36, 37, 38, 18, 39, 40, 41, 42, 43, 44, 45, 46, 47, 48, 49, 50, 51, 52, 53, 54, 55, 56, 57, 58, 81, 82, 83, 84, 85, 86, 87, 93, 94, 95, 96, 97, 98, 99, 88, 89, 90, 91, 92] (by decide +kernel) (by decide +kernel)
set_option maxRecDepth 20000 in
theorem gX11_rides_X7_find : GoodIn wsX11_rides (wsV RX11 269 RX7 yX7_find wsX7_find) := goodIn_app (goodIn_of _ (by decide +kernel)) ggX11_rides_X7_find
theorem dX11_rides_0 : decode cX11_rides 0 = .ok (.aload_n 0, 1) := by decide +kernel
theorem dX11_rides_1 : decode cX11_rides 1 = .ok (.iload_n 1, 1) := by decide +kernel
theorem dX11_rides_2 : decode cX11_rides 2 = .ok (.iload_n 2, 1) := by decide +kernel
theorem dX11_rides_3 : decode cX11_rides 3 = .ok (.invokevirtual 265, 3) := by decide +kernel
theorem dX11_rides_6 : decode cX11_rides 6 = .ok (.ifCond .ne 5, 3) := by decide +kernel
theorem dX11_rides_9 : decode cX11_rides 9 = .ok (.iconst (-1), 1) := by decide +kernel
theorem dX11_rides_10 : decode cX11_rides 10 = .ok (.ireturn, 1) := by decide +kernel
theorem dX11_rides_11 : decode cX11_rides 11 = .ok (.aload_n 0, 1) := by decide +kernel
theorem dX11_rides_12 : decode cX11_rides 12 = .ok (.getfield 77, 3) := by decide +kernel
theorem dX11_rides_15 : decode cX11_rides 15 = .ok (.aload_n 0, 1) := by decide +kernel
theorem dX11_rides_16 : decode cX11_rides 16 = .ok (.getfield 26, 3) := by decide +kernel
theorem dX11_rides_19 : decode cX11_rides 19 = .ok (.getfield 127, 3) := by decide +kernel
theorem dX11_rides_22 : decode cX11_rides 22 = .ok (.aload_n 0, 1) := by decide +kernel
theorem dX11_rides_23 : decode cX11_rides 23 = .ok (.getfield 26, 3) := by decide +kernel
theorem dX11_rides_26 : decode cX11_rides 26 = .ok (.getfield 160, 3) := by decide +kernel
theorem dX11_rides_29 : decode cX11_rides 29 = .ok (.iload_n 1, 1) := by decide +kernel
theorem dX11_rides_30 : decode cX11_rides 30 = .ok (.iload_n 2, 1) := by decide +kernel
theorem dX11_rides_31 : decode cX11_rides 31 = .ok (.invokevirtual 269, 3) := by decide +kernel
theorem dX11_rides_34 : decode cX11_rides 34 = .ok (.aload_n 0, 1) := by decide +kernel
theorem dX11_rides_35 : decode cX11_rides 35 = .ok (.getfield 77, 3) := by decide +kernel
theorem dX11_rides_38 : decode cX11_rides 38 = .ok (.getfield 273, 3) := by decide +kernel
theorem dX11_rides_41 : decode cX11_rides 41 = .ok (.ireturn, 1) := by decide +kernel
theorem dX11_ride_0 : decode cX11_ride 0 = .ok (.iload_n 1, 1) := by decide +kernel
theorem dX11_ride_1 : decode cX11_ride 1 = .ok (.ifCond .lt 26, 3) := by decide +kernel
theorem dX11_ride_4 : decode cX11_ride 4 = .ok (.iload_n 1, 1) := by decide +kernel
theorem dX11_ride_5 : decode cX11_ride 5 = .ok (.aload_n 0, 1) := by decide +kernel
theorem dX11_ride_6 : decode cX11_ride 6 = .ok (.getfield 77, 3) := by decide +kernel
theorem dX11_ride_9 : decode cX11_ride 9 = .ok (.getfield 273, 3) := by decide +kernel
theorem dX11_ride_12 : decode cX11_ride 12 = .ok (.if_icmp .ge 15, 3) := by decide +kernel
theorem dX11_ride_15 : decode cX11_ride 15 = .ok (.aload_n 0, 1) := by decide +kernel
theorem dX11_ride_16 : decode cX11_ride 16 = .ok (.getfield 77, 3) := by decide +kernel
theorem dX11_ride_19 : decode cX11_ride 19 = .ok (.getfield 274, 3) := by decide +kernel
theorem dX11_ride_22 : decode cX11_ride 22 = .ok (.iload_n 1, 1) := by decide +kernel
theorem dX11_ride_23 : decode cX11_ride 23 = .ok (.iaload, 1) := by decide +kernel
theorem dX11_ride_24 : decode cX11_ride 24 = .ok (.goto 4, 3) := by decide +kernel
theorem dX11_ride_27 : decode cX11_ride 27 = .ok (.iconst (-1), 1) := by decide +kernel
theorem dX11_ride_28 : decode cX11_ride 28 = .ok (.ireturn, 1) := by decide +kernel
set_option maxRecDepth 20000 in
theorem ggX11_shift_X11_canShift : GoodIn wsX11_shift wsX11_canShift := goodIn_r _ [14, 1, 5, 15, 2, 3, 16, 17, 234, 235, 236, 237, 238, 239, 240, 241, 242, 243, 244, 245, 246, 247, 248, 249, 250, 251, 252, 253, 254, 255, 270, 271, 272, 273, 274, 256, 257, 258, 259, 260, 261, 262] (by decide +kernel) (by decide +kernel)
set_option maxRecDepth 20000 in
theorem gX11_shift_X11_canShift : GoodIn wsX11_shift (wsV RX11 265 RX11 yX11_canShift wsX11_canShift) := goodIn_app (goodIn_of _ (by decide +kernel)) ggX11_shift_X11_canShift
set_option maxRecDepth 20000 in
theorem ggX11_shift_X7_find : GoodIn wsX11_shift wsX7_find := goodIn_r _ [22, 23, 24, 25, 26, 27, 28, 29, 30, 31, 32, 33, 34, 35, 36, 37, 38, 39, 40, 41, 21, 42, 43, 44, 45, 46, 47, 48, 49, 50, 51, 52, 53, 54, 55, 56, 57, 58, 59, 60, 61, 263, 264, 265, 266, 267, 268, 269, 256, 257, 258, 259, 260, 261, 262, 270, 271, 272, 273, 274] (by decide +kernel) (by decide +kernel)
set_option maxRecDepth 20000 in
theorem gX11_shift_X7_find : GoodIn wsX11_shift (wsV RX11 269 RX7 yX7_find wsX7_find) := goodIn_app (goodIn_of _ (by decide +kernel)) ggX11_shift_X7_find
set_option maxRecDepth 20000 in
theorem ggX11_shift_X3_keep : GoodIn wsX11_shift wsX3_keep := goodIn_r _ [66, 67, 68, 69, 70, 71, 72, 73, 74, 75, 65, 76, 77, 78, 79, 80, 81, 82, 83, 84, 36, 85, 86, 87, 88, 89, 90, 91, 92, 93, 94, 95, 96, 97, 98, 99, 100, 101, 102, 103, 104, 105, 106, 107, 108, 109, 110, 111, 112, 113, 114, 115, 116, 117, 118, 119, 120, 121, 122, 123, 124, 125, 126, 127, 128, 129, 130, 131, 132, 133, 134, 135, 136, 137, 138, 38, 139, 140, 141, 142, 143, 144, 145, 146, 147, 148, 149, 150, 151, 152, 153, 154, 155, 156, 157, 158, 159, 160, 161, 162, 163, 164, 165, 166, 167, 275, 276, 277, 249, 250, 251, 252, 253, 254, 255, 270, 271, 272, 273, 274, 256, 257, 258, 259, 260, 261, 262, 278, 279, 280, 281, 282, 283, 284, 285, 286, 287, 288, 289, 290, 291, 292] (by decide +kernel) (by decide +kernel)
set_option maxRecDepth 20000 in
theorem gX11_shift_X3_keep : GoodIn wsX11_shift (wsV RX11 133 RX3 yX3_keep wsX3_keep) := goodIn_app (goodIn_of _ (by decide +kernel)) ggX11_shift_X3_keep
set_option maxRecDepth 20000 in
theorem ggX11_shift_X2_newCall : GoodIn wsX11_shift wsX2_newCall := goodIn_r _ [172, 173, 293, 294, 295] (by decide +kernel) (by decide +kernel)
set_option maxRecDepth 20000 in
theorem gX11_shift_X2_newCall : GoodIn wsX11_shift (wsV RX11 137 RX2 yX2_newCall wsX2_newCall) := goodIn_app (goodIn_of _ (by decide +kernel)) ggX11_shift_X2_newCall
set_option maxRecDepth 20000 in
theorem ggX11_shift_X11_moveAll : GoodIn wsX11_shift wsX11_moveAll := goodIn_r _ [177, 1, 5, 15, 178, 7, 179, 180, 181, 72, 182, 183, 89, 85, 132, 184, 185, 186, 187, 88, 188, 147, 189, 190, 191, 192, 148, 193, 111, 194, 195, 196, 197, 198, 199, 200, 201, 202, 203, 204, 205, 206, 112, 207, 208, 209, 210, 36, 211, 102, 103, 212, 213, 214, 215, 216, 133, 134, 95, 217, 218, 219, 220, 221, 171, 222, 173, 223, 224, 225, 226, 227, 97, 228, 160, 163, 162, 165, 164, 125, 126, 127, 166, 229, 230, 231, 232, 161, 234, 235, 236, 237, 238, 239, 240, 241, 242, 243, 244, 245, 246, 247, 248, 249, 250, 251, 252, 253, 254, 255, 270, 271, 272, 273, 274, 296, 297, 298, 299, 256, 257, 258, 259, 260, 261, 262, 293, 294, 295, 283, 284, 285, 286, 287, 288, 289, 290, 291, 292] (by decide +kernel) (by decide +kernel)
set_option maxRecDepth 20000 in
theorem gX11_shift_X11_moveAll : GoodIn wsX11_shift (wsV RX11 277 RX11 yX11_moveAll wsX11_moveAll) := goodIn_app (goodIn_of _ (by decide +kernel)) ggX11_shift_X11_moveAll
set_option maxRecDepth 20000 in
theorem ggX11_shift_J6_bitCount_0f7a4 : GoodIn wsX11_shift wsJ6_bitCount_0f7a4 := goodIn_r _ [50, 51, 52, 53] (by decide +kernel) (by decide +kernel)
set_option maxRecDepth 20000 in
theorem gX11_shift_J6_bitCount_0f7a4 : GoodIn wsX11_shift (va_wsS RX11 243 yJ6_bitCount_0f7a4 wsJ6_bitCount_0f7a4) := goodIn_app (goodIn_of _ (by decide +kernel)) ggX11_shift_J6_bitCount_0f7a4
theorem dX11_shift_0 : decode cX11_shift 0 = .ok (.aload_n 0, 1) := by decide +kernel
theorem dX11_shift_1 : decode cX11_shift 1 = .ok (.iload_n 1, 1) := by decide +kernel
theorem dX11_shift_2 : decode cX11_shift 2 = .ok (.iload_n 2, 1) := by decide +kernel
theorem dX11_shift_3 : decode cX11_shift 3 = .ok (.invokevirtual 265, 3) := by decide +kernel
theorem dX11_shift_6 : decode cX11_shift 6 = .ok (.ifCond .ne 5, 3) := by decide +kernel
theorem dX11_shift_9 : decode cX11_shift 9 = .ok (.iconst (-1), 1) := by decide +kernel
theorem dX11_shift_10 : decode cX11_shift 10 = .ok (.ireturn, 1) := by decide +kernel
theorem dX11_shift_11 : decode cX11_shift 11 = .ok (.aload_n 0, 1) := by decide +kernel
theorem dX11_shift_12 : decode cX11_shift 12 = .ok (.getfield 26, 3) := by decide +kernel
theorem dX11_shift_15 : decode cX11_shift 15 = .ok (.getfield 160, 3) := by decide +kernel
theorem dX11_shift_18 : decode cX11_shift 18 = .ok (.getfield 165, 3) := by decide +kernel
theorem dX11_shift_21 : decode cX11_shift 21 = .ok (.istore_n 3, 1) := by decide +kernel
theorem dX11_shift_22 : decode cX11_shift 22 = .ok (.iload_n 1, 1) := by decide +kernel
theorem dX11_shift_23 : decode cX11_shift 23 = .ok (.iload_n 3, 1) := by decide +kernel
theorem dX11_shift_24 : decode cX11_shift 24 = .ok (.if_icmp .ne 5, 3) := by decide +kernel
theorem dX11_shift_27 : decode cX11_shift 27 = .ok (.iconst 0, 1) := by decide +kernel
theorem dX11_shift_28 : decode cX11_shift 28 = .ok (.ireturn, 1) := by decide +kernel
theorem dX11_shift_29 : decode cX11_shift 29 = .ok (.aload_n 0, 1) := by decide +kernel
theorem dX11_shift_30 : decode cX11_shift 30 = .ok (.getfield 81, 3) := by decide +kernel
theorem dX11_shift_33 : decode cX11_shift 33 = .ok (.aload_n 0, 1) := by decide +kernel
theorem dX11_shift_34 : decode cX11_shift 34 = .ok (.getfield 26, 3) := by decide +kernel
theorem dX11_shift_37 : decode cX11_shift 37 = .ok (.getfield 127, 3) := by decide +kernel
theorem dX11_shift_40 : decode cX11_shift 40 = .ok (.aload_n 0, 1) := by decide +kernel
theorem dX11_shift_41 : decode cX11_shift 41 = .ok (.getfield 26, 3) := by decide +kernel
theorem dX11_shift_44 : decode cX11_shift 44 = .ok (.getfield 160, 3) := by decide +kernel
theorem dX11_shift_47 : decode cX11_shift 47 = .ok (.iload_n 1, 1) := by decide +kernel
theorem dX11_shift_48 : decode cX11_shift 48 = .ok (.iload_n 2, 1) := by decide +kernel
theorem dX11_shift_49 : decode cX11_shift 49 = .ok (.invokevirtual 269, 3) := by decide +kernel
theorem dX11_shift_52 : decode cX11_shift 52 = .ok (.aload_n 0, 1) := by decide +kernel
theorem dX11_shift_53 : decode cX11_shift 53 = .ok (.getfield 33, 3) := by decide +kernel
theorem dX11_shift_56 : decode cX11_shift 56 = .ok (.aload_n 0, 1) := by decide +kernel
theorem dX11_shift_57 : decode cX11_shift 57 = .ok (.getfield 26, 3) := by decide +kernel
theorem dX11_shift_60 : decode cX11_shift 60 = .ok (.invokevirtual 133, 3) := by decide +kernel
theorem dX11_shift_63 : decode cX11_shift 63 = .ok (.aload_n 0, 1) := by decide +kernel
theorem dX11_shift_64 : decode cX11_shift 64 = .ok (.getfield 44, 3) := by decide +kernel
theorem dX11_shift_67 : decode cX11_shift 67 = .ok (.invokevirtual 137, 3) := by decide +kernel
theorem dX11_shift_70 : decode cX11_shift 70 = .ok (.iconst 0, 1) := by decide +kernel
theorem dX11_shift_71 : decode cX11_shift 71 = .ok (.istore 4, 2) := by decide +kernel
theorem dX11_shift_73 : decode cX11_shift 73 = .ok (.iload 4, 2) := by decide +kernel
theorem dX11_shift_75 : decode cX11_shift 75 = .ok (.aload_n 0, 1) := by decide +kernel
theorem dX11_shift_76 : decode cX11_shift 76 = .ok (.getfield 81, 3) := by decide +kernel
theorem dX11_shift_79 : decode cX11_shift 79 = .ok (.getfield 273, 3) := by decide +kernel
theorem dX11_shift_82 : decode cX11_shift 82 = .ok (.if_icmp .ge 41, 3) := by decide +kernel
theorem dX11_shift_85 : decode cX11_shift 85 = .ok (.aload_n 0, 1) := by decide +kernel
theorem dX11_shift_86 : decode cX11_shift 86 = .ok (.aload_n 0, 1) := by decide +kernel
theorem dX11_shift_87 : decode cX11_shift 87 = .ok (.getfield 81, 3) := by decide +kernel
theorem dX11_shift_90 : decode cX11_shift 90 = .ok (.getfield 274, 3) := by decide +kernel
theorem dX11_shift_93 : decode cX11_shift 93 = .ok (.iload 4, 2) := by decide +kernel
theorem dX11_shift_95 : decode cX11_shift 95 = .ok (.iaload, 1) := by decide +kernel
theorem dX11_shift_96 : decode cX11_shift 96 = .ok (.iload_n 3, 1) := by decide +kernel
theorem dX11_shift_97 : decode cX11_shift 97 = .ok (.iand, 1) := by decide +kernel
theorem dX11_shift_98 : decode cX11_shift 98 = .ok (.invokevirtual 277, 3) := by decide +kernel
theorem dX11_shift_101 : decode cX11_shift 101 = .ok (.aload_n 0, 1) := by decide +kernel
theorem dX11_shift_102 : decode cX11_shift 102 = .ok (.aload_n 0, 1) := by decide +kernel
theorem dX11_shift_103 : decode cX11_shift 103 = .ok (.getfield 81, 3) := by decide +kernel
theorem dX11_shift_106 : decode cX11_shift 106 = .ok (.getfield 274, 3) := by decide +kernel
theorem dX11_shift_109 : decode cX11_shift 109 = .ok (.iload 4, 2) := by decide +kernel
theorem dX11_shift_111 : decode cX11_shift 111 = .ok (.iaload, 1) := by decide +kernel
theorem dX11_shift_112 : decode cX11_shift 112 = .ok (.iload_n 1, 1) := by decide +kernel
theorem dX11_shift_113 : decode cX11_shift 113 = .ok (.iand, 1) := by decide +kernel
theorem dX11_shift_114 : decode cX11_shift 114 = .ok (.invokevirtual 277, 3) := by decide +kernel
theorem dX11_shift_117 : decode cX11_shift 117 = .ok (.iinc 4 1, 3) := by decide +kernel
theorem dX11_shift_120 : decode cX11_shift 120 = .ok (.goto (-47), 3) := by decide +kernel
theorem dX11_shift_123 : decode cX11_shift 123 = .ok (.iload_n 3, 1) := by decide +kernel
theorem dX11_shift_124 : decode cX11_shift 124 = .ok (.iload_n 1, 1) := by decide +kernel
theorem dX11_shift_125 : decode cX11_shift 125 = .ok (.ixor, 1) := by decide +kernel
theorem dX11_shift_126 : decode cX11_shift 126 = .ok (.invokestatic 243, 3) := by decide +kernel
theorem dX11_shift_129 : decode cX11_shift 129 = .ok (.ireturn, 1) := by decide +kernel
set_option maxRecDepth 20000 in
theorem ggX11_moveAll_X9_move : GoodIn wsX11_moveAll wsX9_move := goodIn_r _ [10, 11, 12, 13, 14, 15, 16, 17, 18, 19, 20, 21, 22, 23, 24, 25, 26, 27, 28, 29, 30, 31, 32, 33, 34, 35, 36, 37, 38, 39, 40, 41, 42, 43, 44, 45, 46, 47, 48, 49, 50, 51, 52, 53, 9, 54, 55, 56, 57, 58, 59, 60, 61, 62, 63, 64, 65, 66, 67, 68, 69, 70, 71, 72, 73, 74, 75, 76, 77, 78, 79, 80, 81, 82, 83, 84, 85, 86, 87, 115, 116, 117, 118, 103, 104, 105, 106, 107, 108, 109, 110, 111, 112, 113, 114, 119, 120, 121, 122, 123, 124, 125, 126, 127, 128, 129, 130, 131, 132, 133, 134, 135, 136, 137, 138] (by decide +kernel) (by decide +kernel)
set_option maxRecDepth 20000 in
theorem gX11_moveAll_X9_move : GoodIn wsX11_moveAll (wsV RX11 257 RX9 yX9_move wsX9_move) := goodIn_app (goodIn_of _ (by decide +kernel)) ggX11_moveAll_X9_move
theorem dX11_moveAll_0 : decode cX11_moveAll 0 = .ok (.iconst 0, 1) := by decide +kernel
theorem dX11_moveAll_1 : decode cX11_moveAll 1 = .ok (.istore_n 2, 1) := by decide +kernel
theorem dX11_moveAll_2 : decode cX11_moveAll 2 = .ok (.iload_n 2, 1) := by decide +kernel
theorem dX11_moveAll_3 : decode cX11_moveAll 3 = .ok (.aload_n 0, 1) := by decide +kernel
theorem dX11_moveAll_4 : decode cX11_moveAll 4 = .ok (.getfield 26, 3) := by decide +kernel
theorem dX11_moveAll_7 : decode cX11_moveAll 7 = .ok (.getfield 127, 3) := by decide +kernel
theorem dX11_moveAll_10 : decode cX11_moveAll 10 = .ok (.getfield 121, 3) := by decide +kernel
theorem dX11_moveAll_13 : decode cX11_moveAll 13 = .ok (.if_icmp .ge 34, 3) := by decide +kernel
theorem dX11_moveAll_16 : decode cX11_moveAll 16 = .ok (.iload_n 1, 1) := by decide +kernel
theorem dX11_moveAll_17 : decode cX11_moveAll 17 = .ok (.iload_n 2, 1) := by decide +kernel
theorem dX11_moveAll_18 : decode cX11_moveAll 18 = .ok (.ishr, 1) := by decide +kernel
theorem dX11_moveAll_19 : decode cX11_moveAll 19 = .ok (.iconst 1, 1) := by decide +kernel
theorem dX11_moveAll_20 : decode cX11_moveAll 20 = .ok (.iand, 1) := by decide +kernel
theorem dX11_moveAll_21 : decode cX11_moveAll 21 = .ok (.iconst 1, 1) := by decide +kernel
theorem dX11_moveAll_22 : decode cX11_moveAll 22 = .ok (.if_icmp .ne 19, 3) := by decide +kernel
theorem dX11_moveAll_25 : decode cX11_moveAll 25 = .ok (.aload_n 0, 1) := by decide +kernel
theorem dX11_moveAll_26 : decode cX11_moveAll 26 = .ok (.getfield 26, 3) := by decide +kernel
theorem dX11_moveAll_29 : decode cX11_moveAll 29 = .ok (.iload_n 2, 1) := by decide +kernel
theorem dX11_moveAll_30 : decode cX11_moveAll 30 = .ok (.aload_n 0, 1) := by decide +kernel
theorem dX11_moveAll_31 : decode cX11_moveAll 31 = .ok (.getfield 51, 3) := by decide +kernel
theorem dX11_moveAll_34 : decode cX11_moveAll 34 = .ok (.aload_n 0, 1) := by decide +kernel
theorem dX11_moveAll_35 : decode cX11_moveAll 35 = .ok (.getfield 44, 3) := by decide +kernel
theorem dX11_moveAll_38 : decode cX11_moveAll 38 = .ok (.invokevirtual 257, 3) := by decide +kernel
theorem dX11_moveAll_41 : decode cX11_moveAll 41 = .ok (.iinc 2 1, 3) := by decide +kernel
theorem dX11_moveAll_44 : decode cX11_moveAll 44 = .ok (.goto (-42), 3) := by decide +kernel
theorem dX11_moveAll_47 : decode cX11_moveAll 47 = .ok (.return_, 1) := by decide +kernel
theorem dX11_canShift_0 : decode cX11_canShift 0 = .ok (.iload_n 2, 1) := by decide +kernel
theorem dX11_canShift_1 : decode cX11_canShift 1 = .ok (.iconst 1, 1) := by decide +kernel
theorem dX11_canShift_2 : decode cX11_canShift 2 = .ok (.if_icmp .lt 29, 3) := by decide +kernel
theorem dX11_canShift_5 : decode cX11_canShift 5 = .ok (.iload_n 2, 1) := by decide +kernel
theorem dX11_canShift_6 : decode cX11_canShift 6 = .ok (.bipush 40, 2) := by decide +kernel
theorem dX11_canShift_8 : decode cX11_canShift 8 = .ok (.if_icmp .gt 23, 3) := by decide +kernel
theorem dX11_canShift_11 : decode cX11_canShift 11 = .ok (.iload_n 1, 1) := by decide +kernel
theorem dX11_canShift_12 : decode cX11_canShift 12 = .ok (.ifCond .lt 19, 3) := by decide +kernel
theorem dX11_canShift_15 : decode cX11_canShift 15 = .ok (.iload_n 1, 1) := by decide +kernel
theorem dX11_canShift_16 : decode cX11_canShift 16 = .ok (.iconst 1, 1) := by decide +kernel
theorem dX11_canShift_17 : decode cX11_canShift 17 = .ok (.aload_n 0, 1) := by decide +kernel
theorem dX11_canShift_18 : decode cX11_canShift 18 = .ok (.getfield 26, 3) := by decide +kernel
theorem dX11_canShift_21 : decode cX11_canShift 21 = .ok (.getfield 127, 3) := by decide +kernel
theorem dX11_canShift_24 : decode cX11_canShift 24 = .ok (.getfield 121, 3) := by decide +kernel
theorem dX11_canShift_27 : decode cX11_canShift 27 = .ok (.ishl, 1) := by decide +kernel
theorem dX11_canShift_28 : decode cX11_canShift 28 = .ok (.if_icmp .lt 5, 3) := by decide +kernel
theorem dX11_canShift_31 : decode cX11_canShift 31 = .ok (.iconst 0, 1) := by decide +kernel
theorem dX11_canShift_32 : decode cX11_canShift 32 = .ok (.ireturn, 1) := by decide +kernel
theorem dX11_canShift_33 : decode cX11_canShift 33 = .ok (.aload_n 0, 1) := by decide +kernel
theorem dX11_canShift_34 : decode cX11_canShift 34 = .ok (.getfield 26, 3) := by decide +kernel
theorem dX11_canShift_37 : decode cX11_canShift 37 = .ok (.getfield 160, 3) := by decide +kernel
theorem dX11_canShift_40 : decode cX11_canShift 40 = .ok (.getfield 165, 3) := by decide +kernel
theorem dX11_canShift_43 : decode cX11_canShift 43 = .ok (.iload_n 1, 1) := by decide +kernel
theorem dX11_canShift_44 : decode cX11_canShift 44 = .ok (.ixor, 1) := by decide +kernel
theorem dX11_canShift_45 : decode cX11_canShift 45 = .ok (.istore_n 3, 1) := by decide +kernel
theorem dX11_canShift_46 : decode cX11_canShift 46 = .ok (.iconst 0, 1) := by decide +kernel
theorem dX11_canShift_47 : decode cX11_canShift 47 = .ok (.istore 4, 2) := by decide +kernel
theorem dX11_canShift_49 : decode cX11_canShift 49 = .ok (.iconst 0, 1) := by decide +kernel
theorem dX11_canShift_50 : decode cX11_canShift 50 = .ok (.istore 5, 2) := by decide +kernel
theorem dX11_canShift_52 : decode cX11_canShift 52 = .ok (.iload 5, 2) := by decide +kernel
theorem dX11_canShift_54 : decode cX11_canShift 54 = .ok (.aload_n 0, 1) := by decide +kernel
theorem dX11_canShift_55 : decode cX11_canShift 55 = .ok (.getfield 26, 3) := by decide +kernel
theorem dX11_canShift_58 : decode cX11_canShift 58 = .ok (.getfield 127, 3) := by decide +kernel
theorem dX11_canShift_61 : decode cX11_canShift 61 = .ok (.getfield 121, 3) := by decide +kernel
theorem dX11_canShift_64 : decode cX11_canShift 64 = .ok (.if_icmp .ge 63, 3) := by decide +kernel
theorem dX11_canShift_67 : decode cX11_canShift 67 = .ok (.iload_n 3, 1) := by decide +kernel
theorem dX11_canShift_68 : decode cX11_canShift 68 = .ok (.iload 5, 2) := by decide +kernel
theorem dX11_canShift_70 : decode cX11_canShift 70 = .ok (.ishr, 1) := by decide +kernel
theorem dX11_canShift_71 : decode cX11_canShift 71 = .ok (.iconst 1, 1) := by decide +kernel
theorem dX11_canShift_72 : decode cX11_canShift 72 = .ok (.iand, 1) := by decide +kernel
theorem dX11_canShift_73 : decode cX11_canShift 73 = .ok (.iconst 1, 1) := by decide +kernel
theorem dX11_canShift_74 : decode cX11_canShift 74 = .ok (.if_icmp .ne 22, 3) := by decide +kernel
theorem dX11_canShift_77 : decode cX11_canShift 77 = .ok (.aload_n 0, 1) := by decide +kernel
theorem dX11_canShift_78 : decode cX11_canShift 78 = .ok (.getfield 26, 3) := by decide +kernel
theorem dX11_canShift_81 : decode cX11_canShift 81 = .ok (.getfield 127, 3) := by decide +kernel
theorem dX11_canShift_84 : decode cX11_canShift 84 = .ok (.getfield 185, 3) := by decide +kernel
theorem dX11_canShift_87 : decode cX11_canShift 87 = .ok (.iload 5, 2) := by decide +kernel
theorem dX11_canShift_89 : decode cX11_canShift 89 = .ok (.iaload, 1) := by decide +kernel
theorem dX11_canShift_90 : decode cX11_canShift 90 = .ok (.iload_n 2, 1) := by decide +kernel
theorem dX11_canShift_91 : decode cX11_canShift 91 = .ok (.if_icmp .le 5, 3) := by decide +kernel
theorem dX11_canShift_94 : decode cX11_canShift 94 = .ok (.iconst 0, 1) := by decide +kernel
theorem dX11_canShift_95 : decode cX11_canShift 95 = .ok (.ireturn, 1) := by decide +kernel
theorem dX11_canShift_96 : decode cX11_canShift 96 = .ok (.iload 4, 2) := by decide +kernel
theorem dX11_canShift_98 : decode cX11_canShift 98 = .ok (.iload_n 1, 1) := by decide +kernel
theorem dX11_canShift_99 : decode cX11_canShift 99 = .ok (.iload 5, 2) := by decide +kernel
theorem dX11_canShift_101 : decode cX11_canShift 101 = .ok (.ishr, 1) := by decide +kernel
theorem dX11_canShift_102 : decode cX11_canShift 102 = .ok (.iconst 1, 1) := by decide +kernel
theorem dX11_canShift_103 : decode cX11_canShift 103 = .ok (.iand, 1) := by decide +kernel
theorem dX11_canShift_104 : decode cX11_canShift 104 = .ok (.aload_n 0, 1) := by decide +kernel
theorem dX11_canShift_105 : decode cX11_canShift 105 = .ok (.getfield 26, 3) := by decide +kernel
theorem dX11_canShift_108 : decode cX11_canShift 108 = .ok (.getfield 127, 3) := by decide +kernel
theorem dX11_canShift_111 : decode cX11_canShift 111 = .ok (.getfield 185, 3) := by decide +kernel
theorem dX11_canShift_114 : decode cX11_canShift 114 = .ok (.iload 5, 2) := by decide +kernel
theorem dX11_canShift_116 : decode cX11_canShift 116 = .ok (.iaload, 1) := by decide +kernel
theorem dX11_canShift_117 : decode cX11_canShift 117 = .ok (.imul, 1) := by decide +kernel
theorem dX11_canShift_118 : decode cX11_canShift 118 = .ok (.iadd, 1) := by decide +kernel
theorem dX11_canShift_119 : decode cX11_canShift 119 = .ok (.istore 4, 2) := by decide +kernel
theorem dX11_canShift_121 : decode cX11_canShift 121 = .ok (.iinc 5 1, 3) := by decide +kernel
theorem dX11_canShift_124 : decode cX11_canShift 124 = .ok (.goto (-72), 3) := by decide +kernel
theorem dX11_canShift_127 : decode cX11_canShift 127 = .ok (.iload 4, 2) := by decide +kernel
theorem dX11_canShift_129 : decode cX11_canShift 129 = .ok (.aload_n 0, 1) := by decide +kernel
theorem dX11_canShift_130 : decode cX11_canShift 130 = .ok (.getfield 26, 3) := by decide +kernel
theorem dX11_canShift_133 : decode cX11_canShift 133 = .ok (.getfield 160, 3) := by decide +kernel
theorem dX11_canShift_136 : decode cX11_canShift 136 = .ok (.getfield 163, 3) := by decide +kernel
theorem dX11_canShift_139 : decode cX11_canShift 139 = .ok (.if_icmp .gt 7, 3) := by decide +kernel
theorem dX11_canShift_142 : decode cX11_canShift 142 = .ok (.iconst 1, 1) := by decide +kernel
theorem dX11_canShift_143 : decode cX11_canShift 143 = .ok (.goto 4, 3) := by decide +kernel
theorem dX11_canShift_146 : decode cX11_canShift 146 = .ok (.iconst 0, 1) := by decide +kernel
theorem dX11_canShift_147 : decode cX11_canShift 147 = .ok (.ireturn, 1) := by decide +kernel
set_option maxRecDepth 20000 in
theorem ggX11_book_X0_begin : GoodIn wsX11_book wsX0_begin := goodIn_r _ [7, 8, 9, 10, 11, 12, 13, 14, 37, 38, 39, 40, 41, 42, 43, 44, 45, 46] (by decide +kernel) (by decide +kernel)
set_option maxRecDepth 20000 in
theorem gX11_book_X0_begin : GoodIn wsX11_book (wsV RX11 284 RX0 yX0_begin wsX0_begin) := goodIn_app (goodIn_of _ (by decide +kernel)) ggX11_book_X0_begin
theorem dX11_book_0 : decode cX11_book 0 = .ok (.iload_n 1, 1) := by decide +kernel
theorem dX11_book_1 : decode cX11_book 1 = .ok (.ifCond .lt 27, 3) := by decide +kernel
theorem dX11_book_4 : decode cX11_book 4 = .ok (.iload_n 1, 1) := by decide +kernel
theorem dX11_book_5 : decode cX11_book 5 = .ok (.iconst 3, 1) := by decide +kernel
theorem dX11_book_6 : decode cX11_book 6 = .ok (.if_icmp .ge 22, 3) := by decide +kernel
theorem dX11_book_9 : decode cX11_book 9 = .ok (.iload_n 2, 1) := by decide +kernel
theorem dX11_book_10 : decode cX11_book 10 = .ok (.ifCond .lt 18, 3) := by decide +kernel
theorem dX11_book_13 : decode cX11_book 13 = .ok (.iload_n 2, 1) := by decide +kernel
theorem dX11_book_14 : decode cX11_book 14 = .ok (.iconst 3, 1) := by decide +kernel
theorem dX11_book_15 : decode cX11_book 15 = .ok (.if_icmp .gt 13, 3) := by decide +kernel
theorem dX11_book_18 : decode cX11_book 18 = .ok (.iload_n 3, 1) := by decide +kernel
theorem dX11_book_19 : decode cX11_book 19 = .ok (.ifCond .lt 9, 3) := by decide +kernel
theorem dX11_book_22 : decode cX11_book 22 = .ok (.iload_n 3, 1) := by decide +kernel
theorem dX11_book_23 : decode cX11_book 23 = .ok (.bipush 30, 2) := by decide +kernel
theorem dX11_book_25 : decode cX11_book 25 = .ok (.if_icmp .le 5, 3) := by decide +kernel
theorem dX11_book_28 : decode cX11_book 28 = .ok (.iconst (-1), 1) := by decide +kernel
theorem dX11_book_29 : decode cX11_book 29 = .ok (.ireturn, 1) := by decide +kernel
theorem dX11_book_30 : decode cX11_book 30 = .ok (.aload_n 0, 1) := by decide +kernel
theorem dX11_book_31 : decode cX11_book 31 = .ok (.getfield 26, 3) := by decide +kernel
theorem dX11_book_34 : decode cX11_book 34 = .ok (.getfield 280, 3) := by decide +kernel
theorem dX11_book_37 : decode cX11_book 37 = .ok (.iload_n 1, 1) := by decide +kernel
theorem dX11_book_38 : decode cX11_book 38 = .ok (.aaload, 1) := by decide +kernel
theorem dX11_book_39 : decode cX11_book 39 = .ok (.iload_n 2, 1) := by decide +kernel
theorem dX11_book_40 : decode cX11_book 40 = .ok (.iload_n 3, 1) := by decide +kernel
theorem dX11_book_41 : decode cX11_book 41 = .ok (.invokevirtual 284, 3) := by decide +kernel
theorem dX11_book_44 : decode cX11_book 44 = .ok (.iconst 0, 1) := by decide +kernel
theorem dX11_book_45 : decode cX11_book 45 = .ok (.ireturn, 1) := by decide +kernel
theorem dX11_booked_0 : decode cX11_booked 0 = .ok (.iload_n 1, 1) := by decide +kernel
theorem dX11_booked_1 : decode cX11_booked 1 = .ok (.ifCond .lt 23, 3) := by decide +kernel
theorem dX11_booked_4 : decode cX11_booked 4 = .ok (.iload_n 1, 1) := by decide +kernel
theorem dX11_booked_5 : decode cX11_booked 5 = .ok (.iconst 3, 1) := by decide +kernel
theorem dX11_booked_6 : decode cX11_booked 6 = .ok (.if_icmp .ge 18, 3) := by decide +kernel
theorem dX11_booked_9 : decode cX11_booked 9 = .ok (.aload_n 0, 1) := by decide +kernel
theorem dX11_booked_10 : decode cX11_booked 10 = .ok (.getfield 26, 3) := by decide +kernel
theorem dX11_booked_13 : decode cX11_booked 13 = .ok (.getfield 280, 3) := by decide +kernel
theorem dX11_booked_16 : decode cX11_booked 16 = .ok (.iload_n 1, 1) := by decide +kernel
theorem dX11_booked_17 : decode cX11_booked 17 = .ok (.aaload, 1) := by decide +kernel
theorem dX11_booked_18 : decode cX11_booked 18 = .ok (.getfield 287, 3) := by decide +kernel
theorem dX11_booked_21 : decode cX11_booked 21 = .ok (.ifCond .ne 5, 3) := by decide +kernel
theorem dX11_booked_24 : decode cX11_booked 24 = .ok (.iconst (-1), 1) := by decide +kernel
theorem dX11_booked_25 : decode cX11_booked 25 = .ok (.ireturn, 1) := by decide +kernel
theorem dX11_booked_26 : decode cX11_booked 26 = .ok (.aload_n 0, 1) := by decide +kernel
theorem dX11_booked_27 : decode cX11_booked 27 = .ok (.getfield 26, 3) := by decide +kernel
theorem dX11_booked_30 : decode cX11_booked 30 = .ok (.getfield 280, 3) := by decide +kernel
theorem dX11_booked_33 : decode cX11_booked 33 = .ok (.iload_n 1, 1) := by decide +kernel
theorem dX11_booked_34 : decode cX11_booked 34 = .ok (.aaload, 1) := by decide +kernel
theorem dX11_booked_35 : decode cX11_booked 35 = .ok (.astore_n 3, 1) := by decide +kernel
theorem dX11_booked_36 : decode cX11_booked 36 = .ok (.iload_n 2, 1) := by decide +kernel
theorem dX11_booked_37 : decode cX11_booked 37 = .ok (.tableswitch 69 0 5 #[39, 44, 49, 54, 59, 64], 39) := by decide +kernel
theorem dX11_booked_76 : decode cX11_booked 76 = .ok (.aload_n 3, 1) := by decide +kernel
theorem dX11_booked_77 : decode cX11_booked 77 = .ok (.getfield 291, 3) := by decide +kernel
theorem dX11_booked_80 : decode cX11_booked 80 = .ok (.ireturn, 1) := by decide +kernel
theorem dX11_booked_81 : decode cX11_booked 81 = .ok (.aload_n 3, 1) := by decide +kernel
theorem dX11_booked_82 : decode cX11_booked 82 = .ok (.getfield 294, 3) := by decide +kernel
theorem dX11_booked_85 : decode cX11_booked 85 = .ok (.ireturn, 1) := by decide +kernel
theorem dX11_booked_86 : decode cX11_booked 86 = .ok (.aload_n 3, 1) := by decide +kernel
theorem dX11_booked_87 : decode cX11_booked 87 = .ok (.getfield 297, 3) := by decide +kernel
theorem dX11_booked_90 : decode cX11_booked 90 = .ok (.ireturn, 1) := by decide +kernel
theorem dX11_booked_91 : decode cX11_booked 91 = .ok (.aload_n 3, 1) := by decide +kernel
theorem dX11_booked_92 : decode cX11_booked 92 = .ok (.getfield 300, 3) := by decide +kernel
theorem dX11_booked_95 : decode cX11_booked 95 = .ok (.ireturn, 1) := by decide +kernel
theorem dX11_booked_96 : decode cX11_booked 96 = .ok (.aload_n 3, 1) := by decide +kernel
theorem dX11_booked_97 : decode cX11_booked 97 = .ok (.getfield 303, 3) := by decide +kernel
theorem dX11_booked_100 : decode cX11_booked 100 = .ok (.ireturn, 1) := by decide +kernel
theorem dX11_booked_101 : decode cX11_booked 101 = .ok (.aload_n 3, 1) := by decide +kernel
theorem dX11_booked_102 : decode cX11_booked 102 = .ok (.getfield 306, 3) := by decide +kernel
theorem dX11_booked_105 : decode cX11_booked 105 = .ok (.ireturn, 1) := by decide +kernel
theorem dX11_booked_106 : decode cX11_booked 106 = .ok (.iconst (-1), 1) := by decide +kernel
theorem dX11_booked_107 : decode cX11_booked 107 = .ok (.ireturn, 1) := by decide +kernel
theorem dX11_line_0 : decode cX11_line 0 = .ok (.iload_n 1, 1) := by decide +kernel
theorem dX11_line_1 : decode cX11_line 1 = .ok (.ifCond .lt 28, 3) := by decide +kernel
theorem dX11_line_4 : decode cX11_line 4 = .ok (.iload_n 1, 1) := by decide +kernel
theorem dX11_line_5 : decode cX11_line 5 = .ok (.iconst 3, 1) := by decide +kernel
theorem dX11_line_6 : decode cX11_line 6 = .ok (.if_icmp .ge 23, 3) := by decide +kernel
theorem dX11_line_9 : decode cX11_line 9 = .ok (.iload_n 2, 1) := by decide +kernel
theorem dX11_line_10 : decode cX11_line 10 = .ok (.ifCond .lt 19, 3) := by decide +kernel
theorem dX11_line_13 : decode cX11_line 13 = .ok (.iload_n 2, 1) := by decide +kernel
theorem dX11_line_14 : decode cX11_line 14 = .ok (.aload_n 0, 1) := by decide +kernel
theorem dX11_line_15 : decode cX11_line 15 = .ok (.getfield 26, 3) := by decide +kernel
theorem dX11_line_18 : decode cX11_line 18 = .ok (.getfield 280, 3) := by decide +kernel
theorem dX11_line_21 : decode cX11_line 21 = .ok (.iload_n 1, 1) := by decide +kernel
theorem dX11_line_22 : decode cX11_line 22 = .ok (.aaload, 1) := by decide +kernel
theorem dX11_line_23 : decode cX11_line 23 = .ok (.getfield 291, 3) := by decide +kernel
theorem dX11_line_26 : decode cX11_line 26 = .ok (.if_icmp .lt 5, 3) := by decide +kernel
theorem dX11_line_29 : decode cX11_line 29 = .ok (.iconst (-1), 1) := by decide +kernel
theorem dX11_line_30 : decode cX11_line 30 = .ok (.ireturn, 1) := by decide +kernel
theorem dX11_line_31 : decode cX11_line 31 = .ok (.iload_n 3, 1) := by decide +kernel
theorem dX11_line_32 : decode cX11_line 32 = .ok (.tableswitch 73 0 2 #[28, 43, 58], 28) := by decide +kernel
theorem dX11_line_60 : decode cX11_line 60 = .ok (.aload_n 0, 1) := by decide +kernel
theorem dX11_line_61 : decode cX11_line 61 = .ok (.getfield 26, 3) := by decide +kernel
theorem dX11_line_64 : decode cX11_line 64 = .ok (.getfield 280, 3) := by decide +kernel
theorem dX11_line_67 : decode cX11_line 67 = .ok (.iload_n 1, 1) := by decide +kernel
theorem dX11_line_68 : decode cX11_line 68 = .ok (.aaload, 1) := by decide +kernel
theorem dX11_line_69 : decode cX11_line 69 = .ok (.getfield 309, 3) := by decide +kernel
theorem dX11_line_72 : decode cX11_line 72 = .ok (.iload_n 2, 1) := by decide +kernel
theorem dX11_line_73 : decode cX11_line 73 = .ok (.iaload, 1) := by decide +kernel
theorem dX11_line_74 : decode cX11_line 74 = .ok (.ireturn, 1) := by decide +kernel
theorem dX11_line_75 : decode cX11_line 75 = .ok (.aload_n 0, 1) := by decide +kernel
theorem dX11_line_76 : decode cX11_line 76 = .ok (.getfield 26, 3) := by decide +kernel
theorem dX11_line_79 : decode cX11_line 79 = .ok (.getfield 280, 3) := by decide +kernel
theorem dX11_line_82 : decode cX11_line 82 = .ok (.iload_n 1, 1) := by decide +kernel
theorem dX11_line_83 : decode cX11_line 83 = .ok (.aaload, 1) := by decide +kernel
theorem dX11_line_84 : decode cX11_line 84 = .ok (.getfield 312, 3) := by decide +kernel
theorem dX11_line_87 : decode cX11_line 87 = .ok (.iload_n 2, 1) := by decide +kernel
theorem dX11_line_88 : decode cX11_line 88 = .ok (.iaload, 1) := by decide +kernel
theorem dX11_line_89 : decode cX11_line 89 = .ok (.ireturn, 1) := by decide +kernel
theorem dX11_line_90 : decode cX11_line 90 = .ok (.aload_n 0, 1) := by decide +kernel
theorem dX11_line_91 : decode cX11_line 91 = .ok (.getfield 26, 3) := by decide +kernel
theorem dX11_line_94 : decode cX11_line 94 = .ok (.getfield 280, 3) := by decide +kernel
theorem dX11_line_97 : decode cX11_line 97 = .ok (.iload_n 1, 1) := by decide +kernel
theorem dX11_line_98 : decode cX11_line 98 = .ok (.aaload, 1) := by decide +kernel
theorem dX11_line_99 : decode cX11_line 99 = .ok (.getfield 315, 3) := by decide +kernel
theorem dX11_line_102 : decode cX11_line 102 = .ok (.iload_n 2, 1) := by decide +kernel
theorem dX11_line_103 : decode cX11_line 103 = .ok (.iaload, 1) := by decide +kernel
theorem dX11_line_104 : decode cX11_line 104 = .ok (.ireturn, 1) := by decide +kernel
theorem dX11_line_105 : decode cX11_line 105 = .ok (.iconst (-1), 1) := by decide +kernel
theorem dX11_line_106 : decode cX11_line 106 = .ok (.ireturn, 1) := by decide +kernel
set_option maxRecDepth 20000 in
theorem ggX11_best_X11_leastPaid : GoodIn wsX11_best wsX11_leastPaid := goodIn_r _ [8, 9, 1, 10, 11, 12, 13, 14, 15, 16, 17, 18, 19, 20, 21, 22, 23, 24, 25, 26, 27, 28, 29, 30, 31, 32, 33, 34, 35, 36, 37, 38, 39, 40, 41, 42, 43, 44, 45, 46, 47, 48, 49, 50, 51, 52, 53, 54, 55, 56, 57, 58, 59, 60, 61, 62, 63, 64, 65, 66, 67, 68, 69, 70, 71, 72, 73, 74, 75, 76, 77, 78, 79, 80, 81, 82, 83, 84, 85, 86, 87, 88, 89, 90, 91, 92, 93, 94, 95, 101, 102, 103, 104, 105, 106, 107, 108, 109, 110, 111, 112, 113, 114, 115, 116, 117, 96, 97, 98, 99, 100, 118, 119, 120, 121, 122] (by decide +kernel) (by decide +kernel)
set_option maxRecDepth 20000 in
theorem gX11_best_X11_leastPaid : GoodIn wsX11_best (wsV RX11 318 RX11 yX11_leastPaid wsX11_leastPaid) := goodIn_app (goodIn_of _ (by decide +kernel)) ggX11_best_X11_leastPaid
theorem dX11_best_0 : decode cX11_best 0 = .ok (.aload_n 0, 1) := by decide +kernel
theorem dX11_best_1 : decode cX11_best 1 = .ok (.getfield 26, 3) := by decide +kernel
theorem dX11_best_4 : decode cX11_best 4 = .ok (.getfield 143, 3) := by decide +kernel
theorem dX11_best_7 : decode cX11_best 7 = .ok (.getfield 175, 3) := by decide +kernel
theorem dX11_best_10 : decode cX11_best 10 = .ok (.ifCond .ne 7, 3) := by decide +kernel
theorem dX11_best_13 : decode cX11_best 13 = .ok (.iconst (-1), 1) := by decide +kernel
theorem dX11_best_14 : decode cX11_best 14 = .ok (.goto 17, 3) := by decide +kernel
theorem dX11_best_17 : decode cX11_best 17 = .ok (.aload_n 0, 1) := by decide +kernel
theorem dX11_best_18 : decode cX11_best 18 = .ok (.aload_n 0, 1) := by decide +kernel
theorem dX11_best_19 : decode cX11_best 19 = .ok (.getfield 26, 3) := by decide +kernel
theorem dX11_best_22 : decode cX11_best 22 = .ok (.getfield 143, 3) := by decide +kernel
theorem dX11_best_25 : decode cX11_best 25 = .ok (.getfield 175, 3) := by decide +kernel
theorem dX11_best_28 : decode cX11_best 28 = .ok (.invokevirtual 318, 3) := by decide +kernel
theorem dX11_best_31 : decode cX11_best 31 = .ok (.ireturn, 1) := by decide +kernel
set_option maxRecDepth 20000 in
theorem ggX11_upTo_X4_has : GoodIn wsX11_upTo wsX4_has := goodIn_r _ [7, 8, 101, 102, 103, 104, 105] (by decide +kernel) (by decide +kernel)
set_option maxRecDepth 20000 in
theorem gX11_upTo_X4_has : GoodIn wsX11_upTo (wsV RX11 228 RX4 yX4_has wsX4_has) := goodIn_app (goodIn_of _ (by decide +kernel)) ggX11_upTo_X4_has
set_option maxRecDepth 20000 in
theorem ggX11_upTo_X11_leastPaid : GoodIn wsX11_upTo wsX11_leastPaid := goodIn_r _ [13, 14, 1, 15, 16, 17, 18, 19, 20, 21, 22, 23, 24, 25, 26, 27, 28, 29, 30, 31, 32, 33, 34, 35, 36, 37, 38, 39, 40, 41, 42, 43, 44, 45, 46, 47, 48, 49, 50, 51, 52, 53, 54, 55, 56, 57, 58, 59, 60, 61, 62, 63, 64, 65, 66, 67, 68, 69, 70, 71, 72, 73, 74, 75, 76, 77, 78, 79, 80, 81, 82, 83, 84, 85, 86, 87, 88, 89, 90, 91, 92, 93, 94, 95, 96, 97, 98, 99, 100, 106, 107, 108, 109, 110, 111, 112, 113, 114, 115, 116, 117, 118, 119, 120, 121, 122, 101, 102, 103, 104, 105, 123, 124, 125, 126, 127] (by decide +kernel) (by decide +kernel)
set_option maxRecDepth 20000 in
theorem gX11_upTo_X11_leastPaid : GoodIn wsX11_upTo (wsV RX11 318 RX11 yX11_leastPaid wsX11_leastPaid) := goodIn_app (goodIn_of _ (by decide +kernel)) ggX11_upTo_X11_leastPaid
theorem dX11_upTo_0 : decode cX11_upTo 0 = .ok (.aload_n 0, 1) := by decide +kernel
theorem dX11_upTo_1 : decode cX11_upTo 1 = .ok (.getfield 26, 3) := by decide +kernel
theorem dX11_upTo_4 : decode cX11_upTo 4 = .ok (.getfield 143, 3) := by decide +kernel
theorem dX11_upTo_7 : decode cX11_upTo 7 = .ok (.iload_n 1, 1) := by decide +kernel
theorem dX11_upTo_8 : decode cX11_upTo 8 = .ok (.invokevirtual 228, 3) := by decide +kernel
theorem dX11_upTo_11 : decode cX11_upTo 11 = .ok (.ifCond .eq 13, 3) := by decide +kernel
theorem dX11_upTo_14 : decode cX11_upTo 14 = .ok (.aload_n 0, 1) := by decide +kernel
theorem dX11_upTo_15 : decode cX11_upTo 15 = .ok (.iload_n 1, 1) := by decide +kernel
theorem dX11_upTo_16 : decode cX11_upTo 16 = .ok (.iconst 1, 1) := by decide +kernel
theorem dX11_upTo_17 : decode cX11_upTo 17 = .ok (.iadd, 1) := by decide +kernel
theorem dX11_upTo_18 : decode cX11_upTo 18 = .ok (.invokevirtual 318, 3) := by decide +kernel
theorem dX11_upTo_21 : decode cX11_upTo 21 = .ok (.goto 4, 3) := by decide +kernel
theorem dX11_upTo_24 : decode cX11_upTo 24 = .ok (.iconst (-1), 1) := by decide +kernel
theorem dX11_upTo_25 : decode cX11_upTo 25 = .ok (.ireturn, 1) := by decide +kernel
set_option maxRecDepth 20000 in
theorem ggX11_leastPaid_X5_follow : GoodIn wsX11_leastPaid wsX5_follow := goodIn_r _ [9, 10, 11, 12, 13, 14, 15, 16, 17, 18, 19, 20, 21, 22, 8, 23, 24, 25, 26, 27, 28, 29, 30, 31, 32, 33, 34, 35, 36, 37, 38, 39, 40, 41, 42, 43, 44, 45, 46, 47, 48, 49, 50, 51, 52, 53, 54, 55, 56, 57, 58, 96, 97, 98, 99, 100, 101, 102, 103, 104, 105, 82, 83, 84, 85, 86, 87, 88, 106, 107, 108, 109, 110, 89, 90, 91, 92, 93, 94, 95, 111, 112, 113, 114, 115] (by decide +kernel) (by decide +kernel)
set_option maxRecDepth 20000 in
theorem gX11_leastPaid_X5_follow : GoodIn wsX11_leastPaid (wsV RX11 321 RX5 yX5_follow wsX5_follow) := goodIn_app (goodIn_of _ (by decide +kernel)) ggX11_leastPaid_X5_follow
set_option maxRecDepth 20000 in
theorem ggX11_leastPaid_X5_least : GoodIn wsX11_leastPaid wsX5_least := goodIn_r _ [62, 31, 38, 39, 40, 8, 41, 42, 63, 64, 65, 66, 29, 30, 96, 97, 98, 99, 100, 101, 102, 103, 104, 105] (by decide +kernel) (by decide +kernel)
set_option maxRecDepth 20000 in
theorem gX11_leastPaid_X5_least : GoodIn wsX11_leastPaid (wsV RX11 325 RX5 yX5_least wsX5_least) := goodIn_app (goodIn_of _ (by decide +kernel)) ggX11_leastPaid_X5_least
theorem dX11_leastPaid_0 : decode cX11_leastPaid 0 = .ok (.aload_n 0, 1) := by decide +kernel
theorem dX11_leastPaid_1 : decode cX11_leastPaid 1 = .ok (.getfield 67, 3) := by decide +kernel
theorem dX11_leastPaid_4 : decode cX11_leastPaid 4 = .ok (.aload_n 0, 1) := by decide +kernel
theorem dX11_leastPaid_5 : decode cX11_leastPaid 5 = .ok (.getfield 26, 3) := by decide +kernel
theorem dX11_leastPaid_8 : decode cX11_leastPaid 8 = .ok (.aload_n 0, 1) := by decide +kernel
theorem dX11_leastPaid_9 : decode cX11_leastPaid 9 = .ok (.getfield 26, 3) := by decide +kernel
theorem dX11_leastPaid_12 : decode cX11_leastPaid 12 = .ok (.getfield 160, 3) := by decide +kernel
theorem dX11_leastPaid_15 : decode cX11_leastPaid 15 = .ok (.getfield 163, 3) := by decide +kernel
theorem dX11_leastPaid_18 : decode cX11_leastPaid 18 = .ok (.iconst (-1), 1) := by decide +kernel
theorem dX11_leastPaid_19 : decode cX11_leastPaid 19 = .ok (.invokevirtual 321, 3) := by decide +kernel
theorem dX11_leastPaid_22 : decode cX11_leastPaid 22 = .ok (.aload_n 0, 1) := by decide +kernel
theorem dX11_leastPaid_23 : decode cX11_leastPaid 23 = .ok (.getfield 67, 3) := by decide +kernel
theorem dX11_leastPaid_26 : decode cX11_leastPaid 26 = .ok (.iload_n 1, 1) := by decide +kernel
theorem dX11_leastPaid_27 : decode cX11_leastPaid 27 = .ok (.invokevirtual 325, 3) := by decide +kernel
theorem dX11_leastPaid_30 : decode cX11_leastPaid 30 = .ok (.ireturn, 1) := by decide +kernel
set_option maxRecDepth 20000 in
theorem ggX11_plan_X4_has : GoodIn wsX11_plan wsX4_has := goodIn_r _ [9, 10, 126, 127, 128, 129, 130] (by decide +kernel) (by decide +kernel)
set_option maxRecDepth 20000 in
theorem gX11_plan_X4_has : GoodIn wsX11_plan (wsV RX11 228 RX4 yX4_has wsX4_has) := goodIn_app (goodIn_of _ (by decide +kernel)) ggX11_plan_X4_has
set_option maxRecDepth 20000 in
theorem ggX11_plan_X11_trace : GoodIn wsX11_plan wsX11_trace := goodIn_r _ [15, 3, 1, 16, 17, 18, 19, 20, 21, 22, 23, 24, 25, 26, 27, 28, 29, 30, 31, 32, 33, 34, 35, 36, 37, 38, 39, 40, 41, 42, 43, 44, 45, 46, 47, 48, 49, 50, 51, 52, 53, 54, 55, 56, 57, 58, 59, 60, 61, 62, 63, 64, 65, 66, 67, 68, 69, 70, 71, 72, 73, 74, 75, 76, 77, 78, 79, 80, 81, 82, 83, 84, 85, 86, 87, 88, 89, 94, 95, 96, 97, 98, 99, 100, 101, 102, 103, 104, 105, 106, 107, 108, 109, 110, 111, 112, 113, 114, 115, 131, 132, 133, 134, 135, 136, 137, 116, 117, 118, 119, 120, 121, 122, 123, 124, 125, 126, 127, 128, 129, 130, 138, 139, 140, 141, 142] (by decide +kernel) (by decide +kernel)
set_option maxRecDepth 20000 in
theorem gX11_plan_X11_trace : GoodIn wsX11_plan (wsV RX11 328 RX11 yX11_trace wsX11_trace) := goodIn_app (goodIn_of _ (by decide +kernel)) ggX11_plan_X11_trace
set_option maxRecDepth 20000 in
theorem ggX11_plan_X5_paysAt : GoodIn wsX11_plan wsX5_paysAt := goodIn_r _ [93, 77, 41, 82, 83, 84, 21, 85, 25, 27, 24, 32, 116, 117, 118, 119, 120, 121, 122, 123, 124, 125, 109, 110, 111, 112, 113, 114, 115, 126, 127, 128, 129, 130, 138, 139, 140, 141, 142] (by decide +kernel) (by decide +kernel)
set_option maxRecDepth 20000 in
theorem gX11_plan_X5_paysAt : GoodIn wsX11_plan (wsV RX11 331 RX5 yX5_paysAt wsX5_paysAt) := goodIn_app (goodIn_of _ (by decide +kernel)) ggX11_plan_X5_paysAt
theorem dX11_plan_0 : decode cX11_plan 0 = .ok (.aload_n 0, 1) := by decide +kernel
theorem dX11_plan_1 : decode cX11_plan 1 = .ok (.getfield 26, 3) := by decide +kernel
theorem dX11_plan_4 : decode cX11_plan 4 = .ok (.getfield 143, 3) := by decide +kernel
theorem dX11_plan_7 : decode cX11_plan 7 = .ok (.iload_n 1, 1) := by decide +kernel
theorem dX11_plan_8 : decode cX11_plan 8 = .ok (.invokevirtual 228, 3) := by decide +kernel
theorem dX11_plan_11 : decode cX11_plan 11 = .ok (.ifCond .eq 12, 3) := by decide +kernel
theorem dX11_plan_14 : decode cX11_plan 14 = .ok (.iload_n 2, 1) := by decide +kernel
theorem dX11_plan_15 : decode cX11_plan 15 = .ok (.ifCond .lt 8, 3) := by decide +kernel
theorem dX11_plan_18 : decode cX11_plan 18 = .ok (.iload_n 2, 1) := by decide +kernel
theorem dX11_plan_19 : decode cX11_plan 19 = .ok (.iconst 1, 1) := by decide +kernel
theorem dX11_plan_20 : decode cX11_plan 20 = .ok (.if_icmp .le 5, 3) := by decide +kernel
theorem dX11_plan_23 : decode cX11_plan 23 = .ok (.iconst (-1), 1) := by decide +kernel
theorem dX11_plan_24 : decode cX11_plan 24 = .ok (.ireturn, 1) := by decide +kernel
theorem dX11_plan_25 : decode cX11_plan 25 = .ok (.aload_n 0, 1) := by decide +kernel
theorem dX11_plan_26 : decode cX11_plan 26 = .ok (.invokevirtual 328, 3) := by decide +kernel
theorem dX11_plan_29 : decode cX11_plan 29 = .ok (.iload_n 2, 1) := by decide +kernel
theorem dX11_plan_30 : decode cX11_plan 30 = .ok (.ifCond .ne 18, 3) := by decide +kernel

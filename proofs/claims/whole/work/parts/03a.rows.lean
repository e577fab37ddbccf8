theorem dX0_init_0 : decode cX0_init 0 = .ok (.aload_n 0, 1) := by decide +kernel
theorem dX0_init_1 : decode cX0_init 1 = .ok (.invokespecial 3, 3) := by decide +kernel
theorem dX0_init_4 : decode cX0_init 4 = .ok (.aload_n 0, 1) := by decide +kernel
theorem dX0_init_5 : decode cX0_init 5 = .ok (.bipush 30, 2) := by decide +kernel
theorem dX0_init_7 : decode cX0_init 7 = .ok (.newarray .int, 2) := by decide +kernel
theorem dX0_init_9 : decode cX0_init 9 = .ok (.putfield 9, 3) := by decide +kernel
theorem dX0_init_12 : decode cX0_init 12 = .ok (.aload_n 0, 1) := by decide +kernel
theorem dX0_init_13 : decode cX0_init 13 = .ok (.bipush 30, 2) := by decide +kernel
theorem dX0_init_15 : decode cX0_init 15 = .ok (.newarray .int, 2) := by decide +kernel
theorem dX0_init_17 : decode cX0_init 17 = .ok (.putfield 15, 3) := by decide +kernel
theorem dX0_init_20 : decode cX0_init 20 = .ok (.aload_n 0, 1) := by decide +kernel
theorem dX0_init_21 : decode cX0_init 21 = .ok (.bipush 30, 2) := by decide +kernel
theorem dX0_init_23 : decode cX0_init 23 = .ok (.newarray .int, 2) := by decide +kernel
theorem dX0_init_25 : decode cX0_init 25 = .ok (.putfield 18, 3) := by decide +kernel
theorem dX0_init_28 : decode cX0_init 28 = .ok (.return_, 1) := by decide +kernel
theorem dX0_close_0 : decode cX0_close 0 = .ok (.aload_n 0, 1) := by decide +kernel
theorem dX0_close_1 : decode cX0_close 1 = .ok (.iconst 0, 1) := by decide +kernel
theorem dX0_close_2 : decode cX0_close 2 = .ok (.putfield 21, 3) := by decide +kernel
theorem dX0_close_5 : decode cX0_close 5 = .ok (.aload_n 0, 1) := by decide +kernel
theorem dX0_close_6 : decode cX0_close 6 = .ok (.iconst 0, 1) := by decide +kernel
theorem dX0_close_7 : decode cX0_close 7 = .ok (.putfield 25, 3) := by decide +kernel
theorem dX0_close_10 : decode cX0_close 10 = .ok (.return_, 1) := by decide +kernel
theorem dX0_begin_0 : decode cX0_begin 0 = .ok (.aload_n 0, 1) := by decide +kernel
theorem dX0_begin_1 : decode cX0_begin 1 = .ok (.iconst 1, 1) := by decide +kernel
theorem dX0_begin_2 : decode cX0_begin 2 = .ok (.putfield 21, 3) := by decide +kernel
theorem dX0_begin_5 : decode cX0_begin 5 = .ok (.aload_n 0, 1) := by decide +kernel
theorem dX0_begin_6 : decode cX0_begin 6 = .ok (.iload_n 1, 1) := by decide +kernel
theorem dX0_begin_7 : decode cX0_begin 7 = .ok (.putfield 29, 3) := by decide +kernel
theorem dX0_begin_10 : decode cX0_begin 10 = .ok (.aload_n 0, 1) := by decide +kernel
theorem dX0_begin_11 : decode cX0_begin 11 = .ok (.iload_n 2, 1) := by decide +kernel
theorem dX0_begin_12 : decode cX0_begin 12 = .ok (.putfield 32, 3) := by decide +kernel
theorem dX0_begin_15 : decode cX0_begin 15 = .ok (.aload_n 0, 1) := by decide +kernel
theorem dX0_begin_16 : decode cX0_begin 16 = .ok (.iconst 0, 1) := by decide +kernel
theorem dX0_begin_17 : decode cX0_begin 17 = .ok (.putfield 25, 3) := by decide +kernel
theorem dX0_begin_20 : decode cX0_begin 20 = .ok (.aload_n 0, 1) := by decide +kernel
theorem dX0_begin_21 : decode cX0_begin 21 = .ok (.iconst 0, 1) := by decide +kernel
theorem dX0_begin_22 : decode cX0_begin 22 = .ok (.putfield 35, 3) := by decide +kernel
theorem dX0_begin_25 : decode cX0_begin 25 = .ok (.aload_n 0, 1) := by decide +kernel
theorem dX0_begin_26 : decode cX0_begin 26 = .ok (.iconst 0, 1) := by decide +kernel
theorem dX0_begin_27 : decode cX0_begin 27 = .ok (.putfield 38, 3) := by decide +kernel
theorem dX0_begin_30 : decode cX0_begin 30 = .ok (.aload_n 0, 1) := by decide +kernel
theorem dX0_begin_31 : decode cX0_begin 31 = .ok (.iconst 0, 1) := by decide +kernel
theorem dX0_begin_32 : decode cX0_begin 32 = .ok (.putfield 41, 3) := by decide +kernel
theorem dX0_begin_35 : decode cX0_begin 35 = .ok (.return_, 1) := by decide +kernel
theorem dX0_takes_0 : decode cX0_takes 0 = .ok (.aload_n 0, 1) := by decide +kernel
theorem dX0_takes_1 : decode cX0_takes 1 = .ok (.getfield 29, 3) := by decide +kernel
theorem dX0_takes_4 : decode cX0_takes 4 = .ok (.tableswitch 61 0 2 #[28, 30, 45], 28) := by decide +kernel
theorem dX0_takes_32 : decode cX0_takes 32 = .ok (.iconst 1, 1) := by decide +kernel
theorem dX0_takes_33 : decode cX0_takes 33 = .ok (.ireturn, 1) := by decide +kernel
theorem dX0_takes_34 : decode cX0_takes 34 = .ok (.iload_n 1, 1) := by decide +kernel
theorem dX0_takes_35 : decode cX0_takes 35 = .ok (.ifCond .eq 8, 3) := by decide +kernel
theorem dX0_takes_38 : decode cX0_takes 38 = .ok (.iload_n 1, 1) := by decide +kernel
theorem dX0_takes_39 : decode cX0_takes 39 = .ok (.iconst 1, 1) := by decide +kernel
theorem dX0_takes_40 : decode cX0_takes 40 = .ok (.if_icmp .ne 7, 3) := by decide +kernel
theorem dX0_takes_43 : decode cX0_takes 43 = .ok (.iconst 1, 1) := by decide +kernel
theorem dX0_takes_44 : decode cX0_takes 44 = .ok (.goto 4, 3) := by decide +kernel
theorem dX0_takes_47 : decode cX0_takes 47 = .ok (.iconst 0, 1) := by decide +kernel
theorem dX0_takes_48 : decode cX0_takes 48 = .ok (.ireturn, 1) := by decide +kernel
theorem dX0_takes_49 : decode cX0_takes 49 = .ok (.iload_n 1, 1) := by decide +kernel
theorem dX0_takes_50 : decode cX0_takes 50 = .ok (.iconst 2, 1) := by decide +kernel
theorem dX0_takes_51 : decode cX0_takes 51 = .ok (.if_icmp .eq 8, 3) := by decide +kernel
theorem dX0_takes_54 : decode cX0_takes 54 = .ok (.iload_n 1, 1) := by decide +kernel
theorem dX0_takes_55 : decode cX0_takes 55 = .ok (.iconst 3, 1) := by decide +kernel
theorem dX0_takes_56 : decode cX0_takes 56 = .ok (.if_icmp .ne 7, 3) := by decide +kernel
theorem dX0_takes_59 : decode cX0_takes 59 = .ok (.iconst 1, 1) := by decide +kernel
theorem dX0_takes_60 : decode cX0_takes 60 = .ok (.goto 4, 3) := by decide +kernel
theorem dX0_takes_63 : decode cX0_takes 63 = .ok (.iconst 0, 1) := by decide +kernel
theorem dX0_takes_64 : decode cX0_takes 64 = .ok (.ireturn, 1) := by decide +kernel
theorem dX0_takes_65 : decode cX0_takes 65 = .ok (.iload_n 1, 1) := by decide +kernel
theorem dX0_takes_66 : decode cX0_takes 66 = .ok (.iconst 3, 1) := by decide +kernel
theorem dX0_takes_67 : decode cX0_takes 67 = .ok (.if_icmp .ne 7, 3) := by decide +kernel
theorem dX0_takes_70 : decode cX0_takes 70 = .ok (.iconst 1, 1) := by decide +kernel
theorem dX0_takes_71 : decode cX0_takes 71 = .ok (.goto 4, 3) := by decide +kernel
theorem dX0_takes_74 : decode cX0_takes 74 = .ok (.iconst 0, 1) := by decide +kernel
theorem dX0_takes_75 : decode cX0_takes 75 = .ok (.ireturn, 1) := by decide +kernel
set_option maxRecDepth 20000 in
theorem ggX0_write_X0_takes : GoodIn wsX0_write wsX0_takes := goodIn_r _ [14, 15, 16, 17, 18, 19, 20, 21, 22, 23, 24, 25] (by decide +kernel) (by decide +kernel)
set_option maxRecDepth 20000 in
theorem gX0_write_X0_takes : GoodIn wsX0_write (wsV RX0 44 RX0 yX0_takes wsX0_takes) := goodIn_app (goodIn_of _ (by decide +kernel)) ggX0_write_X0_takes
theorem dX0_write_0 : decode cX0_write 0 = .ok (.aload_n 0, 1) := by decide +kernel
theorem dX0_write_1 : decode cX0_write 1 = .ok (.getfield 21, 3) := by decide +kernel
theorem dX0_write_4 : decode cX0_write 4 = .ok (.ifCond .ne 4, 3) := by decide +kernel
theorem dX0_write_7 : decode cX0_write 7 = .ok (.return_, 1) := by decide +kernel
theorem dX0_write_8 : decode cX0_write 8 = .ok (.aload_n 0, 1) := by decide +kernel
theorem dX0_write_9 : decode cX0_write 9 = .ok (.getfield 25, 3) := by decide +kernel
theorem dX0_write_12 : decode cX0_write 12 = .ok (.aload_n 0, 1) := by decide +kernel
theorem dX0_write_13 : decode cX0_write 13 = .ok (.getfield 32, 3) := by decide +kernel
theorem dX0_write_16 : decode cX0_write 16 = .ok (.if_icmp .lt 16, 3) := by decide +kernel
theorem dX0_write_19 : decode cX0_write 19 = .ok (.aload_n 0, 1) := by decide +kernel
theorem dX0_write_20 : decode cX0_write 20 = .ok (.dup, 1) := by decide +kernel
theorem dX0_write_21 : decode cX0_write 21 = .ok (.getfield 38, 3) := by decide +kernel
theorem dX0_write_24 : decode cX0_write 24 = .ok (.iconst 1, 1) := by decide +kernel
theorem dX0_write_25 : decode cX0_write 25 = .ok (.iadd, 1) := by decide +kernel
theorem dX0_write_26 : decode cX0_write 26 = .ok (.putfield 38, 3) := by decide +kernel
theorem dX0_write_29 : decode cX0_write 29 = .ok (.goto 74, 3) := by decide +kernel
theorem dX0_write_32 : decode cX0_write 32 = .ok (.aload_n 0, 1) := by decide +kernel
theorem dX0_write_33 : decode cX0_write 33 = .ok (.iload_n 1, 1) := by decide +kernel
theorem dX0_write_34 : decode cX0_write 34 = .ok (.invokevirtual 44, 3) := by decide +kernel
theorem dX0_write_37 : decode cX0_write 37 = .ok (.ifCond .ne 16, 3) := by decide +kernel
theorem dX0_write_40 : decode cX0_write 40 = .ok (.aload_n 0, 1) := by decide +kernel
theorem dX0_write_41 : decode cX0_write 41 = .ok (.dup, 1) := by decide +kernel
theorem dX0_write_42 : decode cX0_write 42 = .ok (.getfield 35, 3) := by decide +kernel
theorem dX0_write_45 : decode cX0_write 45 = .ok (.iconst 1, 1) := by decide +kernel
theorem dX0_write_46 : decode cX0_write 46 = .ok (.iadd, 1) := by decide +kernel
theorem dX0_write_47 : decode cX0_write 47 = .ok (.putfield 35, 3) := by decide +kernel
theorem dX0_write_50 : decode cX0_write 50 = .ok (.goto 53, 3) := by decide +kernel
theorem dX0_write_53 : decode cX0_write 53 = .ok (.aload_n 0, 1) := by decide +kernel
theorem dX0_write_54 : decode cX0_write 54 = .ok (.getfield 9, 3) := by decide +kernel
theorem dX0_write_57 : decode cX0_write 57 = .ok (.aload_n 0, 1) := by decide +kernel
theorem dX0_write_58 : decode cX0_write 58 = .ok (.getfield 25, 3) := by decide +kernel
theorem dX0_write_61 : decode cX0_write 61 = .ok (.iload_n 1, 1) := by decide +kernel
theorem dX0_write_62 : decode cX0_write 62 = .ok (.iastore, 1) := by decide +kernel
theorem dX0_write_63 : decode cX0_write 63 = .ok (.aload_n 0, 1) := by decide +kernel
theorem dX0_write_64 : decode cX0_write 64 = .ok (.getfield 15, 3) := by decide +kernel
theorem dX0_write_67 : decode cX0_write 67 = .ok (.aload_n 0, 1) := by decide +kernel
theorem dX0_write_68 : decode cX0_write 68 = .ok (.getfield 25, 3) := by decide +kernel
theorem dX0_write_71 : decode cX0_write 71 = .ok (.iload_n 2, 1) := by decide +kernel
theorem dX0_write_72 : decode cX0_write 72 = .ok (.iastore, 1) := by decide +kernel
theorem dX0_write_73 : decode cX0_write 73 = .ok (.aload_n 0, 1) := by decide +kernel
theorem dX0_write_74 : decode cX0_write 74 = .ok (.getfield 18, 3) := by decide +kernel
theorem dX0_write_77 : decode cX0_write 77 = .ok (.aload_n 0, 1) := by decide +kernel
theorem dX0_write_78 : decode cX0_write 78 = .ok (.getfield 25, 3) := by decide +kernel
theorem dX0_write_81 : decode cX0_write 81 = .ok (.iload_n 3, 1) := by decide +kernel
theorem dX0_write_82 : decode cX0_write 82 = .ok (.iastore, 1) := by decide +kernel
theorem dX0_write_83 : decode cX0_write 83 = .ok (.aload_n 0, 1) := by decide +kernel
theorem dX0_write_84 : decode cX0_write 84 = .ok (.dup, 1) := by decide +kernel
theorem dX0_write_85 : decode cX0_write 85 = .ok (.getfield 25, 3) := by decide +kernel
theorem dX0_write_88 : decode cX0_write 88 = .ok (.iconst 1, 1) := by decide +kernel
theorem dX0_write_89 : decode cX0_write 89 = .ok (.iadd, 1) := by decide +kernel
theorem dX0_write_90 : decode cX0_write 90 = .ok (.putfield 25, 3) := by decide +kernel
theorem dX0_write_93 : decode cX0_write 93 = .ok (.aload_n 0, 1) := by decide +kernel
theorem dX0_write_94 : decode cX0_write 94 = .ok (.dup, 1) := by decide +kernel
theorem dX0_write_95 : decode cX0_write 95 = .ok (.getfield 41, 3) := by decide +kernel
theorem dX0_write_98 : decode cX0_write 98 = .ok (.iload_n 3, 1) := by decide +kernel
theorem dX0_write_99 : decode cX0_write 99 = .ok (.iadd, 1) := by decide +kernel
theorem dX0_write_100 : decode cX0_write 100 = .ok (.putfield 41, 3) := by decide +kernel
theorem dX0_write_103 : decode cX0_write 103 = .ok (.return_, 1) := by decide +kernel
theorem dX0_copyFrom_0 : decode cX0_copyFrom 0 = .ok (.aload_n 0, 1) := by decide +kernel
theorem dX0_copyFrom_1 : decode cX0_copyFrom 1 = .ok (.aload_n 1, 1) := by decide +kernel
theorem dX0_copyFrom_2 : decode cX0_copyFrom 2 = .ok (.getfield 21, 3) := by decide +kernel
theorem dX0_copyFrom_5 : decode cX0_copyFrom 5 = .ok (.putfield 21, 3) := by decide +kernel
theorem dX0_copyFrom_8 : decode cX0_copyFrom 8 = .ok (.aload_n 0, 1) := by decide +kernel
theorem dX0_copyFrom_9 : decode cX0_copyFrom 9 = .ok (.aload_n 1, 1) := by decide +kernel
theorem dX0_copyFrom_10 : decode cX0_copyFrom 10 = .ok (.getfield 29, 3) := by decide +kernel
theorem dX0_copyFrom_13 : decode cX0_copyFrom 13 = .ok (.putfield 29, 3) := by decide +kernel
theorem dX0_copyFrom_16 : decode cX0_copyFrom 16 = .ok (.aload_n 0, 1) := by decide +kernel
theorem dX0_copyFrom_17 : decode cX0_copyFrom 17 = .ok (.aload_n 1, 1) := by decide +kernel
theorem dX0_copyFrom_18 : decode cX0_copyFrom 18 = .ok (.getfield 32, 3) := by decide +kernel
theorem dX0_copyFrom_21 : decode cX0_copyFrom 21 = .ok (.putfield 32, 3) := by decide +kernel
theorem dX0_copyFrom_24 : decode cX0_copyFrom 24 = .ok (.aload_n 0, 1) := by decide +kernel
theorem dX0_copyFrom_25 : decode cX0_copyFrom 25 = .ok (.aload_n 1, 1) := by decide +kernel
theorem dX0_copyFrom_26 : decode cX0_copyFrom 26 = .ok (.getfield 25, 3) := by decide +kernel
theorem dX0_copyFrom_29 : decode cX0_copyFrom 29 = .ok (.putfield 25, 3) := by decide +kernel
theorem dX0_copyFrom_32 : decode cX0_copyFrom 32 = .ok (.aload_n 0, 1) := by decide +kernel
theorem dX0_copyFrom_33 : decode cX0_copyFrom 33 = .ok (.aload_n 1, 1) := by decide +kernel
theorem dX0_copyFrom_34 : decode cX0_copyFrom 34 = .ok (.getfield 35, 3) := by decide +kernel
theorem dX0_copyFrom_37 : decode cX0_copyFrom 37 = .ok (.putfield 35, 3) := by decide +kernel
theorem dX0_copyFrom_40 : decode cX0_copyFrom 40 = .ok (.aload_n 0, 1) := by decide +kernel
theorem dX0_copyFrom_41 : decode cX0_copyFrom 41 = .ok (.aload_n 1, 1) := by decide +kernel
theorem dX0_copyFrom_42 : decode cX0_copyFrom 42 = .ok (.getfield 38, 3) := by decide +kernel
theorem dX0_copyFrom_45 : decode cX0_copyFrom 45 = .ok (.putfield 38, 3) := by decide +kernel
theorem dX0_copyFrom_48 : decode cX0_copyFrom 48 = .ok (.aload_n 0, 1) := by decide +kernel
theorem dX0_copyFrom_49 : decode cX0_copyFrom 49 = .ok (.aload_n 1, 1) := by decide +kernel
theorem dX0_copyFrom_50 : decode cX0_copyFrom 50 = .ok (.getfield 41, 3) := by decide +kernel
theorem dX0_copyFrom_53 : decode cX0_copyFrom 53 = .ok (.putfield 41, 3) := by decide +kernel
theorem dX0_copyFrom_56 : decode cX0_copyFrom 56 = .ok (.aload_n 1, 1) := by decide +kernel
theorem dX0_copyFrom_57 : decode cX0_copyFrom 57 = .ok (.getfield 9, 3) := by decide +kernel
theorem dX0_copyFrom_60 : decode cX0_copyFrom 60 = .ok (.iconst 0, 1) := by decide +kernel
theorem dX0_copyFrom_61 : decode cX0_copyFrom 61 = .ok (.aload_n 0, 1) := by decide +kernel
theorem dX0_copyFrom_62 : decode cX0_copyFrom 62 = .ok (.getfield 9, 3) := by decide +kernel
theorem dX0_copyFrom_65 : decode cX0_copyFrom 65 = .ok (.iconst 0, 1) := by decide +kernel
theorem dX0_copyFrom_66 : decode cX0_copyFrom 66 = .ok (.aload_n 0, 1) := by decide +kernel
theorem dX0_copyFrom_67 : decode cX0_copyFrom 67 = .ok (.getfield 25, 3) := by decide +kernel
theorem dX0_copyFrom_70 : decode cX0_copyFrom 70 = .ok (.invokestatic 48, 3) := by decide +kernel
theorem dX0_copyFrom_73 : decode cX0_copyFrom 73 = .ok (.aload_n 1, 1) := by decide +kernel
theorem dX0_copyFrom_74 : decode cX0_copyFrom 74 = .ok (.getfield 15, 3) := by decide +kernel
theorem dX0_copyFrom_77 : decode cX0_copyFrom 77 = .ok (.iconst 0, 1) := by decide +kernel
theorem dX0_copyFrom_78 : decode cX0_copyFrom 78 = .ok (.aload_n 0, 1) := by decide +kernel
theorem dX0_copyFrom_79 : decode cX0_copyFrom 79 = .ok (.getfield 15, 3) := by decide +kernel
theorem dX0_copyFrom_82 : decode cX0_copyFrom 82 = .ok (.iconst 0, 1) := by decide +kernel
theorem dX0_copyFrom_83 : decode cX0_copyFrom 83 = .ok (.aload_n 0, 1) := by decide +kernel
theorem dX0_copyFrom_84 : decode cX0_copyFrom 84 = .ok (.getfield 25, 3) := by decide +kernel
theorem dX0_copyFrom_87 : decode cX0_copyFrom 87 = .ok (.invokestatic 48, 3) := by decide +kernel
theorem dX0_copyFrom_90 : decode cX0_copyFrom 90 = .ok (.aload_n 1, 1) := by decide +kernel
theorem dX0_copyFrom_91 : decode cX0_copyFrom 91 = .ok (.getfield 18, 3) := by decide +kernel
theorem dX0_copyFrom_94 : decode cX0_copyFrom 94 = .ok (.iconst 0, 1) := by decide +kernel
theorem dX0_copyFrom_95 : decode cX0_copyFrom 95 = .ok (.aload_n 0, 1) := by decide +kernel
theorem dX0_copyFrom_96 : decode cX0_copyFrom 96 = .ok (.getfield 18, 3) := by decide +kernel
theorem dX0_copyFrom_99 : decode cX0_copyFrom 99 = .ok (.iconst 0, 1) := by decide +kernel
theorem dX0_copyFrom_100 : decode cX0_copyFrom 100 = .ok (.aload_n 0, 1) := by decide +kernel
theorem dX0_copyFrom_101 : decode cX0_copyFrom 101 = .ok (.getfield 25, 3) := by decide +kernel
theorem dX0_copyFrom_104 : decode cX0_copyFrom 104 = .ok (.invokestatic 48, 3) := by decide +kernel
theorem dX0_copyFrom_107 : decode cX0_copyFrom 107 = .ok (.return_, 1) := by decide +kernel
theorem dX1_init_0 : decode cX1_init 0 = .ok (.aload_n 0, 1) := by decide +kernel
theorem dX1_init_1 : decode cX1_init 1 = .ok (.invokespecial 3, 3) := by decide +kernel
theorem dX1_init_4 : decode cX1_init 4 = .ok (.aload_n 0, 1) := by decide +kernel
theorem dX1_init_5 : decode cX1_init 5 = .ok (.bipush 9, 2) := by decide +kernel
theorem dX1_init_7 : decode cX1_init 7 = .ok (.newarray .int, 2) := by decide +kernel
theorem dX1_init_9 : decode cX1_init 9 = .ok (.putfield 11, 3) := by decide +kernel
theorem dX1_init_12 : decode cX1_init 12 = .ok (.aload_n 0, 1) := by decide +kernel
theorem dX1_init_13 : decode cX1_init 13 = .ok (.bipush 9, 2) := by decide +kernel
theorem dX1_init_15 : decode cX1_init 15 = .ok (.newarray .int, 2) := by decide +kernel
theorem dX1_init_17 : decode cX1_init 17 = .ok (.putfield 15, 3) := by decide +kernel
theorem dX1_init_20 : decode cX1_init 20 = .ok (.aload_n 0, 1) := by decide +kernel
theorem dX1_init_21 : decode cX1_init 21 = .ok (.bipush 9, 2) := by decide +kernel
theorem dX1_init_23 : decode cX1_init 23 = .ok (.newarray .int, 2) := by decide +kernel
theorem dX1_init_25 : decode cX1_init 25 = .ok (.putfield 18, 3) := by decide +kernel
theorem dX1_init_28 : decode cX1_init 28 = .ok (.return_, 1) := by decide +kernel
theorem dX1_add_0 : decode cX1_add 0 = .ok (.aload_n 0, 1) := by decide +kernel
theorem dX1_add_1 : decode cX1_add 1 = .ok (.getfield 21, 3) := by decide +kernel
theorem dX1_add_4 : decode cX1_add 4 = .ok (.bipush 9, 2) := by decide +kernel
theorem dX1_add_6 : decode cX1_add 6 = .ok (.if_icmp .ge 43, 3) := by decide +kernel
theorem dX1_add_9 : decode cX1_add 9 = .ok (.aload_n 0, 1) := by decide +kernel
theorem dX1_add_10 : decode cX1_add 10 = .ok (.getfield 11, 3) := by decide +kernel
theorem dX1_add_13 : decode cX1_add 13 = .ok (.aload_n 0, 1) := by decide +kernel
theorem dX1_add_14 : decode cX1_add 14 = .ok (.getfield 21, 3) := by decide +kernel
theorem dX1_add_17 : decode cX1_add 17 = .ok (.iload_n 1, 1) := by decide +kernel
theorem dX1_add_18 : decode cX1_add 18 = .ok (.iastore, 1) := by decide +kernel
theorem dX1_add_19 : decode cX1_add 19 = .ok (.aload_n 0, 1) := by decide +kernel
theorem dX1_add_20 : decode cX1_add 20 = .ok (.getfield 15, 3) := by decide +kernel
theorem dX1_add_23 : decode cX1_add 23 = .ok (.aload_n 0, 1) := by decide +kernel
theorem dX1_add_24 : decode cX1_add 24 = .ok (.getfield 21, 3) := by decide +kernel
theorem dX1_add_27 : decode cX1_add 27 = .ok (.iload_n 2, 1) := by decide +kernel
theorem dX1_add_28 : decode cX1_add 28 = .ok (.iastore, 1) := by decide +kernel
theorem dX1_add_29 : decode cX1_add 29 = .ok (.aload_n 0, 1) := by decide +kernel
theorem dX1_add_30 : decode cX1_add 30 = .ok (.getfield 18, 3) := by decide +kernel
theorem dX1_add_33 : decode cX1_add 33 = .ok (.aload_n 0, 1) := by decide +kernel
theorem dX1_add_34 : decode cX1_add 34 = .ok (.getfield 21, 3) := by decide +kernel
theorem dX1_add_37 : decode cX1_add 37 = .ok (.iload_n 3, 1) := by decide +kernel
theorem dX1_add_38 : decode cX1_add 38 = .ok (.iastore, 1) := by decide +kernel
theorem dX1_add_39 : decode cX1_add 39 = .ok (.aload_n 0, 1) := by decide +kernel
theorem dX1_add_40 : decode cX1_add 40 = .ok (.dup, 1) := by decide +kernel
theorem dX1_add_41 : decode cX1_add 41 = .ok (.getfield 21, 3) := by decide +kernel
theorem dX1_add_44 : decode cX1_add 44 = .ok (.iconst 1, 1) := by decide +kernel
theorem dX1_add_45 : decode cX1_add 45 = .ok (.iadd, 1) := by decide +kernel
theorem dX1_add_46 : decode cX1_add 46 = .ok (.putfield 21, 3) := by decide +kernel
theorem dX1_add_49 : decode cX1_add 49 = .ok (.return_, 1) := by decide +kernel
theorem dX2_init_0 : decode cX2_init 0 = .ok (.aload_n 0, 1) := by decide +kernel
theorem dX2_init_1 : decode cX2_init 1 = .ok (.invokespecial 3, 3) := by decide +kernel
theorem dX2_init_4 : decode cX2_init 4 = .ok (.aload_n 0, 1) := by decide +kernel
theorem dX2_init_5 : decode cX2_init 5 = .ok (.bipush 60, 2) := by decide +kernel
theorem dX2_init_7 : decode cX2_init 7 = .ok (.newarray .int, 2) := by decide +kernel
theorem dX2_init_9 : decode cX2_init 9 = .ok (.putfield 9, 3) := by decide +kernel
theorem dX2_init_12 : decode cX2_init 12 = .ok (.return_, 1) := by decide +kernel
theorem dX2_newCall_0 : decode cX2_newCall 0 = .ok (.aload_n 0, 1) := by decide +kernel
theorem dX2_newCall_1 : decode cX2_newCall 1 = .ok (.iconst 1, 1) := by decide +kernel
theorem dX2_newCall_2 : decode cX2_newCall 2 = .ok (.putfield 15, 3) := by decide +kernel
theorem dX2_newCall_5 : decode cX2_newCall 5 = .ok (.return_, 1) := by decide +kernel
theorem dX2_pass_0 : decode cX2_pass 0 = .ok (.aload_n 0, 1) := by decide +kernel
theorem dX2_pass_1 : decode cX2_pass 1 = .ok (.getfield 15, 3) := by decide +kernel
theorem dX2_pass_4 : decode cX2_pass 4 = .ok (.ifCond .eq 13, 3) := by decide +kernel
theorem dX2_pass_7 : decode cX2_pass 7 = .ok (.aload_n 0, 1) := by decide +kernel
theorem dX2_pass_8 : decode cX2_pass 8 = .ok (.iconst 0, 1) := by decide +kernel
theorem dX2_pass_9 : decode cX2_pass 9 = .ok (.putfield 19, 3) := by decide +kernel
theorem dX2_pass_12 : decode cX2_pass 12 = .ok (.aload_n 0, 1) := by decide +kernel
theorem dX2_pass_13 : decode cX2_pass 13 = .ok (.iconst 0, 1) := by decide +kernel
theorem dX2_pass_14 : decode cX2_pass 14 = .ok (.putfield 15, 3) := by decide +kernel
theorem dX2_pass_17 : decode cX2_pass 17 = .ok (.iconst 1, 1) := by decide +kernel
theorem dX2_pass_18 : decode cX2_pass 18 = .ok (.istore_n 1, 1) := by decide +kernel
theorem dX2_pass_19 : decode cX2_pass 19 = .ok (.iload_n 1, 1) := by decide +kernel
theorem dX2_pass_20 : decode cX2_pass 20 = .ok (.iconst 4, 1) := by decide +kernel
theorem dX2_pass_21 : decode cX2_pass 21 = .ok (.if_icmp .gt 35, 3) := by decide +kernel
theorem dX2_pass_24 : decode cX2_pass 24 = .ok (.aload_n 0, 1) := by decide +kernel
theorem dX2_pass_25 : decode cX2_pass 25 = .ok (.getfield 19, 3) := by decide +kernel
theorem dX2_pass_28 : decode cX2_pass 28 = .ok (.bipush 60, 2) := by decide +kernel
theorem dX2_pass_30 : decode cX2_pass 30 = .ok (.if_icmp .ge 26, 3) := by decide +kernel
theorem dX2_pass_33 : decode cX2_pass 33 = .ok (.aload_n 0, 1) := by decide +kernel
theorem dX2_pass_34 : decode cX2_pass 34 = .ok (.getfield 9, 3) := by decide +kernel
theorem dX2_pass_37 : decode cX2_pass 37 = .ok (.aload_n 0, 1) := by decide +kernel
theorem dX2_pass_38 : decode cX2_pass 38 = .ok (.dup, 1) := by decide +kernel
theorem dX2_pass_39 : decode cX2_pass 39 = .ok (.getfield 19, 3) := by decide +kernel
theorem dX2_pass_42 : decode cX2_pass 42 = .ok (.dup_x1, 1) := by decide +kernel
theorem dX2_pass_43 : decode cX2_pass 43 = .ok (.iconst 1, 1) := by decide +kernel
theorem dX2_pass_44 : decode cX2_pass 44 = .ok (.iadd, 1) := by decide +kernel
theorem dX2_pass_45 : decode cX2_pass 45 = .ok (.putfield 19, 3) := by decide +kernel
theorem dX2_pass_48 : decode cX2_pass 48 = .ok (.iload_n 1, 1) := by decide +kernel
theorem dX2_pass_49 : decode cX2_pass 49 = .ok (.iastore, 1) := by decide +kernel
theorem dX2_pass_50 : decode cX2_pass 50 = .ok (.iinc 1 1, 3) := by decide +kernel
theorem dX2_pass_53 : decode cX2_pass 53 = .ok (.goto (-34), 3) := by decide +kernel
theorem dX2_pass_56 : decode cX2_pass 56 = .ok (.return_, 1) := by decide +kernel
theorem dX3_init_0 : decode cX3_init 0 = .ok (.aload_n 0, 1) := by decide +kernel
theorem dX3_init_1 : decode cX3_init 1 = .ok (.invokespecial 3, 3) := by decide +kernel
theorem dX3_init_4 : decode cX3_init 4 = .ok (.aload_n 0, 1) := by decide +kernel
theorem dX3_init_5 : decode cX3_init 5 = .ok (.bipush 8, 2) := by decide +kernel
theorem dX3_init_7 : decode cX3_init 7 = .ok (.anewarray 9, 3) := by decide +kernel
theorem dX3_init_10 : decode cX3_init 10 = .ok (.putfield 11, 3) := by decide +kernel
theorem dX3_init_13 : decode cX3_init 13 = .ok (.return_, 1) := by decide +kernel
theorem dX3_place_0 : decode cX3_place 0 = .ok (.aload_n 0, 1) := by decide +kernel
theorem dX3_place_1 : decode cX3_place 1 = .ok (.getfield 17, 3) := by decide +kernel
theorem dX3_place_4 : decode cX3_place 4 = .ok (.iload_n 1, 1) := by decide +kernel
theorem dX3_place_5 : decode cX3_place 5 = .ok (.iadd, 1) := by decide +kernel
theorem dX3_place_6 : decode cX3_place 6 = .ok (.istore_n 2, 1) := by decide +kernel
theorem dX3_place_7 : decode cX3_place 7 = .ok (.iload_n 2, 1) := by decide +kernel
theorem dX3_place_8 : decode cX3_place 8 = .ok (.bipush 8, 2) := by decide +kernel
theorem dX3_place_10 : decode cX3_place 10 = .ok (.if_icmp .ge 7, 3) := by decide +kernel
theorem dX3_place_13 : decode cX3_place 13 = .ok (.iload_n 2, 1) := by decide +kernel
theorem dX3_place_14 : decode cX3_place 14 = .ok (.goto 7, 3) := by decide +kernel
theorem dX3_place_17 : decode cX3_place 17 = .ok (.iload_n 2, 1) := by decide +kernel
theorem dX3_place_18 : decode cX3_place 18 = .ok (.bipush 8, 2) := by decide +kernel
theorem dX3_place_20 : decode cX3_place 20 = .ok (.isub, 1) := by decide +kernel
theorem dX3_place_21 : decode cX3_place 21 = .ok (.ireturn, 1) := by decide +kernel
theorem dX3_forget_0 : decode cX3_forget 0 = .ok (.aload_n 0, 1) := by decide +kernel
theorem dX3_forget_1 : decode cX3_forget 1 = .ok (.iconst 0, 1) := by decide +kernel
theorem dX3_forget_2 : decode cX3_forget 2 = .ok (.putfield 21, 3) := by decide +kernel
theorem dX3_forget_5 : decode cX3_forget 5 = .ok (.return_, 1) := by decide +kernel
set_option maxRecDepth 20000 in
theorem ggX3_keep_X3_place : GoodIn wsX3_keep wsX3_place := goodIn_r _ [11, 2, 105, 106, 107] (by decide +kernel) (by decide +kernel)
set_option maxRecDepth 20000 in
theorem gX3_keep_X3_place : GoodIn wsX3_keep (wsV RX3 24 RX3 yX3_place wsX3_place) := goodIn_app (goodIn_of _ (by decide +kernel)) ggX3_keep_X3_place
set_option maxRecDepth 20000 in
theorem ggX3_keep_X9_init : GoodIn wsX3_keep wsX9_init := goodIn_r _ [14, 15, 16, 17, 18, 19, 20, 21, 22, 23, 24, 25, 26, 27, 28, 29, 30, 31, 32, 33, 34, 35, 36, 37, 38, 39, 40, 41, 42, 43, 44, 45, 46, 47, 48, 49, 50, 51, 52, 53, 54, 55, 56, 57, 58, 59, 60, 61, 62, 63, 115, 116, 117, 118, 119, 108, 109, 110, 111, 112, 113, 114, 120, 121, 122, 123, 124, 125, 126, 127, 128, 129, 130, 131, 132, 133, 134, 135, 136, 137, 138, 139, 140, 141] (by decide +kernel) (by decide +kernel)
set_option maxRecDepth 20000 in
theorem gX3_keep_X9_init : GoodIn wsX3_keep (wsX9_init) := ggX3_keep_X9_init
set_option maxRecDepth 20000 in
theorem ggX3_keep_X9_copyFrom : GoodIn wsX3_keep wsX9_copyFrom := goodIn_r _ [67, 21, 25, 29, 68, 69, 70, 31, 71, 72, 73, 20, 74, 75, 38, 76, 77, 78, 79, 39, 40, 41, 80, 81, 82, 24, 83, 45, 46, 84, 85, 47, 86, 48, 50, 87, 88, 89, 28, 90, 91, 54, 92, 55, 56, 57, 93, 94, 95, 33, 96, 97, 98, 99, 100, 101, 102, 103, 61, 104, 62, 63, 108, 109, 110, 111, 112, 113, 114, 115, 116, 117, 118, 119, 120, 121, 122, 123, 124, 125, 126, 127, 128, 129, 130, 131, 132, 133, 134, 135, 136, 137, 138, 139, 140, 141] (by decide +kernel) (by decide +kernel)
set_option maxRecDepth 20000 in
theorem gX3_keep_X9_copyFrom : GoodIn wsX3_keep (wsV RX3 29 RX9 yX9_copyFrom wsX9_copyFrom) := goodIn_app (goodIn_of _ (by decide +kernel)) ggX3_keep_X9_copyFrom
theorem dX3_keep_0 : decode cX3_keep 0 = .ok (.aload_n 0, 1) := by decide +kernel
theorem dX3_keep_1 : decode cX3_keep 1 = .ok (.getfield 21, 3) := by decide +kernel
theorem dX3_keep_4 : decode cX3_keep 4 = .ok (.bipush 8, 2) := by decide +kernel
theorem dX3_keep_6 : decode cX3_keep 6 = .ok (.if_icmp .ne 22, 3) := by decide +kernel
theorem dX3_keep_9 : decode cX3_keep 9 = .ok (.aload_n 0, 1) := by decide +kernel
theorem dX3_keep_10 : decode cX3_keep 10 = .ok (.aload_n 0, 1) := by decide +kernel
theorem dX3_keep_11 : decode cX3_keep 11 = .ok (.iconst 1, 1) := by decide +kernel
theorem dX3_keep_12 : decode cX3_keep 12 = .ok (.invokevirtual 24, 3) := by decide +kernel
theorem dX3_keep_15 : decode cX3_keep 15 = .ok (.putfield 17, 3) := by decide +kernel
theorem dX3_keep_18 : decode cX3_keep 18 = .ok (.aload_n 0, 1) := by decide +kernel
theorem dX3_keep_19 : decode cX3_keep 19 = .ok (.dup, 1) := by decide +kernel
theorem dX3_keep_20 : decode cX3_keep 20 = .ok (.getfield 21, 3) := by decide +kernel
theorem dX3_keep_23 : decode cX3_keep 23 = .ok (.iconst 1, 1) := by decide +kernel
theorem dX3_keep_24 : decode cX3_keep 24 = .ok (.isub, 1) := by decide +kernel
theorem dX3_keep_25 : decode cX3_keep 25 = .ok (.putfield 21, 3) := by decide +kernel
theorem dX3_keep_28 : decode cX3_keep 28 = .ok (.aload_n 0, 1) := by decide +kernel
theorem dX3_keep_29 : decode cX3_keep 29 = .ok (.aload_n 0, 1) := by decide +kernel
theorem dX3_keep_30 : decode cX3_keep 30 = .ok (.getfield 21, 3) := by decide +kernel
theorem dX3_keep_33 : decode cX3_keep 33 = .ok (.invokevirtual 24, 3) := by decide +kernel
theorem dX3_keep_36 : decode cX3_keep 36 = .ok (.istore_n 2, 1) := by decide +kernel
theorem dX3_keep_37 : decode cX3_keep 37 = .ok (.aload_n 0, 1) := by decide +kernel
theorem dX3_keep_38 : decode cX3_keep 38 = .ok (.getfield 11, 3) := by decide +kernel
theorem dX3_keep_41 : decode cX3_keep 41 = .ok (.iload_n 2, 1) := by decide +kernel
theorem dX3_keep_42 : decode cX3_keep 42 = .ok (.aaload, 1) := by decide +kernel
theorem dX3_keep_43 : decode cX3_keep 43 = .ok (.ifnonnull 16, 3) := by decide +kernel
theorem dX3_keep_46 : decode cX3_keep 46 = .ok (.aload_n 0, 1) := by decide +kernel
theorem dX3_keep_47 : decode cX3_keep 47 = .ok (.getfield 11, 3) := by decide +kernel
theorem dX3_keep_50 : decode cX3_keep 50 = .ok (.iload_n 2, 1) := by decide +kernel
theorem dX3_keep_51 : decode cX3_keep 51 = .ok (.new 9, 3) := by decide +kernel
theorem dX3_keep_54 : decode cX3_keep 54 = .ok (.dup, 1) := by decide +kernel
theorem dX3_keep_55 : decode cX3_keep 55 = .ok (.invokespecial 28, 3) := by decide +kernel
theorem dX3_keep_58 : decode cX3_keep 58 = .ok (.aastore, 1) := by decide +kernel
theorem dX3_keep_59 : decode cX3_keep 59 = .ok (.aload_n 0, 1) := by decide +kernel
theorem dX3_keep_60 : decode cX3_keep 60 = .ok (.getfield 11, 3) := by decide +kernel
theorem dX3_keep_63 : decode cX3_keep 63 = .ok (.iload_n 2, 1) := by decide +kernel
theorem dX3_keep_64 : decode cX3_keep 64 = .ok (.aaload, 1) := by decide +kernel
theorem dX3_keep_65 : decode cX3_keep 65 = .ok (.aload_n 1, 1) := by decide +kernel
theorem dX3_keep_66 : decode cX3_keep 66 = .ok (.invokevirtual 29, 3) := by decide +kernel
theorem dX3_keep_69 : decode cX3_keep 69 = .ok (.aload_n 0, 1) := by decide +kernel
theorem dX3_keep_70 : decode cX3_keep 70 = .ok (.dup, 1) := by decide +kernel
theorem dX3_keep_71 : decode cX3_keep 71 = .ok (.getfield 21, 3) := by decide +kernel
theorem dX3_keep_74 : decode cX3_keep 74 = .ok (.iconst 1, 1) := by decide +kernel
theorem dX3_keep_75 : decode cX3_keep 75 = .ok (.iadd, 1) := by decide +kernel
theorem dX3_keep_76 : decode cX3_keep 76 = .ok (.putfield 21, 3) := by decide +kernel
theorem dX3_keep_79 : decode cX3_keep 79 = .ok (.return_, 1) := by decide +kernel
set_option maxRecDepth 20000 in
theorem ggX3_takeBack_X3_place : GoodIn wsX3_takeBack wsX3_place := goodIn_r _ [7, 8, 75, 76, 77] (by decide +kernel) (by decide +kernel)
set_option maxRecDepth 20000 in
theorem gX3_takeBack_X3_place : GoodIn wsX3_takeBack (wsV RX3 24 RX3 yX3_place wsX3_place) := goodIn_app (goodIn_of _ (by decide +kernel)) ggX3_takeBack_X3_place
set_option maxRecDepth 20000 in
theorem ggX3_takeBack_X9_copyFrom : GoodIn wsX3_takeBack wsX9_copyFrom := goodIn_r _ [13, 14, 15, 16, 17, 18, 19, 20, 21, 22, 23, 24, 25, 26, 27, 28, 29, 30, 31, 32, 33, 34, 35, 36, 37, 38, 39, 40, 41, 42, 43, 44, 45, 46, 47, 48, 49, 50, 51, 52, 53, 54, 55, 56, 57, 58, 59, 60, 61, 62, 63, 64, 65, 66, 67, 68, 69, 70, 71, 72, 73, 74, 78, 79, 80, 81, 82, 83, 84, 85, 86, 87, 88, 89, 90, 91, 92, 93, 94, 95, 96, 97, 98, 99, 100, 101, 102, 103, 104, 105, 106, 107, 108, 109, 110, 111] (by decide +kernel) (by decide +kernel)
set_option maxRecDepth 20000 in
theorem gX3_takeBack_X9_copyFrom : GoodIn wsX3_takeBack (wsV RX3 29 RX9 yX9_copyFrom wsX9_copyFrom) := goodIn_app (goodIn_of _ (by decide +kernel)) ggX3_takeBack_X9_copyFrom
theorem dX3_takeBack_0 : decode cX3_takeBack 0 = .ok (.aload_n 0, 1) := by decide +kernel
theorem dX3_takeBack_1 : decode cX3_takeBack 1 = .ok (.getfield 21, 3) := by decide +kernel
theorem dX3_takeBack_4 : decode cX3_takeBack 4 = .ok (.iconst 1, 1) := by decide +kernel
theorem dX3_takeBack_5 : decode cX3_takeBack 5 = .ok (.if_icmp .ge 7, 3) := by decide +kernel
theorem dX3_takeBack_8 : decode cX3_takeBack 8 = .ok (.aconst_null, 1) := by decide +kernel
theorem dX3_takeBack_9 : decode cX3_takeBack 9 = .ok (.goto 18, 3) := by decide +kernel
theorem dX3_takeBack_12 : decode cX3_takeBack 12 = .ok (.aload_n 0, 1) := by decide +kernel
theorem dX3_takeBack_13 : decode cX3_takeBack 13 = .ok (.getfield 11, 3) := by decide +kernel
theorem dX3_takeBack_16 : decode cX3_takeBack 16 = .ok (.aload_n 0, 1) := by decide +kernel
theorem dX3_takeBack_17 : decode cX3_takeBack 17 = .ok (.aload_n 0, 1) := by decide +kernel
theorem dX3_takeBack_18 : decode cX3_takeBack 18 = .ok (.getfield 21, 3) := by decide +kernel
theorem dX3_takeBack_21 : decode cX3_takeBack 21 = .ok (.iconst 1, 1) := by decide +kernel
theorem dX3_takeBack_22 : decode cX3_takeBack 22 = .ok (.isub, 1) := by decide +kernel
theorem dX3_takeBack_23 : decode cX3_takeBack 23 = .ok (.invokevirtual 24, 3) := by decide +kernel
theorem dX3_takeBack_26 : decode cX3_takeBack 26 = .ok (.aaload, 1) := by decide +kernel
theorem dX3_takeBack_27 : decode cX3_takeBack 27 = .ok (.astore_n 2, 1) := by decide +kernel
theorem dX3_takeBack_28 : decode cX3_takeBack 28 = .ok (.aload_n 2, 1) := by decide +kernel
theorem dX3_takeBack_29 : decode cX3_takeBack 29 = .ok (.ifnonnull 5, 3) := by decide +kernel
theorem dX3_takeBack_32 : decode cX3_takeBack 32 = .ok (.iconst 0, 1) := by decide +kernel
theorem dX3_takeBack_33 : decode cX3_takeBack 33 = .ok (.ireturn, 1) := by decide +kernel
theorem dX3_takeBack_34 : decode cX3_takeBack 34 = .ok (.aload_n 0, 1) := by decide +kernel
theorem dX3_takeBack_35 : decode cX3_takeBack 35 = .ok (.dup, 1) := by decide +kernel
theorem dX3_takeBack_36 : decode cX3_takeBack 36 = .ok (.getfield 21, 3) := by decide +kernel
theorem dX3_takeBack_39 : decode cX3_takeBack 39 = .ok (.iconst 1, 1) := by decide +kernel
theorem dX3_takeBack_40 : decode cX3_takeBack 40 = .ok (.isub, 1) := by decide +kernel
theorem dX3_takeBack_41 : decode cX3_takeBack 41 = .ok (.putfield 21, 3) := by decide +kernel
theorem dX3_takeBack_44 : decode cX3_takeBack 44 = .ok (.aload_n 1, 1) := by decide +kernel
theorem dX3_takeBack_45 : decode cX3_takeBack 45 = .ok (.aload_n 2, 1) := by decide +kernel
theorem dX3_takeBack_46 : decode cX3_takeBack 46 = .ok (.invokevirtual 29, 3) := by decide +kernel
theorem dX3_takeBack_49 : decode cX3_takeBack 49 = .ok (.iconst 1, 1) := by decide +kernel
theorem dX3_takeBack_50 : decode cX3_takeBack 50 = .ok (.ireturn, 1) := by decide +kernel
theorem dX4_init_0 : decode cX4_init 0 = .ok (.aload_n 0, 1) := by decide +kernel
theorem dX4_init_1 : decode cX4_init 1 = .ok (.invokespecial 3, 3) := by decide +kernel
theorem dX4_init_4 : decode cX4_init 4 = .ok (.aload_n 0, 1) := by decide +kernel
theorem dX4_init_5 : decode cX4_init 5 = .ok (.bipush 40, 2) := by decide +kernel
theorem dX4_init_7 : decode cX4_init 7 = .ok (.newarray .int, 2) := by decide +kernel
theorem dX4_init_9 : decode cX4_init 9 = .ok (.putfield 9, 3) := by decide +kernel
theorem dX4_init_12 : decode cX4_init 12 = .ok (.aload_n 0, 1) := by decide +kernel
theorem dX4_init_13 : decode cX4_init 13 = .ok (.bipush 40, 2) := by decide +kernel
theorem dX4_init_15 : decode cX4_init 15 = .ok (.newarray .int, 2) := by decide +kernel
theorem dX4_init_17 : decode cX4_init 17 = .ok (.putfield 15, 3) := by decide +kernel
theorem dX4_init_20 : decode cX4_init 20 = .ok (.aload_n 0, 1) := by decide +kernel
theorem dX4_init_21 : decode cX4_init 21 = .ok (.bipush 40, 2) := by decide +kernel
theorem dX4_init_23 : decode cX4_init 23 = .ok (.newarray .int, 2) := by decide +kernel
theorem dX4_init_25 : decode cX4_init 25 = .ok (.putfield 18, 3) := by decide +kernel
theorem dX4_init_28 : decode cX4_init 28 = .ok (.aload_n 0, 1) := by decide +kernel
theorem dX4_init_29 : decode cX4_init 29 = .ok (.sipush 320, 3) := by decide +kernel
theorem dX4_init_32 : decode cX4_init 32 = .ok (.newarray .int, 2) := by decide +kernel
theorem dX4_init_34 : decode cX4_init 34 = .ok (.putfield 21, 3) := by decide +kernel
theorem dX4_init_37 : decode cX4_init 37 = .ok (.return_, 1) := by decide +kernel
theorem dX4_has_0 : decode cX4_has 0 = .ok (.iload_n 1, 1) := by decide +kernel
theorem dX4_has_1 : decode cX4_has 1 = .ok (.ifCond .lt 15, 3) := by decide +kernel
theorem dX4_has_4 : decode cX4_has 4 = .ok (.iload_n 1, 1) := by decide +kernel
theorem dX4_has_5 : decode cX4_has 5 = .ok (.aload_n 0, 1) := by decide +kernel
theorem dX4_has_6 : decode cX4_has 6 = .ok (.getfield 24, 3) := by decide +kernel
theorem dX4_has_9 : decode cX4_has 9 = .ok (.if_icmp .ge 7, 3) := by decide +kernel
theorem dX4_has_12 : decode cX4_has 12 = .ok (.iconst 1, 1) := by decide +kernel
theorem dX4_has_13 : decode cX4_has 13 = .ok (.goto 4, 3) := by decide +kernel
theorem dX4_has_16 : decode cX4_has 16 = .ok (.iconst 0, 1) := by decide +kernel
theorem dX4_has_17 : decode cX4_has 17 = .ok (.ireturn, 1) := by decide +kernel
theorem dX4_isFull_0 : decode cX4_isFull 0 = .ok (.aload_n 0, 1) := by decide +kernel
theorem dX4_isFull_1 : decode cX4_isFull 1 = .ok (.getfield 24, 3) := by decide +kernel
theorem dX4_isFull_4 : decode cX4_isFull 4 = .ok (.bipush 40, 2) := by decide +kernel
theorem dX4_isFull_6 : decode cX4_isFull 6 = .ok (.if_icmp .lt 7, 3) := by decide +kernel
theorem dX4_isFull_9 : decode cX4_isFull 9 = .ok (.iconst 1, 1) := by decide +kernel
theorem dX4_isFull_10 : decode cX4_isFull 10 = .ok (.goto 4, 3) := by decide +kernel
theorem dX4_isFull_13 : decode cX4_isFull 13 = .ok (.iconst 0, 1) := by decide +kernel
theorem dX4_isFull_14 : decode cX4_isFull 14 = .ok (.ireturn, 1) := by decide +kernel
theorem dX4_densityBehind_0 : decode cX4_densityBehind 0 = .ok (.aload_n 0, 1) := by decide +kernel
theorem dX4_densityBehind_1 : decode cX4_densityBehind 1 = .ok (.getfield 21, 3) := by decide +kernel
theorem dX4_densityBehind_4 : decode cX4_densityBehind 4 = .ok (.iload_n 1, 1) := by decide +kernel
theorem dX4_densityBehind_5 : decode cX4_densityBehind 5 = .ok (.bipush 8, 2) := by decide +kernel
theorem dX4_densityBehind_7 : decode cX4_densityBehind 7 = .ok (.imul, 1) := by decide +kernel
theorem dX4_densityBehind_8 : decode cX4_densityBehind 8 = .ok (.iload_n 2, 1) := by decide +kernel
theorem dX4_densityBehind_9 : decode cX4_densityBehind 9 = .ok (.iadd, 1) := by decide +kernel
theorem dX4_densityBehind_10 : decode cX4_densityBehind 10 = .ok (.iaload, 1) := by decide +kernel
theorem dX4_densityBehind_11 : decode cX4_densityBehind 11 = .ok (.ireturn, 1) := by decide +kernel
set_option maxRecDepth 20000 in
theorem ggX4_add_X4_isFull : GoodIn wsX4_add wsX4_isFull := goodIn_r _ [16, 2, 17, 18, 19, 20, 21] (by decide +kernel) (by decide +kernel)
set_option maxRecDepth 20000 in
theorem gX4_add_X4_isFull : GoodIn wsX4_add (wsV RX4 28 RX4 yX4_isFull wsX4_isFull) := goodIn_app (goodIn_of _ (by decide +kernel)) ggX4_add_X4_isFull
theorem dX4_add_0 : decode cX4_add 0 = .ok (.aload_n 0, 1) := by decide +kernel
theorem dX4_add_1 : decode cX4_add 1 = .ok (.invokevirtual 28, 3) := by decide +kernel
theorem dX4_add_4 : decode cX4_add 4 = .ok (.ifCond .eq 4, 3) := by decide +kernel
theorem dX4_add_7 : decode cX4_add 7 = .ok (.return_, 1) := by decide +kernel
theorem dX4_add_8 : decode cX4_add 8 = .ok (.aload_n 0, 1) := by decide +kernel
theorem dX4_add_9 : decode cX4_add 9 = .ok (.getfield 9, 3) := by decide +kernel
theorem dX4_add_12 : decode cX4_add 12 = .ok (.aload_n 0, 1) := by decide +kernel
theorem dX4_add_13 : decode cX4_add 13 = .ok (.getfield 24, 3) := by decide +kernel
theorem dX4_add_16 : decode cX4_add 16 = .ok (.iload_n 1, 1) := by decide +kernel
theorem dX4_add_17 : decode cX4_add 17 = .ok (.iastore, 1) := by decide +kernel
theorem dX4_add_18 : decode cX4_add 18 = .ok (.aload_n 0, 1) := by decide +kernel
theorem dX4_add_19 : decode cX4_add 19 = .ok (.getfield 15, 3) := by decide +kernel
theorem dX4_add_22 : decode cX4_add 22 = .ok (.aload_n 0, 1) := by decide +kernel
theorem dX4_add_23 : decode cX4_add 23 = .ok (.getfield 24, 3) := by decide +kernel
theorem dX4_add_26 : decode cX4_add 26 = .ok (.iload_n 2, 1) := by decide +kernel
theorem dX4_add_27 : decode cX4_add 27 = .ok (.iastore, 1) := by decide +kernel
theorem dX4_add_28 : decode cX4_add 28 = .ok (.aload_n 0, 1) := by decide +kernel
theorem dX4_add_29 : decode cX4_add 29 = .ok (.getfield 18, 3) := by decide +kernel
theorem dX4_add_32 : decode cX4_add 32 = .ok (.aload_n 0, 1) := by decide +kernel
theorem dX4_add_33 : decode cX4_add 33 = .ok (.getfield 24, 3) := by decide +kernel
theorem dX4_add_36 : decode cX4_add 36 = .ok (.aload_n 3, 1) := by decide +kernel
theorem dX4_add_37 : decode cX4_add 37 = .ok (.getfield 32, 3) := by decide +kernel
theorem dX4_add_40 : decode cX4_add 40 = .ok (.iastore, 1) := by decide +kernel
theorem dX4_add_41 : decode cX4_add 41 = .ok (.aload_n 3, 1) := by decide +kernel
theorem dX4_add_42 : decode cX4_add 42 = .ok (.getfield 36, 3) := by decide +kernel
theorem dX4_add_45 : decode cX4_add 45 = .ok (.iconst 0, 1) := by decide +kernel
theorem dX4_add_46 : decode cX4_add 46 = .ok (.aload_n 0, 1) := by decide +kernel
theorem dX4_add_47 : decode cX4_add 47 = .ok (.getfield 21, 3) := by decide +kernel
theorem dX4_add_50 : decode cX4_add 50 = .ok (.aload_n 0, 1) := by decide +kernel
theorem dX4_add_51 : decode cX4_add 51 = .ok (.getfield 24, 3) := by decide +kernel
theorem dX4_add_54 : decode cX4_add 54 = .ok (.bipush 8, 2) := by decide +kernel
theorem dX4_add_56 : decode cX4_add 56 = .ok (.imul, 1) := by decide +kernel
theorem dX4_add_57 : decode cX4_add 57 = .ok (.bipush 8, 2) := by decide +kernel
theorem dX4_add_59 : decode cX4_add 59 = .ok (.invokestatic 37, 3) := by decide +kernel
theorem dX4_add_62 : decode cX4_add 62 = .ok (.aload_n 0, 1) := by decide +kernel
theorem dX4_add_63 : decode cX4_add 63 = .ok (.dup, 1) := by decide +kernel
theorem dX4_add_64 : decode cX4_add 64 = .ok (.getfield 24, 3) := by decide +kernel
theorem dX4_add_67 : decode cX4_add 67 = .ok (.iconst 1, 1) := by decide +kernel
theorem dX4_add_68 : decode cX4_add 68 = .ok (.iadd, 1) := by decide +kernel
theorem dX4_add_69 : decode cX4_add 69 = .ok (.putfield 24, 3) := by decide +kernel
theorem dX4_add_72 : decode cX4_add 72 = .ok (.return_, 1) := by decide +kernel
theorem dX4_copyFrom_0 : decode cX4_copyFrom 0 = .ok (.aload_n 0, 1) := by decide +kernel
theorem dX4_copyFrom_1 : decode cX4_copyFrom 1 = .ok (.aload_n 1, 1) := by decide +kernel
theorem dX4_copyFrom_2 : decode cX4_copyFrom 2 = .ok (.getfield 24, 3) := by decide +kernel
theorem dX4_copyFrom_5 : decode cX4_copyFrom 5 = .ok (.putfield 24, 3) := by decide +kernel
theorem dX4_copyFrom_8 : decode cX4_copyFrom 8 = .ok (.aload_n 1, 1) := by decide +kernel
theorem dX4_copyFrom_9 : decode cX4_copyFrom 9 = .ok (.getfield 9, 3) := by decide +kernel
theorem dX4_copyFrom_12 : decode cX4_copyFrom 12 = .ok (.iconst 0, 1) := by decide +kernel
theorem dX4_copyFrom_13 : decode cX4_copyFrom 13 = .ok (.aload_n 0, 1) := by decide +kernel
theorem dX4_copyFrom_14 : decode cX4_copyFrom 14 = .ok (.getfield 9, 3) := by decide +kernel
theorem dX4_copyFrom_17 : decode cX4_copyFrom 17 = .ok (.iconst 0, 1) := by decide +kernel
theorem dX4_copyFrom_18 : decode cX4_copyFrom 18 = .ok (.aload_n 0, 1) := by decide +kernel
theorem dX4_copyFrom_19 : decode cX4_copyFrom 19 = .ok (.getfield 24, 3) := by decide +kernel
theorem dX4_copyFrom_22 : decode cX4_copyFrom 22 = .ok (.invokestatic 37, 3) := by decide +kernel
theorem dX4_copyFrom_25 : decode cX4_copyFrom 25 = .ok (.aload_n 1, 1) := by decide +kernel
theorem dX4_copyFrom_26 : decode cX4_copyFrom 26 = .ok (.getfield 15, 3) := by decide +kernel
theorem dX4_copyFrom_29 : decode cX4_copyFrom 29 = .ok (.iconst 0, 1) := by decide +kernel
theorem dX4_copyFrom_30 : decode cX4_copyFrom 30 = .ok (.aload_n 0, 1) := by decide +kernel
theorem dX4_copyFrom_31 : decode cX4_copyFrom 31 = .ok (.getfield 15, 3) := by decide +kernel
theorem dX4_copyFrom_34 : decode cX4_copyFrom 34 = .ok (.iconst 0, 1) := by decide +kernel
theorem dX4_copyFrom_35 : decode cX4_copyFrom 35 = .ok (.aload_n 0, 1) := by decide +kernel
theorem dX4_copyFrom_36 : decode cX4_copyFrom 36 = .ok (.getfield 24, 3) := by decide +kernel
theorem dX4_copyFrom_39 : decode cX4_copyFrom 39 = .ok (.invokestatic 37, 3) := by decide +kernel
theorem dX4_copyFrom_42 : decode cX4_copyFrom 42 = .ok (.aload_n 1, 1) := by decide +kernel
theorem dX4_copyFrom_43 : decode cX4_copyFrom 43 = .ok (.getfield 18, 3) := by decide +kernel
theorem dX4_copyFrom_46 : decode cX4_copyFrom 46 = .ok (.iconst 0, 1) := by decide +kernel
theorem dX4_copyFrom_47 : decode cX4_copyFrom 47 = .ok (.aload_n 0, 1) := by decide +kernel
theorem dX4_copyFrom_48 : decode cX4_copyFrom 48 = .ok (.getfield 18, 3) := by decide +kernel
theorem dX4_copyFrom_51 : decode cX4_copyFrom 51 = .ok (.iconst 0, 1) := by decide +kernel
theorem dX4_copyFrom_52 : decode cX4_copyFrom 52 = .ok (.aload_n 0, 1) := by decide +kernel
theorem dX4_copyFrom_53 : decode cX4_copyFrom 53 = .ok (.getfield 24, 3) := by decide +kernel
theorem dX4_copyFrom_56 : decode cX4_copyFrom 56 = .ok (.invokestatic 37, 3) := by decide +kernel
theorem dX4_copyFrom_59 : decode cX4_copyFrom 59 = .ok (.aload_n 1, 1) := by decide +kernel
theorem dX4_copyFrom_60 : decode cX4_copyFrom 60 = .ok (.getfield 21, 3) := by decide +kernel
theorem dX4_copyFrom_63 : decode cX4_copyFrom 63 = .ok (.iconst 0, 1) := by decide +kernel
theorem dX4_copyFrom_64 : decode cX4_copyFrom 64 = .ok (.aload_n 0, 1) := by decide +kernel
theorem dX4_copyFrom_65 : decode cX4_copyFrom 65 = .ok (.getfield 21, 3) := by decide +kernel
theorem dX4_copyFrom_68 : decode cX4_copyFrom 68 = .ok (.iconst 0, 1) := by decide +kernel
theorem dX4_copyFrom_69 : decode cX4_copyFrom 69 = .ok (.aload_n 0, 1) := by decide +kernel
theorem dX4_copyFrom_70 : decode cX4_copyFrom 70 = .ok (.getfield 24, 3) := by decide +kernel
theorem dX4_copyFrom_73 : decode cX4_copyFrom 73 = .ok (.bipush 8, 2) := by decide +kernel
theorem dX4_copyFrom_75 : decode cX4_copyFrom 75 = .ok (.imul, 1) := by decide +kernel
theorem dX4_copyFrom_76 : decode cX4_copyFrom 76 = .ok (.invokestatic 37, 3) := by decide +kernel
theorem dX4_copyFrom_79 : decode cX4_copyFrom 79 = .ok (.return_, 1) := by decide +kernel
theorem dX5_init_0 : decode cX5_init 0 = .ok (.aload_n 0, 1) := by decide +kernel
theorem dX5_init_1 : decode cX5_init 1 = .ok (.invokespecial 3, 3) := by decide +kernel
theorem dX5_init_4 : decode cX5_init 4 = .ok (.aload_n 0, 1) := by decide +kernel
theorem dX5_init_5 : decode cX5_init 5 = .ok (.sipush 256, 3) := by decide +kernel
theorem dX5_init_8 : decode cX5_init 8 = .ok (.newarray .int, 2) := by decide +kernel
theorem dX5_init_10 : decode cX5_init 10 = .ok (.putfield 9, 3) := by decide +kernel
theorem dX5_init_13 : decode cX5_init 13 = .ok (.aload_n 0, 1) := by decide +kernel
theorem dX5_init_14 : decode cX5_init 14 = .ok (.sipush 256, 3) := by decide +kernel
theorem dX5_init_17 : decode cX5_init 17 = .ok (.newarray .int, 2) := by decide +kernel
theorem dX5_init_19 : decode cX5_init 19 = .ok (.putfield 15, 3) := by decide +kernel
theorem dX5_init_22 : decode cX5_init 22 = .ok (.aload_n 0, 1) := by decide +kernel
theorem dX5_init_23 : decode cX5_init 23 = .ok (.sipush 256, 3) := by decide +kernel
theorem dX5_init_26 : decode cX5_init 26 = .ok (.newarray .int, 2) := by decide +kernel
theorem dX5_init_28 : decode cX5_init 28 = .ok (.putfield 18, 3) := by decide +kernel
theorem dX5_init_31 : decode cX5_init 31 = .ok (.aload_n 0, 1) := by decide +kernel
theorem dX5_init_32 : decode cX5_init 32 = .ok (.iconst (-1), 1) := by decide +kernel
theorem dX5_init_33 : decode cX5_init 33 = .ok (.putfield 21, 3) := by decide +kernel
theorem dX5_init_36 : decode cX5_init 36 = .ok (.aload_n 0, 1) := by decide +kernel
theorem dX5_init_37 : decode cX5_init 37 = .ok (.iconst (-1), 1) := by decide +kernel
theorem dX5_init_38 : decode cX5_init 38 = .ok (.putfield 25, 3) := by decide +kernel
theorem dX5_init_41 : decode cX5_init 41 = .ok (.aload_n 0, 1) := by decide +kernel
theorem dX5_init_42 : decode cX5_init 42 = .ok (.bipush 40, 2) := by decide +kernel
theorem dX5_init_44 : decode cX5_init 44 = .ok (.newarray .int, 2) := by decide +kernel
theorem dX5_init_46 : decode cX5_init 46 = .ok (.putfield 28, 3) := by decide +kernel
theorem dX5_init_49 : decode cX5_init 49 = .ok (.aload_n 0, 1) := by decide +kernel
theorem dX5_init_50 : decode cX5_init 50 = .ok (.iload_n 1, 1) := by decide +kernel
theorem dX5_init_51 : decode cX5_init 51 = .ok (.putfield 31, 3) := by decide +kernel
theorem dX5_init_54 : decode cX5_init 54 = .ok (.aload_n 0, 1) := by decide +kernel
theorem dX5_init_55 : decode cX5_init 55 = .ok (.iload_n 1, 1) := by decide +kernel
theorem dX5_init_56 : decode cX5_init 56 = .ok (.ifCond .eq 8, 3) := by decide +kernel
theorem dX5_init_59 : decode cX5_init 59 = .ok (.bipush 41, 2) := by decide +kernel
theorem dX5_init_61 : decode cX5_init 61 = .ok (.goto 4, 3) := by decide +kernel
theorem dX5_init_64 : decode cX5_init 64 = .ok (.iconst 2, 1) := by decide +kernel
theorem dX5_init_65 : decode cX5_init 65 = .ok (.sipush 256, 3) := by decide +kernel
theorem dX5_init_68 : decode cX5_init 68 = .ok (.imul, 1) := by decide +kernel
theorem dX5_init_69 : decode cX5_init 69 = .ok (.newarray .int, 2) := by decide +kernel
theorem dX5_init_71 : decode cX5_init 71 = .ok (.putfield 35, 3) := by decide +kernel
theorem dX5_init_74 : decode cX5_init 74 = .ok (.return_, 1) := by decide +kernel
theorem dX5_forget_0 : decode cX5_forget 0 = .ok (.aload_n 0, 1) := by decide +kernel
theorem dX5_forget_1 : decode cX5_forget 1 = .ok (.iconst (-1), 1) := by decide +kernel
theorem dX5_forget_2 : decode cX5_forget 2 = .ok (.putfield 21, 3) := by decide +kernel
theorem dX5_forget_5 : decode cX5_forget 5 = .ok (.aload_n 0, 1) := by decide +kernel
theorem dX5_forget_6 : decode cX5_forget 6 = .ok (.iconst (-1), 1) := by decide +kernel
theorem dX5_forget_7 : decode cX5_forget 7 = .ok (.putfield 25, 3) := by decide +kernel
theorem dX5_forget_10 : decode cX5_forget 10 = .ok (.return_, 1) := by decide +kernel
theorem dX5_row_0 : decode cX5_row 0 = .ok (.aload_n 0, 1) := by decide +kernel
theorem dX5_row_1 : decode cX5_row 1 = .ok (.getfield 31, 3) := by decide +kernel
theorem dX5_row_4 : decode cX5_row 4 = .ok (.ifCond .eq 7, 3) := by decide +kernel
theorem dX5_row_7 : decode cX5_row 7 = .ok (.iload_n 1, 1) := by decide +kernel
theorem dX5_row_8 : decode cX5_row 8 = .ok (.goto 6, 3) := by decide +kernel
theorem dX5_row_11 : decode cX5_row 11 = .ok (.iload_n 1, 1) := by decide +kernel
theorem dX5_row_12 : decode cX5_row 12 = .ok (.iconst 1, 1) := by decide +kernel
theorem dX5_row_13 : decode cX5_row 13 = .ok (.iand, 1) := by decide +kernel
theorem dX5_row_14 : decode cX5_row 14 = .ok (.sipush 256, 3) := by decide +kernel
theorem dX5_row_17 : decode cX5_row 17 = .ok (.imul, 1) := by decide +kernel
theorem dX5_row_18 : decode cX5_row 18 = .ok (.ireturn, 1) := by decide +kernel
set_option maxRecDepth 20000 in
theorem ggX5_follow_X5_begin : GoodIn wsX5_follow wsX5_begin := goodIn_r _ [15, 16, 17, 8, 18, 19, 20, 21, 22, 23, 9, 1, 24, 25, 26, 27, 28, 29, 80, 81, 82, 83, 84, 51, 52, 53, 54, 55, 56, 57, 58, 59, 60] (by decide +kernel) (by decide +kernel)
set_option maxRecDepth 20000 in
theorem gX5_follow_X5_begin : GoodIn wsX5_follow (wsV RX5 44 RX5 yX5_begin wsX5_begin) := goodIn_app (goodIn_of _ (by decide +kernel)) ggX5_follow_X5_begin
set_option maxRecDepth 20000 in
theorem ggX5_follow_X5_row : GoodIn wsX5_follow wsX5_row := goodIn_r _ [33, 34, 51, 52, 53, 54, 55, 56, 57, 58, 59, 60] (by decide +kernel) (by decide +kernel)
set_option maxRecDepth 20000 in
theorem gX5_follow_X5_row : GoodIn wsX5_follow (wsV RX5 74 RX5 yX5_row wsX5_row) := goodIn_app (goodIn_of _ (by decide +kernel)) ggX5_follow_X5_row
set_option maxRecDepth 20000 in
theorem ggX5_follow_X5_moveAny : GoodIn wsX5_follow wsX5_moveAny := goodIn_r _ [38, 21, 23, 22, 17, 39, 40, 41, 14, 42, 43, 44, 45, 46, 20, 51, 52, 53, 54, 55, 56, 57, 58, 59, 60] (by decide +kernel) (by decide +kernel)
set_option maxRecDepth 20000 in
theorem gX5_follow_X5_moveAny : GoodIn wsX5_follow (wsV RX5 78 RX5 yX5_moveAny wsX5_moveAny) := goodIn_app (goodIn_of _ (by decide +kernel)) ggX5_follow_X5_moveAny
set_option maxRecDepth 20000 in
theorem ggX5_follow_X5_pay : GoodIn wsX5_follow wsX5_pay := goodIn_r _ [50, 21, 22, 23, 9, 51, 52, 53, 54, 55, 56, 57, 58, 59, 60] (by decide +kernel) (by decide +kernel)
set_option maxRecDepth 20000 in
theorem gX5_follow_X5_pay : GoodIn wsX5_follow (wsV RX5 86 RX5 yX5_pay wsX5_pay) := goodIn_app (goodIn_of _ (by decide +kernel)) ggX5_follow_X5_pay
theorem dX5_follow_0 : decode cX5_follow 0 = .ok (.aload_n 0, 1) := by decide +kernel
theorem dX5_follow_1 : decode cX5_follow 1 = .ok (.getfield 21, 3) := by decide +kernel
theorem dX5_follow_4 : decode cX5_follow 4 = .ok (.iconst (-1), 1) := by decide +kernel
theorem dX5_follow_5 : decode cX5_follow 5 = .ok (.if_icmp .ne 12, 3) := by decide +kernel
theorem dX5_follow_8 : decode cX5_follow 8 = .ok (.aload_n 0, 1) := by decide +kernel
theorem dX5_follow_9 : decode cX5_follow 9 = .ok (.aload_n 1, 1) := by decide +kernel
theorem dX5_follow_10 : decode cX5_follow 10 = .ok (.getfield 38, 3) := by decide +kernel
theorem dX5_follow_13 : decode cX5_follow 13 = .ok (.iload_n 2, 1) := by decide +kernel
theorem dX5_follow_14 : decode cX5_follow 14 = .ok (.invokevirtual 44, 3) := by decide +kernel
theorem dX5_follow_17 : decode cX5_follow 17 = .ok (.iload_n 3, 1) := by decide +kernel
theorem dX5_follow_18 : decode cX5_follow 18 = .ok (.iconst (-1), 1) := by decide +kernel
theorem dX5_follow_19 : decode cX5_follow 19 = .ok (.if_icmp .ne 7, 3) := by decide +kernel
theorem dX5_follow_22 : decode cX5_follow 22 = .ok (.iconst 0, 1) := by decide +kernel
theorem dX5_follow_23 : decode cX5_follow 23 = .ok (.goto 6, 3) := by decide +kernel
theorem dX5_follow_26 : decode cX5_follow 26 = .ok (.iconst 1, 1) := by decide +kernel
theorem dX5_follow_27 : decode cX5_follow 27 = .ok (.iload_n 3, 1) := by decide +kernel
theorem dX5_follow_28 : decode cX5_follow 28 = .ok (.ishl, 1) := by decide +kernel
theorem dX5_follow_29 : decode cX5_follow 29 = .ok (.istore 4, 2) := by decide +kernel
theorem dX5_follow_31 : decode cX5_follow 31 = .ok (.aload_n 0, 1) := by decide +kernel
theorem dX5_follow_32 : decode cX5_follow 32 = .ok (.getfield 21, 3) := by decide +kernel
theorem dX5_follow_35 : decode cX5_follow 35 = .ok (.istore 5, 2) := by decide +kernel
theorem dX5_follow_37 : decode cX5_follow 37 = .ok (.iload 5, 2) := by decide +kernel
theorem dX5_follow_39 : decode cX5_follow 39 = .ok (.aload_n 1, 1) := by decide +kernel
theorem dX5_follow_40 : decode cX5_follow 40 = .ok (.getfield 48, 3) := by decide +kernel
theorem dX5_follow_43 : decode cX5_follow 43 = .ok (.getfield 52, 3) := by decide +kernel
theorem dX5_follow_46 : decode cX5_follow 46 = .ok (.if_icmp .ge 116, 3) := by decide +kernel
theorem dX5_follow_49 : decode cX5_follow 49 = .ok (.aload_n 1, 1) := by decide +kernel
theorem dX5_follow_50 : decode cX5_follow 50 = .ok (.getfield 48, 3) := by decide +kernel
theorem dX5_follow_53 : decode cX5_follow 53 = .ok (.getfield 57, 3) := by decide +kernel
theorem dX5_follow_56 : decode cX5_follow 56 = .ok (.iload 5, 2) := by decide +kernel
theorem dX5_follow_58 : decode cX5_follow 58 = .ok (.iaload, 1) := by decide +kernel
theorem dX5_follow_59 : decode cX5_follow 59 = .ok (.istore 6, 2) := by decide +kernel
theorem dX5_follow_61 : decode cX5_follow 61 = .ok (.aload_n 1, 1) := by decide +kernel
theorem dX5_follow_62 : decode cX5_follow 62 = .ok (.getfield 60, 3) := by decide +kernel
theorem dX5_follow_65 : decode cX5_follow 65 = .ok (.getfield 64, 3) := by decide +kernel
theorem dX5_follow_68 : decode cX5_follow 68 = .ok (.ifCond .ne 21, 3) := by decide +kernel
theorem dX5_follow_71 : decode cX5_follow 71 = .ok (.aload_n 1, 1) := by decide +kernel
theorem dX5_follow_72 : decode cX5_follow 72 = .ok (.getfield 38, 3) := by decide +kernel
theorem dX5_follow_75 : decode cX5_follow 75 = .ok (.getfield 69, 3) := by decide +kernel
theorem dX5_follow_78 : decode cX5_follow 78 = .ok (.iload 6, 2) := by decide +kernel
theorem dX5_follow_80 : decode cX5_follow 80 = .ok (.iaload, 1) := by decide +kernel
theorem dX5_follow_81 : decode cX5_follow 81 = .ok (.iload_n 2, 1) := by decide +kernel
theorem dX5_follow_82 : decode cX5_follow 82 = .ok (.if_icmp .gt 7, 3) := by decide +kernel
theorem dX5_follow_85 : decode cX5_follow 85 = .ok (.iconst 1, 1) := by decide +kernel
theorem dX5_follow_86 : decode cX5_follow 86 = .ok (.goto 4, 3) := by decide +kernel
theorem dX5_follow_89 : decode cX5_follow 89 = .ok (.iconst 0, 1) := by decide +kernel
theorem dX5_follow_90 : decode cX5_follow 90 = .ok (.istore 7, 2) := by decide +kernel
theorem dX5_follow_92 : decode cX5_follow 92 = .ok (.aload_n 0, 1) := by decide +kernel
theorem dX5_follow_93 : decode cX5_follow 93 = .ok (.aload_n 0, 1) := by decide +kernel
theorem dX5_follow_94 : decode cX5_follow 94 = .ok (.iload 5, 2) := by decide +kernel
theorem dX5_follow_96 : decode cX5_follow 96 = .ok (.invokevirtual 74, 3) := by decide +kernel
theorem dX5_follow_99 : decode cX5_follow 99 = .ok (.aload_n 0, 1) := by decide +kernel
theorem dX5_follow_100 : decode cX5_follow 100 = .ok (.iload 5, 2) := by decide +kernel
theorem dX5_follow_102 : decode cX5_follow 102 = .ok (.iconst 1, 1) := by decide +kernel
theorem dX5_follow_103 : decode cX5_follow 103 = .ok (.iadd, 1) := by decide +kernel
theorem dX5_follow_104 : decode cX5_follow 104 = .ok (.invokevirtual 74, 3) := by decide +kernel
theorem dX5_follow_107 : decode cX5_follow 107 = .ok (.invokevirtual 78, 3) := by decide +kernel
theorem dX5_follow_110 : decode cX5_follow 110 = .ok (.aload_n 0, 1) := by decide +kernel
theorem dX5_follow_111 : decode cX5_follow 111 = .ok (.aload_n 0, 1) := by decide +kernel
theorem dX5_follow_112 : decode cX5_follow 112 = .ok (.iload 5, 2) := by decide +kernel
theorem dX5_follow_114 : decode cX5_follow 114 = .ok (.iconst 1, 1) := by decide +kernel
theorem dX5_follow_115 : decode cX5_follow 115 = .ok (.iadd, 1) := by decide +kernel
theorem dX5_follow_116 : decode cX5_follow 116 = .ok (.invokevirtual 74, 3) := by decide +kernel
theorem dX5_follow_119 : decode cX5_follow 119 = .ok (.iconst 1, 1) := by decide +kernel
theorem dX5_follow_120 : decode cX5_follow 120 = .ok (.iload 6, 2) := by decide +kernel
theorem dX5_follow_122 : decode cX5_follow 122 = .ok (.ishl, 1) := by decide +kernel
theorem dX5_follow_123 : decode cX5_follow 123 = .ok (.iload 7, 2) := by decide +kernel
theorem dX5_follow_125 : decode cX5_follow 125 = .ok (.ifCond .eq 8, 3) := by decide +kernel
theorem dX5_follow_128 : decode cX5_follow 128 = .ok (.ldc 82, 2) := by decide +kernel
theorem dX5_follow_130 : decode cX5_follow 130 = .ok (.goto 13, 3) := by decide +kernel
theorem dX5_follow_133 : decode cX5_follow 133 = .ok (.aload_n 1, 1) := by decide +kernel
theorem dX5_follow_134 : decode cX5_follow 134 = .ok (.getfield 38, 3) := by decide +kernel
theorem dX5_follow_137 : decode cX5_follow 137 = .ok (.getfield 83, 3) := by decide +kernel
theorem dX5_follow_140 : decode cX5_follow 140 = .ok (.iload 6, 2) := by decide +kernel
theorem dX5_follow_142 : decode cX5_follow 142 = .ok (.iaload, 1) := by decide +kernel
theorem dX5_follow_143 : decode cX5_follow 143 = .ok (.iload 4, 2) := by decide +kernel
theorem dX5_follow_145 : decode cX5_follow 145 = .ok (.invokevirtual 86, 3) := by decide +kernel
theorem dX5_follow_148 : decode cX5_follow 148 = .ok (.aload_n 0, 1) := by decide +kernel
theorem dX5_follow_149 : decode cX5_follow 149 = .ok (.iload 5, 2) := by decide +kernel
theorem dX5_follow_151 : decode cX5_follow 151 = .ok (.iconst 1, 1) := by decide +kernel
theorem dX5_follow_152 : decode cX5_follow 152 = .ok (.iadd, 1) := by decide +kernel
theorem dX5_follow_153 : decode cX5_follow 153 = .ok (.putfield 21, 3) := by decide +kernel
theorem dX5_follow_156 : decode cX5_follow 156 = .ok (.iinc 5 1, 3) := by decide +kernel
theorem dX5_follow_159 : decode cX5_follow 159 = .ok (.goto (-122), 3) := by decide +kernel
theorem dX5_follow_162 : decode cX5_follow 162 = .ok (.return_, 1) := by decide +kernel
set_option maxRecDepth 20000 in
theorem ggX5_begin_X10_sumSets : GoodIn wsX5_begin wsX10_sumSets := goodIn_r _ [16, 17, 18, 19, 20, 21, 22] (by decide +kernel) (by decide +kernel)
set_option maxRecDepth 20000 in
theorem gX5_begin_X10_sumSets : GoodIn wsX5_begin (wsV RX5 94 RX10 yX10_sumSets wsX10_sumSets) := goodIn_app (goodIn_of _ (by decide +kernel)) ggX5_begin_X10_sumSets
theorem dX5_begin_0 : decode cX5_begin 0 = .ok (.aload_n 0, 1) := by decide +kernel
theorem dX5_begin_1 : decode cX5_begin 1 = .ok (.aload_n 1, 1) := by decide +kernel
theorem dX5_begin_2 : decode cX5_begin 2 = .ok (.getfield 90, 3) := by decide +kernel
theorem dX5_begin_5 : decode cX5_begin 5 = .ok (.putfield 91, 3) := by decide +kernel
theorem dX5_begin_8 : decode cX5_begin 8 = .ok (.aload_n 1, 1) := by decide +kernel
theorem dX5_begin_9 : decode cX5_begin 9 = .ok (.aload_n 1, 1) := by decide +kernel
theorem dX5_begin_10 : decode cX5_begin 10 = .ok (.getfield 69, 3) := by decide +kernel
theorem dX5_begin_13 : decode cX5_begin 13 = .ok (.aload_n 0, 1) := by decide +kernel
theorem dX5_begin_14 : decode cX5_begin 14 = .ok (.getfield 9, 3) := by decide +kernel
theorem dX5_begin_17 : decode cX5_begin 17 = .ok (.invokevirtual 94, 3) := by decide +kernel
theorem dX5_begin_20 : decode cX5_begin 20 = .ok (.aload_n 1, 1) := by decide +kernel
theorem dX5_begin_21 : decode cX5_begin 21 = .ok (.aload_n 1, 1) := by decide +kernel
theorem dX5_begin_22 : decode cX5_begin 22 = .ok (.getfield 98, 3) := by decide +kernel
theorem dX5_begin_25 : decode cX5_begin 25 = .ok (.aload_n 0, 1) := by decide +kernel
theorem dX5_begin_26 : decode cX5_begin 26 = .ok (.getfield 15, 3) := by decide +kernel
theorem dX5_begin_29 : decode cX5_begin 29 = .ok (.invokevirtual 94, 3) := by decide +kernel
theorem dX5_begin_32 : decode cX5_begin 32 = .ok (.aload_n 0, 1) := by decide +kernel
theorem dX5_begin_33 : decode cX5_begin 33 = .ok (.iconst 0, 1) := by decide +kernel
theorem dX5_begin_34 : decode cX5_begin 34 = .ok (.putfield 101, 3) := by decide +kernel
theorem dX5_begin_37 : decode cX5_begin 37 = .ok (.iconst 0, 1) := by decide +kernel
theorem dX5_begin_38 : decode cX5_begin 38 = .ok (.istore_n 3, 1) := by decide +kernel
theorem dX5_begin_39 : decode cX5_begin 39 = .ok (.iload_n 3, 1) := by decide +kernel
theorem dX5_begin_40 : decode cX5_begin 40 = .ok (.iconst 1, 1) := by decide +kernel
theorem dX5_begin_41 : decode cX5_begin 41 = .ok (.aload_n 0, 1) := by decide +kernel
theorem dX5_begin_42 : decode cX5_begin 42 = .ok (.getfield 91, 3) := by decide +kernel
theorem dX5_begin_45 : decode cX5_begin 45 = .ok (.ishl, 1) := by decide +kernel
theorem dX5_begin_46 : decode cX5_begin 46 = .ok (.if_icmp .ge 44, 3) := by decide +kernel
theorem dX5_begin_49 : decode cX5_begin 49 = .ok (.aload_n 0, 1) := by decide +kernel
theorem dX5_begin_50 : decode cX5_begin 50 = .ok (.getfield 9, 3) := by decide +kernel
theorem dX5_begin_53 : decode cX5_begin 53 = .ok (.iload_n 3, 1) := by decide +kernel
theorem dX5_begin_54 : decode cX5_begin 54 = .ok (.iaload, 1) := by decide +kernel
theorem dX5_begin_55 : decode cX5_begin 55 = .ok (.iload_n 2, 1) := by decide +kernel
theorem dX5_begin_56 : decode cX5_begin 56 = .ok (.if_icmp .gt 28, 3) := by decide +kernel
theorem dX5_begin_59 : decode cX5_begin 59 = .ok (.aload_n 0, 1) := by decide +kernel
theorem dX5_begin_60 : decode cX5_begin 60 = .ok (.getfield 18, 3) := by decide +kernel
theorem dX5_begin_63 : decode cX5_begin 63 = .ok (.aload_n 0, 1) := by decide +kernel
theorem dX5_begin_64 : decode cX5_begin 64 = .ok (.dup, 1) := by decide +kernel
theorem dX5_begin_65 : decode cX5_begin 65 = .ok (.getfield 101, 3) := by decide +kernel
theorem dX5_begin_68 : decode cX5_begin 68 = .ok (.dup_x1, 1) := by decide +kernel
theorem dX5_begin_69 : decode cX5_begin 69 = .ok (.iconst 1, 1) := by decide +kernel
theorem dX5_begin_70 : decode cX5_begin 70 = .ok (.iadd, 1) := by decide +kernel
theorem dX5_begin_71 : decode cX5_begin 71 = .ok (.putfield 101, 3) := by decide +kernel
theorem dX5_begin_74 : decode cX5_begin 74 = .ok (.iload_n 3, 1) := by decide +kernel
theorem dX5_begin_75 : decode cX5_begin 75 = .ok (.iastore, 1) := by decide +kernel
theorem dX5_begin_76 : decode cX5_begin 76 = .ok (.aload_n 0, 1) := by decide +kernel
theorem dX5_begin_77 : decode cX5_begin 77 = .ok (.getfield 35, 3) := by decide +kernel
theorem dX5_begin_80 : decode cX5_begin 80 = .ok (.iload_n 3, 1) := by decide +kernel
theorem dX5_begin_81 : decode cX5_begin 81 = .ok (.ldc 82, 2) := by decide +kernel
theorem dX5_begin_83 : decode cX5_begin 83 = .ok (.iastore, 1) := by decide +kernel
theorem dX5_begin_84 : decode cX5_begin 84 = .ok (.iinc 3 1, 3) := by decide +kernel
theorem dX5_begin_87 : decode cX5_begin 87 = .ok (.goto (-48), 3) := by decide +kernel
theorem dX5_begin_90 : decode cX5_begin 90 = .ok (.aload_n 0, 1) := by decide +kernel
theorem dX5_begin_91 : decode cX5_begin 91 = .ok (.getfield 35, 3) := by decide +kernel
theorem dX5_begin_94 : decode cX5_begin 94 = .ok (.iconst 0, 1) := by decide +kernel
theorem dX5_begin_95 : decode cX5_begin 95 = .ok (.iconst 0, 1) := by decide +kernel
theorem dX5_begin_96 : decode cX5_begin 96 = .ok (.iastore, 1) := by decide +kernel
theorem dX5_begin_97 : decode cX5_begin 97 = .ok (.aload_n 0, 1) := by decide +kernel
theorem dX5_begin_98 : decode cX5_begin 98 = .ok (.iconst 0, 1) := by decide +kernel
theorem dX5_begin_99 : decode cX5_begin 99 = .ok (.putfield 21, 3) := by decide +kernel
theorem dX5_begin_102 : decode cX5_begin 102 = .ok (.return_, 1) := by decide +kernel
set_option maxRecDepth 20000 in
theorem ggX5_moveAny_X5_letDown : GoodIn wsX5_moveAny wsX5_letDown := goodIn_r _ [9, 1, 3, 2, 15, 16, 17, 18, 19, 20, 21, 22, 23, 24] (by decide +kernel) (by decide +kernel)
set_option maxRecDepth 20000 in
theorem gX5_moveAny_X5_letDown : GoodIn wsX5_moveAny (wsV RX5 104 RX5 yX5_letDown wsX5_letDown) := goodIn_app (goodIn_of _ (by decide +kernel)) ggX5_moveAny_X5_letDown
set_option maxRecDepth 20000 in
theorem ggX5_moveAny_X5_letUp : GoodIn wsX5_moveAny wsX5_letUp := goodIn_r _ [13, 1, 3, 2, 14, 15, 16, 17, 18, 19, 20, 21, 22, 23, 24] (by decide +kernel) (by decide +kernel)
set_option maxRecDepth 20000 in
theorem gX5_moveAny_X5_letUp : GoodIn wsX5_moveAny (wsV RX5 107 RX5 yX5_letUp wsX5_letUp) := goodIn_app (goodIn_of _ (by decide +kernel)) ggX5_moveAny_X5_letUp
theorem dX5_moveAny_0 : decode cX5_moveAny 0 = .ok (.iconst 0, 1) := by decide +kernel
theorem dX5_moveAny_1 : decode cX5_moveAny 1 = .ok (.istore_n 3, 1) := by decide +kernel
theorem dX5_moveAny_2 : decode cX5_moveAny 2 = .ok (.iload_n 3, 1) := by decide +kernel
theorem dX5_moveAny_3 : decode cX5_moveAny 3 = .ok (.aload_n 0, 1) := by decide +kernel
theorem dX5_moveAny_4 : decode cX5_moveAny 4 = .ok (.getfield 101, 3) := by decide +kernel
theorem dX5_moveAny_7 : decode cX5_moveAny 7 = .ok (.if_icmp .ge 35, 3) := by decide +kernel
theorem dX5_moveAny_10 : decode cX5_moveAny 10 = .ok (.aload_n 0, 1) := by decide +kernel
theorem dX5_moveAny_11 : decode cX5_moveAny 11 = .ok (.getfield 35, 3) := by decide +kernel
theorem dX5_moveAny_14 : decode cX5_moveAny 14 = .ok (.iload_n 2, 1) := by decide +kernel
theorem dX5_moveAny_15 : decode cX5_moveAny 15 = .ok (.aload_n 0, 1) := by decide +kernel
theorem dX5_moveAny_16 : decode cX5_moveAny 16 = .ok (.getfield 18, 3) := by decide +kernel
theorem dX5_moveAny_19 : decode cX5_moveAny 19 = .ok (.iload_n 3, 1) := by decide +kernel
theorem dX5_moveAny_20 : decode cX5_moveAny 20 = .ok (.iaload, 1) := by decide +kernel
theorem dX5_moveAny_21 : decode cX5_moveAny 21 = .ok (.iadd, 1) := by decide +kernel
theorem dX5_moveAny_22 : decode cX5_moveAny 22 = .ok (.aload_n 0, 1) := by decide +kernel
theorem dX5_moveAny_23 : decode cX5_moveAny 23 = .ok (.getfield 35, 3) := by decide +kernel
theorem dX5_moveAny_26 : decode cX5_moveAny 26 = .ok (.iload_n 1, 1) := by decide +kernel
theorem dX5_moveAny_27 : decode cX5_moveAny 27 = .ok (.aload_n 0, 1) := by decide +kernel
theorem dX5_moveAny_28 : decode cX5_moveAny 28 = .ok (.getfield 18, 3) := by decide +kernel
theorem dX5_moveAny_31 : decode cX5_moveAny 31 = .ok (.iload_n 3, 1) := by decide +kernel
theorem dX5_moveAny_32 : decode cX5_moveAny 32 = .ok (.iaload, 1) := by decide +kernel
theorem dX5_moveAny_33 : decode cX5_moveAny 33 = .ok (.iadd, 1) := by decide +kernel
theorem dX5_moveAny_34 : decode cX5_moveAny 34 = .ok (.iaload, 1) := by decide +kernel
theorem dX5_moveAny_35 : decode cX5_moveAny 35 = .ok (.iastore, 1) := by decide +kernel
theorem dX5_moveAny_36 : decode cX5_moveAny 36 = .ok (.iinc 3 1, 3) := by decide +kernel
theorem dX5_moveAny_39 : decode cX5_moveAny 39 = .ok (.goto (-37), 3) := by decide +kernel
theorem dX5_moveAny_42 : decode cX5_moveAny 42 = .ok (.iconst 0, 1) := by decide +kernel
theorem dX5_moveAny_43 : decode cX5_moveAny 43 = .ok (.istore_n 3, 1) := by decide +kernel
theorem dX5_moveAny_44 : decode cX5_moveAny 44 = .ok (.iload_n 3, 1) := by decide +kernel
theorem dX5_moveAny_45 : decode cX5_moveAny 45 = .ok (.aload_n 0, 1) := by decide +kernel
theorem dX5_moveAny_46 : decode cX5_moveAny 46 = .ok (.getfield 91, 3) := by decide +kernel
theorem dX5_moveAny_49 : decode cX5_moveAny 49 = .ok (.if_icmp .ge 17, 3) := by decide +kernel
theorem dX5_moveAny_52 : decode cX5_moveAny 52 = .ok (.aload_n 0, 1) := by decide +kernel
theorem dX5_moveAny_53 : decode cX5_moveAny 53 = .ok (.iload_n 2, 1) := by decide +kernel
theorem dX5_moveAny_54 : decode cX5_moveAny 54 = .ok (.iconst 1, 1) := by decide +kernel
theorem dX5_moveAny_55 : decode cX5_moveAny 55 = .ok (.iload_n 3, 1) := by decide +kernel
theorem dX5_moveAny_56 : decode cX5_moveAny 56 = .ok (.ishl, 1) := by decide +kernel
theorem dX5_moveAny_57 : decode cX5_moveAny 57 = .ok (.invokevirtual 104, 3) := by decide +kernel
theorem dX5_moveAny_60 : decode cX5_moveAny 60 = .ok (.iinc 3 1, 3) := by decide +kernel
theorem dX5_moveAny_63 : decode cX5_moveAny 63 = .ok (.goto (-19), 3) := by decide +kernel
theorem dX5_moveAny_66 : decode cX5_moveAny 66 = .ok (.iconst 0, 1) := by decide +kernel
theorem dX5_moveAny_67 : decode cX5_moveAny 67 = .ok (.istore_n 3, 1) := by decide +kernel
theorem dX5_moveAny_68 : decode cX5_moveAny 68 = .ok (.iload_n 3, 1) := by decide +kernel
theorem dX5_moveAny_69 : decode cX5_moveAny 69 = .ok (.aload_n 0, 1) := by decide +kernel
theorem dX5_moveAny_70 : decode cX5_moveAny 70 = .ok (.getfield 91, 3) := by decide +kernel
theorem dX5_moveAny_73 : decode cX5_moveAny 73 = .ok (.if_icmp .ge 17, 3) := by decide +kernel
theorem dX5_moveAny_76 : decode cX5_moveAny 76 = .ok (.aload_n 0, 1) := by decide +kernel
theorem dX5_moveAny_77 : decode cX5_moveAny 77 = .ok (.iload_n 2, 1) := by decide +kernel
theorem dX5_moveAny_78 : decode cX5_moveAny 78 = .ok (.iconst 1, 1) := by decide +kernel
theorem dX5_moveAny_79 : decode cX5_moveAny 79 = .ok (.iload_n 3, 1) := by decide +kernel
theorem dX5_moveAny_80 : decode cX5_moveAny 80 = .ok (.ishl, 1) := by decide +kernel
theorem dX5_moveAny_81 : decode cX5_moveAny 81 = .ok (.invokevirtual 107, 3) := by decide +kernel
theorem dX5_moveAny_84 : decode cX5_moveAny 84 = .ok (.iinc 3 1, 3) := by decide +kernel
theorem dX5_moveAny_87 : decode cX5_moveAny 87 = .ok (.goto (-19), 3) := by decide +kernel
theorem dX5_moveAny_90 : decode cX5_moveAny 90 = .ok (.return_, 1) := by decide +kernel
theorem dX5_letDown_0 : decode cX5_letDown 0 = .ok (.iconst 0, 1) := by decide +kernel
theorem dX5_letDown_1 : decode cX5_letDown 1 = .ok (.istore_n 3, 1) := by decide +kernel
theorem dX5_letDown_2 : decode cX5_letDown 2 = .ok (.iload_n 3, 1) := by decide +kernel
theorem dX5_letDown_3 : decode cX5_letDown 3 = .ok (.aload_n 0, 1) := by decide +kernel
theorem dX5_letDown_4 : decode cX5_letDown 4 = .ok (.getfield 101, 3) := by decide +kernel
theorem dX5_letDown_7 : decode cX5_letDown 7 = .ok (.if_icmp .ge 65, 3) := by decide +kernel
theorem dX5_letDown_10 : decode cX5_letDown 10 = .ok (.iload_n 1, 1) := by decide +kernel
theorem dX5_letDown_11 : decode cX5_letDown 11 = .ok (.aload_n 0, 1) := by decide +kernel
theorem dX5_letDown_12 : decode cX5_letDown 12 = .ok (.getfield 18, 3) := by decide +kernel
theorem dX5_letDown_15 : decode cX5_letDown 15 = .ok (.iload_n 3, 1) := by decide +kernel
theorem dX5_letDown_16 : decode cX5_letDown 16 = .ok (.iaload, 1) := by decide +kernel
theorem dX5_letDown_17 : decode cX5_letDown 17 = .ok (.iadd, 1) := by decide +kernel
theorem dX5_letDown_18 : decode cX5_letDown 18 = .ok (.istore 4, 2) := by decide +kernel
theorem dX5_letDown_20 : decode cX5_letDown 20 = .ok (.aload_n 0, 1) := by decide +kernel
theorem dX5_letDown_21 : decode cX5_letDown 21 = .ok (.getfield 18, 3) := by decide +kernel
theorem dX5_letDown_24 : decode cX5_letDown 24 = .ok (.iload_n 3, 1) := by decide +kernel
theorem dX5_letDown_25 : decode cX5_letDown 25 = .ok (.iaload, 1) := by decide +kernel
theorem dX5_letDown_26 : decode cX5_letDown 26 = .ok (.iload_n 2, 1) := by decide +kernel
theorem dX5_letDown_27 : decode cX5_letDown 27 = .ok (.iand, 1) := by decide +kernel
theorem dX5_letDown_28 : decode cX5_letDown 28 = .ok (.ifCond .eq 38, 3) := by decide +kernel
theorem dX5_letDown_31 : decode cX5_letDown 31 = .ok (.aload_n 0, 1) := by decide +kernel
theorem dX5_letDown_32 : decode cX5_letDown 32 = .ok (.getfield 35, 3) := by decide +kernel
theorem dX5_letDown_35 : decode cX5_letDown 35 = .ok (.iload 4, 2) := by decide +kernel
theorem dX5_letDown_37 : decode cX5_letDown 37 = .ok (.iaload, 1) := by decide +kernel
theorem dX5_letDown_38 : decode cX5_letDown 38 = .ok (.aload_n 0, 1) := by decide +kernel
theorem dX5_letDown_39 : decode cX5_letDown 39 = .ok (.getfield 35, 3) := by decide +kernel
theorem dX5_letDown_42 : decode cX5_letDown 42 = .ok (.iload 4, 2) := by decide +kernel
theorem dX5_letDown_44 : decode cX5_letDown 44 = .ok (.iload_n 2, 1) := by decide +kernel
theorem dX5_letDown_45 : decode cX5_letDown 45 = .ok (.isub, 1) := by decide +kernel
theorem dX5_letDown_46 : decode cX5_letDown 46 = .ok (.iaload, 1) := by decide +kernel
theorem dX5_letDown_47 : decode cX5_letDown 47 = .ok (.if_icmp .ge 19, 3) := by decide +kernel
theorem dX5_letDown_50 : decode cX5_letDown 50 = .ok (.aload_n 0, 1) := by decide +kernel
theorem dX5_letDown_51 : decode cX5_letDown 51 = .ok (.getfield 35, 3) := by decide +kernel
theorem dX5_letDown_54 : decode cX5_letDown 54 = .ok (.iload 4, 2) := by decide +kernel
theorem dX5_letDown_56 : decode cX5_letDown 56 = .ok (.iload_n 2, 1) := by decide +kernel
theorem dX5_letDown_57 : decode cX5_letDown 57 = .ok (.isub, 1) := by decide +kernel
theorem dX5_letDown_58 : decode cX5_letDown 58 = .ok (.aload_n 0, 1) := by decide +kernel
theorem dX5_letDown_59 : decode cX5_letDown 59 = .ok (.getfield 35, 3) := by decide +kernel
theorem dX5_letDown_62 : decode cX5_letDown 62 = .ok (.iload 4, 2) := by decide +kernel
theorem dX5_letDown_64 : decode cX5_letDown 64 = .ok (.iaload, 1) := by decide +kernel
theorem dX5_letDown_65 : decode cX5_letDown 65 = .ok (.iastore, 1) := by decide +kernel
theorem dX5_letDown_66 : decode cX5_letDown 66 = .ok (.iinc 3 1, 3) := by decide +kernel
theorem dX5_letDown_69 : decode cX5_letDown 69 = .ok (.goto (-67), 3) := by decide +kernel
theorem dX5_letDown_72 : decode cX5_letDown 72 = .ok (.return_, 1) := by decide +kernel
theorem dX5_letUp_0 : decode cX5_letUp 0 = .ok (.iconst 0, 1) := by decide +kernel
theorem dX5_letUp_1 : decode cX5_letUp 1 = .ok (.istore_n 3, 1) := by decide +kernel
theorem dX5_letUp_2 : decode cX5_letUp 2 = .ok (.iload_n 3, 1) := by decide +kernel
theorem dX5_letUp_3 : decode cX5_letUp 3 = .ok (.aload_n 0, 1) := by decide +kernel
theorem dX5_letUp_4 : decode cX5_letUp 4 = .ok (.getfield 101, 3) := by decide +kernel
theorem dX5_letUp_7 : decode cX5_letUp 7 = .ok (.if_icmp .ge 79, 3) := by decide +kernel
theorem dX5_letUp_10 : decode cX5_letUp 10 = .ok (.iload_n 1, 1) := by decide +kernel
theorem dX5_letUp_11 : decode cX5_letUp 11 = .ok (.aload_n 0, 1) := by decide +kernel
theorem dX5_letUp_12 : decode cX5_letUp 12 = .ok (.getfield 18, 3) := by decide +kernel
theorem dX5_letUp_15 : decode cX5_letUp 15 = .ok (.iload_n 3, 1) := by decide +kernel
theorem dX5_letUp_16 : decode cX5_letUp 16 = .ok (.iaload, 1) := by decide +kernel
theorem dX5_letUp_17 : decode cX5_letUp 17 = .ok (.iadd, 1) := by decide +kernel
theorem dX5_letUp_18 : decode cX5_letUp 18 = .ok (.istore 4, 2) := by decide +kernel
theorem dX5_letUp_20 : decode cX5_letUp 20 = .ok (.aload_n 0, 1) := by decide +kernel
theorem dX5_letUp_21 : decode cX5_letUp 21 = .ok (.getfield 18, 3) := by decide +kernel
theorem dX5_letUp_24 : decode cX5_letUp 24 = .ok (.iload_n 3, 1) := by decide +kernel
theorem dX5_letUp_25 : decode cX5_letUp 25 = .ok (.iaload, 1) := by decide +kernel
theorem dX5_letUp_26 : decode cX5_letUp 26 = .ok (.iload_n 2, 1) := by decide +kernel
theorem dX5_letUp_27 : decode cX5_letUp 27 = .ok (.iand, 1) := by decide +kernel
theorem dX5_letUp_28 : decode cX5_letUp 28 = .ok (.ifCond .eq 52, 3) := by decide +kernel
theorem dX5_letUp_31 : decode cX5_letUp 31 = .ok (.aload_n 0, 1) := by decide +kernel
theorem dX5_letUp_32 : decode cX5_letUp 32 = .ok (.getfield 35, 3) := by decide +kernel
theorem dX5_letUp_35 : decode cX5_letUp 35 = .ok (.iload 4, 2) := by decide +kernel
theorem dX5_letUp_37 : decode cX5_letUp 37 = .ok (.iload_n 2, 1) := by decide +kernel
theorem dX5_letUp_38 : decode cX5_letUp 38 = .ok (.isub, 1) := by decide +kernel
theorem dX5_letUp_39 : decode cX5_letUp 39 = .ok (.iaload, 1) := by decide +kernel
theorem dX5_letUp_40 : decode cX5_letUp 40 = .ok (.aload_n 0, 1) := by decide +kernel
theorem dX5_letUp_41 : decode cX5_letUp 41 = .ok (.getfield 15, 3) := by decide +kernel
theorem dX5_letUp_44 : decode cX5_letUp 44 = .ok (.iload_n 2, 1) := by decide +kernel
theorem dX5_letUp_45 : decode cX5_letUp 45 = .ok (.iaload, 1) := by decide +kernel
theorem dX5_letUp_46 : decode cX5_letUp 46 = .ok (.iadd, 1) := by decide +kernel
theorem dX5_letUp_47 : decode cX5_letUp 47 = .ok (.aload_n 0, 1) := by decide +kernel
theorem dX5_letUp_48 : decode cX5_letUp 48 = .ok (.getfield 35, 3) := by decide +kernel
theorem dX5_letUp_51 : decode cX5_letUp 51 = .ok (.iload 4, 2) := by decide +kernel
theorem dX5_letUp_53 : decode cX5_letUp 53 = .ok (.iaload, 1) := by decide +kernel
theorem dX5_letUp_54 : decode cX5_letUp 54 = .ok (.if_icmp .ge 26, 3) := by decide +kernel
theorem dX5_letUp_57 : decode cX5_letUp 57 = .ok (.aload_n 0, 1) := by decide +kernel
theorem dX5_letUp_58 : decode cX5_letUp 58 = .ok (.getfield 35, 3) := by decide +kernel
theorem dX5_letUp_61 : decode cX5_letUp 61 = .ok (.iload 4, 2) := by decide +kernel
theorem dX5_letUp_63 : decode cX5_letUp 63 = .ok (.aload_n 0, 1) := by decide +kernel
theorem dX5_letUp_64 : decode cX5_letUp 64 = .ok (.getfield 35, 3) := by decide +kernel
theorem dX5_letUp_67 : decode cX5_letUp 67 = .ok (.iload 4, 2) := by decide +kernel
theorem dX5_letUp_69 : decode cX5_letUp 69 = .ok (.iload_n 2, 1) := by decide +kernel
theorem dX5_letUp_70 : decode cX5_letUp 70 = .ok (.isub, 1) := by decide +kernel
theorem dX5_letUp_71 : decode cX5_letUp 71 = .ok (.iaload, 1) := by decide +kernel
theorem dX5_letUp_72 : decode cX5_letUp 72 = .ok (.aload_n 0, 1) := by decide +kernel
theorem dX5_letUp_73 : decode cX5_letUp 73 = .ok (.getfield 15, 3) := by decide +kernel
theorem dX5_letUp_76 : decode cX5_letUp 76 = .ok (.iload_n 2, 1) := by decide +kernel
theorem dX5_letUp_77 : decode cX5_letUp 77 = .ok (.iaload, 1) := by decide +kernel
theorem dX5_letUp_78 : decode cX5_letUp 78 = .ok (.iadd, 1) := by decide +kernel
theorem dX5_letUp_79 : decode cX5_letUp 79 = .ok (.iastore, 1) := by decide +kernel
theorem dX5_letUp_80 : decode cX5_letUp 80 = .ok (.iinc 3 1, 3) := by decide +kernel
theorem dX5_letUp_83 : decode cX5_letUp 83 = .ok (.goto (-81), 3) := by decide +kernel
theorem dX5_letUp_86 : decode cX5_letUp 86 = .ok (.return_, 1) := by decide +kernel
theorem dX5_pay_0 : decode cX5_pay 0 = .ok (.iconst 0, 1) := by decide +kernel
theorem dX5_pay_1 : decode cX5_pay 1 = .ok (.istore 5, 2) := by decide +kernel
theorem dX5_pay_3 : decode cX5_pay 3 = .ok (.iload 5, 2) := by decide +kernel
theorem dX5_pay_5 : decode cX5_pay 5 = .ok (.aload_n 0, 1) := by decide +kernel
theorem dX5_pay_6 : decode cX5_pay 6 = .ok (.getfield 101, 3) := by decide +kernel
theorem dX5_pay_9 : decode cX5_pay 9 = .ok (.if_icmp .ge 87, 3) := by decide +kernel
theorem dX5_pay_12 : decode cX5_pay 12 = .ok (.aload_n 0, 1) := by decide +kernel
theorem dX5_pay_13 : decode cX5_pay 13 = .ok (.getfield 18, 3) := by decide +kernel
theorem dX5_pay_16 : decode cX5_pay 16 = .ok (.iload 5, 2) := by decide +kernel
theorem dX5_pay_18 : decode cX5_pay 18 = .ok (.iaload, 1) := by decide +kernel
theorem dX5_pay_19 : decode cX5_pay 19 = .ok (.istore 6, 2) := by decide +kernel
theorem dX5_pay_21 : decode cX5_pay 21 = .ok (.aload_n 0, 1) := by decide +kernel
theorem dX5_pay_22 : decode cX5_pay 22 = .ok (.getfield 35, 3) := by decide +kernel
theorem dX5_pay_25 : decode cX5_pay 25 = .ok (.iload_n 1, 1) := by decide +kernel
theorem dX5_pay_26 : decode cX5_pay 26 = .ok (.iload 6, 2) := by decide +kernel
theorem dX5_pay_28 : decode cX5_pay 28 = .ok (.iadd, 1) := by decide +kernel
theorem dX5_pay_29 : decode cX5_pay 29 = .ok (.iaload, 1) := by decide +kernel
theorem dX5_pay_30 : decode cX5_pay 30 = .ok (.iload 6, 2) := by decide +kernel
theorem dX5_pay_32 : decode cX5_pay 32 = .ok (.iload_n 2, 1) := by decide +kernel
theorem dX5_pay_33 : decode cX5_pay 33 = .ok (.iand, 1) := by decide +kernel
theorem dX5_pay_34 : decode cX5_pay 34 = .ok (.ifCond .ne 7, 3) := by decide +kernel
theorem dX5_pay_37 : decode cX5_pay 37 = .ok (.iload_n 3, 1) := by decide +kernel
theorem dX5_pay_38 : decode cX5_pay 38 = .ok (.goto 4, 3) := by decide +kernel
theorem dX5_pay_41 : decode cX5_pay 41 = .ok (.iconst 0, 1) := by decide +kernel
theorem dX5_pay_42 : decode cX5_pay 42 = .ok (.iadd, 1) := by decide +kernel
theorem dX5_pay_43 : decode cX5_pay 43 = .ok (.istore 7, 2) := by decide +kernel
theorem dX5_pay_45 : decode cX5_pay 45 = .ok (.iload 6, 2) := by decide +kernel
theorem dX5_pay_47 : decode cX5_pay 47 = .ok (.iload 4, 2) := by decide +kernel
theorem dX5_pay_49 : decode cX5_pay 49 = .ok (.iand, 1) := by decide +kernel
theorem dX5_pay_50 : decode cX5_pay 50 = .ok (.iload 4, 2) := by decide +kernel
theorem dX5_pay_52 : decode cX5_pay 52 = .ok (.if_icmp .eq 7, 3) := by decide +kernel
theorem dX5_pay_55 : decode cX5_pay 55 = .ok (.iconst 1, 1) := by decide +kernel
theorem dX5_pay_56 : decode cX5_pay 56 = .ok (.goto 4, 3) := by decide +kernel
theorem dX5_pay_59 : decode cX5_pay 59 = .ok (.iconst 0, 1) := by decide +kernel
theorem dX5_pay_60 : decode cX5_pay 60 = .ok (.istore 8, 2) := by decide +kernel
theorem dX5_pay_62 : decode cX5_pay 62 = .ok (.aload_n 0, 1) := by decide +kernel
theorem dX5_pay_63 : decode cX5_pay 63 = .ok (.getfield 35, 3) := by decide +kernel
theorem dX5_pay_66 : decode cX5_pay 66 = .ok (.iload_n 1, 1) := by decide +kernel
theorem dX5_pay_67 : decode cX5_pay 67 = .ok (.iload 6, 2) := by decide +kernel
theorem dX5_pay_69 : decode cX5_pay 69 = .ok (.iadd, 1) := by decide +kernel
theorem dX5_pay_70 : decode cX5_pay 70 = .ok (.iload 8, 2) := by decide +kernel
theorem dX5_pay_72 : decode cX5_pay 72 = .ok (.ifCond .ne 10, 3) := by decide +kernel
theorem dX5_pay_75 : decode cX5_pay 75 = .ok (.iload 7, 2) := by decide +kernel
theorem dX5_pay_77 : decode cX5_pay 77 = .ok (.ldc 82, 2) := by decide +kernel
theorem dX5_pay_79 : decode cX5_pay 79 = .ok (.if_icmp .le 8, 3) := by decide +kernel
theorem dX5_pay_82 : decode cX5_pay 82 = .ok (.ldc 82, 2) := by decide +kernel
theorem dX5_pay_84 : decode cX5_pay 84 = .ok (.goto 5, 3) := by decide +kernel
theorem dX5_pay_87 : decode cX5_pay 87 = .ok (.iload 7, 2) := by decide +kernel
theorem dX5_pay_89 : decode cX5_pay 89 = .ok (.iastore, 1) := by decide +kernel
theorem dX5_pay_90 : decode cX5_pay 90 = .ok (.iinc 5 1, 3) := by decide +kernel
theorem dX5_pay_93 : decode cX5_pay 93 = .ok (.goto (-90), 3) := by decide +kernel
theorem dX5_pay_96 : decode cX5_pay 96 = .ok (.return_, 1) := by decide +kernel
set_option maxRecDepth 20000 in
theorem ggX5_least_X5_row : GoodIn wsX5_least wsX5_row := goodIn_r _ [6, 7, 14, 15, 16, 17, 18, 19, 20, 21, 22, 23] (by decide +kernel) (by decide +kernel)
set_option maxRecDepth 20000 in
theorem gX5_least_X5_row : GoodIn wsX5_least (wsV RX5 74 RX5 yX5_row wsX5_row) := goodIn_app (goodIn_of _ (by decide +kernel)) ggX5_least_X5_row
set_option maxRecDepth 20000 in
theorem ggX5_least_X5_leastSet : GoodIn wsX5_least wsX5_leastSet := goodIn_r _ [11, 12, 1, 13, 2, 3, 4, 5, 6, 7, 14, 15, 16, 17, 18, 19, 20, 21, 22, 23] (by decide +kernel) (by decide +kernel)
set_option maxRecDepth 20000 in
theorem gX5_least_X5_leastSet : GoodIn wsX5_least (wsV RX5 110 RX5 yX5_leastSet wsX5_leastSet) := goodIn_app (goodIn_of _ (by decide +kernel)) ggX5_least_X5_leastSet
theorem dX5_least_0 : decode cX5_least 0 = .ok (.aload_n 0, 1) := by decide +kernel
theorem dX5_least_1 : decode cX5_least 1 = .ok (.getfield 35, 3) := by decide +kernel
theorem dX5_least_4 : decode cX5_least 4 = .ok (.aload_n 0, 1) := by decide +kernel
theorem dX5_least_5 : decode cX5_least 5 = .ok (.iload_n 1, 1) := by decide +kernel
theorem dX5_least_6 : decode cX5_least 6 = .ok (.invokevirtual 74, 3) := by decide +kernel
theorem dX5_least_9 : decode cX5_least 9 = .ok (.aload_n 0, 1) := by decide +kernel
theorem dX5_least_10 : decode cX5_least 10 = .ok (.iload_n 1, 1) := by decide +kernel
theorem dX5_least_11 : decode cX5_least 11 = .ok (.invokevirtual 110, 3) := by decide +kernel
theorem dX5_least_14 : decode cX5_least 14 = .ok (.iadd, 1) := by decide +kernel
theorem dX5_least_15 : decode cX5_least 15 = .ok (.iaload, 1) := by decide +kernel
theorem dX5_least_16 : decode cX5_least 16 = .ok (.ireturn, 1) := by decide +kernel
set_option maxRecDepth 20000 in
theorem ggX5_leastSet_X5_row : GoodIn wsX5_leastSet wsX5_row := goodIn_r _ [8, 9, 10, 11, 12, 13, 14, 15, 16, 17, 18, 19] (by decide +kernel) (by decide +kernel)
set_option maxRecDepth 20000 in
theorem gX5_leastSet_X5_row : GoodIn wsX5_leastSet (wsV RX5 74 RX5 yX5_row wsX5_row) := goodIn_app (goodIn_of _ (by decide +kernel)) ggX5_leastSet_X5_row
theorem dX5_leastSet_0 : decode cX5_leastSet 0 = .ok (.iconst 0, 1) := by decide +kernel
theorem dX5_leastSet_1 : decode cX5_leastSet 1 = .ok (.istore_n 2, 1) := by decide +kernel
theorem dX5_leastSet_2 : decode cX5_leastSet 2 = .ok (.iconst 1, 1) := by decide +kernel
theorem dX5_leastSet_3 : decode cX5_leastSet 3 = .ok (.istore_n 3, 1) := by decide +kernel
theorem dX5_leastSet_4 : decode cX5_leastSet 4 = .ok (.iload_n 3, 1) := by decide +kernel
theorem dX5_leastSet_5 : decode cX5_leastSet 5 = .ok (.aload_n 0, 1) := by decide +kernel
theorem dX5_leastSet_6 : decode cX5_leastSet 6 = .ok (.getfield 101, 3) := by decide +kernel
theorem dX5_leastSet_9 : decode cX5_leastSet 9 = .ok (.if_icmp .ge 48, 3) := by decide +kernel
theorem dX5_leastSet_12 : decode cX5_leastSet 12 = .ok (.aload_n 0, 1) := by decide +kernel
theorem dX5_leastSet_13 : decode cX5_leastSet 13 = .ok (.getfield 35, 3) := by decide +kernel
theorem dX5_leastSet_16 : decode cX5_leastSet 16 = .ok (.aload_n 0, 1) := by decide +kernel
theorem dX5_leastSet_17 : decode cX5_leastSet 17 = .ok (.iload_n 1, 1) := by decide +kernel
theorem dX5_leastSet_18 : decode cX5_leastSet 18 = .ok (.invokevirtual 74, 3) := by decide +kernel
theorem dX5_leastSet_21 : decode cX5_leastSet 21 = .ok (.aload_n 0, 1) := by decide +kernel
theorem dX5_leastSet_22 : decode cX5_leastSet 22 = .ok (.getfield 18, 3) := by decide +kernel
theorem dX5_leastSet_25 : decode cX5_leastSet 25 = .ok (.iload_n 3, 1) := by decide +kernel
theorem dX5_leastSet_26 : decode cX5_leastSet 26 = .ok (.iaload, 1) := by decide +kernel
theorem dX5_leastSet_27 : decode cX5_leastSet 27 = .ok (.iadd, 1) := by decide +kernel
theorem dX5_leastSet_28 : decode cX5_leastSet 28 = .ok (.iaload, 1) := by decide +kernel
theorem dX5_leastSet_29 : decode cX5_leastSet 29 = .ok (.aload_n 0, 1) := by decide +kernel
theorem dX5_leastSet_30 : decode cX5_leastSet 30 = .ok (.getfield 35, 3) := by decide +kernel
theorem dX5_leastSet_33 : decode cX5_leastSet 33 = .ok (.aload_n 0, 1) := by decide +kernel
theorem dX5_leastSet_34 : decode cX5_leastSet 34 = .ok (.iload_n 1, 1) := by decide +kernel
theorem dX5_leastSet_35 : decode cX5_leastSet 35 = .ok (.invokevirtual 74, 3) := by decide +kernel
theorem dX5_leastSet_38 : decode cX5_leastSet 38 = .ok (.iload_n 2, 1) := by decide +kernel
theorem dX5_leastSet_39 : decode cX5_leastSet 39 = .ok (.iadd, 1) := by decide +kernel
theorem dX5_leastSet_40 : decode cX5_leastSet 40 = .ok (.iaload, 1) := by decide +kernel
theorem dX5_leastSet_41 : decode cX5_leastSet 41 = .ok (.if_icmp .ge 10, 3) := by decide +kernel
theorem dX5_leastSet_44 : decode cX5_leastSet 44 = .ok (.aload_n 0, 1) := by decide +kernel
theorem dX5_leastSet_45 : decode cX5_leastSet 45 = .ok (.getfield 18, 3) := by decide +kernel
theorem dX5_leastSet_48 : decode cX5_leastSet 48 = .ok (.iload_n 3, 1) := by decide +kernel
theorem dX5_leastSet_49 : decode cX5_leastSet 49 = .ok (.iaload, 1) := by decide +kernel
theorem dX5_leastSet_50 : decode cX5_leastSet 50 = .ok (.istore_n 2, 1) := by decide +kernel
theorem dX5_leastSet_51 : decode cX5_leastSet 51 = .ok (.iinc 3 1, 3) := by decide +kernel
theorem dX5_leastSet_54 : decode cX5_leastSet 54 = .ok (.goto (-50), 3) := by decide +kernel
theorem dX5_leastSet_57 : decode cX5_leastSet 57 = .ok (.iload_n 2, 1) := by decide +kernel
theorem dX5_leastSet_58 : decode cX5_leastSet 58 = .ok (.ireturn, 1) := by decide +kernel
set_option maxRecDepth 20000 in
theorem ggX5_trace_X5_leastSet : GoodIn wsX5_trace wsX5_leastSet := goodIn_r _ [9, 10, 4, 11, 12, 13, 14, 8, 15, 16, 30, 31, 32, 33, 34, 35, 36, 37, 38, 39] (by decide +kernel) (by decide +kernel)
set_option maxRecDepth 20000 in
theorem gX5_trace_X5_leastSet : GoodIn wsX5_trace (wsV RX5 110 RX5 yX5_leastSet wsX5_leastSet) := goodIn_app (goodIn_of _ (by decide +kernel)) ggX5_trace_X5_leastSet
set_option maxRecDepth 20000 in
theorem ggX5_trace_X5_row : GoodIn wsX5_trace wsX5_row := goodIn_r _ [15, 16, 30, 31, 32, 33, 34, 35, 36, 37, 38, 39] (by decide +kernel) (by decide +kernel)
set_option maxRecDepth 20000 in
theorem gX5_trace_X5_row : GoodIn wsX5_trace (wsV RX5 74 RX5 yX5_row wsX5_row) := goodIn_app (goodIn_of _ (by decide +kernel)) ggX5_trace_X5_row
set_option maxRecDepth 20000 in
theorem ggX5_trace_X5_servingCost : GoodIn wsX5_trace wsX5_servingCost := goodIn_r _ [20, 21, 22, 3, 23, 24, 40, 41, 42, 43, 44, 45, 46, 47, 48, 49, 50, 51, 30, 31, 32, 33, 34, 35, 36, 37, 38, 39, 52, 53, 54, 55, 56] (by decide +kernel) (by decide +kernel)
set_option maxRecDepth 20000 in
theorem gX5_trace_X5_servingCost : GoodIn wsX5_trace (wsV RX5 113 RX5 yX5_servingCost wsX5_servingCost) := goodIn_app (goodIn_of _ (by decide +kernel)) ggX5_trace_X5_servingCost
set_option maxRecDepth 20000 in
theorem ggX5_trace_X5_firstAhead : GoodIn wsX5_trace wsX5_firstAhead := goodIn_r _ [28, 10, 11, 4, 29, 30, 31, 32, 33, 34, 35, 36, 37, 38, 39] (by decide +kernel) (by decide +kernel)
set_option maxRecDepth 20000 in
theorem gX5_trace_X5_firstAhead : GoodIn wsX5_trace (wsV RX5 117 RX5 yX5_firstAhead wsX5_firstAhead) := goodIn_app (goodIn_of _ (by decide +kernel)) ggX5_trace_X5_firstAhead
theorem dX5_trace_0 : decode cX5_trace 0 = .ok (.aload_n 0, 1) := by decide +kernel
theorem dX5_trace_1 : decode cX5_trace 1 = .ok (.getfield 25, 3) := by decide +kernel
theorem dX5_trace_4 : decode cX5_trace 4 = .ok (.aload_n 0, 1) := by decide +kernel
theorem dX5_trace_5 : decode cX5_trace 5 = .ok (.getfield 21, 3) := by decide +kernel
theorem dX5_trace_8 : decode cX5_trace 8 = .ok (.if_icmp .eq 11, 3) := by decide +kernel
theorem dX5_trace_11 : decode cX5_trace 11 = .ok (.aload_n 0, 1) := by decide +kernel
theorem dX5_trace_12 : decode cX5_trace 12 = .ok (.getfield 21, 3) := by decide +kernel
theorem dX5_trace_15 : decode cX5_trace 15 = .ok (.iconst 1, 1) := by decide +kernel
theorem dX5_trace_16 : decode cX5_trace 16 = .ok (.if_icmp .ge 4, 3) := by decide +kernel
theorem dX5_trace_19 : decode cX5_trace 19 = .ok (.return_, 1) := by decide +kernel
theorem dX5_trace_20 : decode cX5_trace 20 = .ok (.aload_n 0, 1) := by decide +kernel
theorem dX5_trace_21 : decode cX5_trace 21 = .ok (.getfield 28, 3) := by decide +kernel
theorem dX5_trace_24 : decode cX5_trace 24 = .ok (.aload_n 0, 1) := by decide +kernel
theorem dX5_trace_25 : decode cX5_trace 25 = .ok (.getfield 21, 3) := by decide +kernel
theorem dX5_trace_28 : decode cX5_trace 28 = .ok (.iconst 1, 1) := by decide +kernel
theorem dX5_trace_29 : decode cX5_trace 29 = .ok (.isub, 1) := by decide +kernel
theorem dX5_trace_30 : decode cX5_trace 30 = .ok (.aload_n 0, 1) := by decide +kernel
theorem dX5_trace_31 : decode cX5_trace 31 = .ok (.aload_n 0, 1) := by decide +kernel
theorem dX5_trace_32 : decode cX5_trace 32 = .ok (.getfield 21, 3) := by decide +kernel
theorem dX5_trace_35 : decode cX5_trace 35 = .ok (.invokevirtual 110, 3) := by decide +kernel
theorem dX5_trace_38 : decode cX5_trace 38 = .ok (.iastore, 1) := by decide +kernel
theorem dX5_trace_39 : decode cX5_trace 39 = .ok (.aload_n 0, 1) := by decide +kernel
theorem dX5_trace_40 : decode cX5_trace 40 = .ok (.getfield 21, 3) := by decide +kernel
theorem dX5_trace_43 : decode cX5_trace 43 = .ok (.iconst 1, 1) := by decide +kernel
theorem dX5_trace_44 : decode cX5_trace 44 = .ok (.isub, 1) := by decide +kernel
theorem dX5_trace_45 : decode cX5_trace 45 = .ok (.istore_n 2, 1) := by decide +kernel
theorem dX5_trace_46 : decode cX5_trace 46 = .ok (.iload_n 2, 1) := by decide +kernel
theorem dX5_trace_47 : decode cX5_trace 47 = .ok (.ifCond .le 60, 3) := by decide +kernel
theorem dX5_trace_50 : decode cX5_trace 50 = .ok (.aload_n 0, 1) := by decide +kernel
theorem dX5_trace_51 : decode cX5_trace 51 = .ok (.getfield 35, 3) := by decide +kernel
theorem dX5_trace_54 : decode cX5_trace 54 = .ok (.aload_n 0, 1) := by decide +kernel
theorem dX5_trace_55 : decode cX5_trace 55 = .ok (.iload_n 2, 1) := by decide +kernel
theorem dX5_trace_56 : decode cX5_trace 56 = .ok (.iconst 1, 1) := by decide +kernel
theorem dX5_trace_57 : decode cX5_trace 57 = .ok (.iadd, 1) := by decide +kernel
theorem dX5_trace_58 : decode cX5_trace 58 = .ok (.invokevirtual 74, 3) := by decide +kernel
theorem dX5_trace_61 : decode cX5_trace 61 = .ok (.aload_n 0, 1) := by decide +kernel
theorem dX5_trace_62 : decode cX5_trace 62 = .ok (.getfield 28, 3) := by decide +kernel
theorem dX5_trace_65 : decode cX5_trace 65 = .ok (.iload_n 2, 1) := by decide +kernel
theorem dX5_trace_66 : decode cX5_trace 66 = .ok (.iaload, 1) := by decide +kernel
theorem dX5_trace_67 : decode cX5_trace 67 = .ok (.iadd, 1) := by decide +kernel
theorem dX5_trace_68 : decode cX5_trace 68 = .ok (.iaload, 1) := by decide +kernel
theorem dX5_trace_69 : decode cX5_trace 69 = .ok (.aload_n 0, 1) := by decide +kernel
theorem dX5_trace_70 : decode cX5_trace 70 = .ok (.aload_n 1, 1) := by decide +kernel
theorem dX5_trace_71 : decode cX5_trace 71 = .ok (.iload_n 2, 1) := by decide +kernel
theorem dX5_trace_72 : decode cX5_trace 72 = .ok (.invokevirtual 113, 3) := by decide +kernel
theorem dX5_trace_75 : decode cX5_trace 75 = .ok (.isub, 1) := by decide +kernel
theorem dX5_trace_76 : decode cX5_trace 76 = .ok (.istore_n 3, 1) := by decide +kernel
theorem dX5_trace_77 : decode cX5_trace 77 = .ok (.aload_n 0, 1) := by decide +kernel
theorem dX5_trace_78 : decode cX5_trace 78 = .ok (.getfield 28, 3) := by decide +kernel
theorem dX5_trace_81 : decode cX5_trace 81 = .ok (.iload_n 2, 1) := by decide +kernel
theorem dX5_trace_82 : decode cX5_trace 82 = .ok (.iconst 1, 1) := by decide +kernel
theorem dX5_trace_83 : decode cX5_trace 83 = .ok (.isub, 1) := by decide +kernel
theorem dX5_trace_84 : decode cX5_trace 84 = .ok (.aload_n 0, 1) := by decide +kernel
theorem dX5_trace_85 : decode cX5_trace 85 = .ok (.aload_n 0, 1) := by decide +kernel
theorem dX5_trace_86 : decode cX5_trace 86 = .ok (.iload_n 2, 1) := by decide +kernel
theorem dX5_trace_87 : decode cX5_trace 87 = .ok (.invokevirtual 74, 3) := by decide +kernel
theorem dX5_trace_90 : decode cX5_trace 90 = .ok (.aload_n 0, 1) := by decide +kernel
theorem dX5_trace_91 : decode cX5_trace 91 = .ok (.getfield 28, 3) := by decide +kernel
theorem dX5_trace_94 : decode cX5_trace 94 = .ok (.iload_n 2, 1) := by decide +kernel
theorem dX5_trace_95 : decode cX5_trace 95 = .ok (.iaload, 1) := by decide +kernel
theorem dX5_trace_96 : decode cX5_trace 96 = .ok (.iload_n 3, 1) := by decide +kernel
theorem dX5_trace_97 : decode cX5_trace 97 = .ok (.invokevirtual 117, 3) := by decide +kernel
theorem dX5_trace_100 : decode cX5_trace 100 = .ok (.iastore, 1) := by decide +kernel
theorem dX5_trace_101 : decode cX5_trace 101 = .ok (.iinc 2 (-1), 3) := by decide +kernel
theorem dX5_trace_104 : decode cX5_trace 104 = .ok (.goto (-58), 3) := by decide +kernel
theorem dX5_trace_107 : decode cX5_trace 107 = .ok (.aload_n 0, 1) := by decide +kernel
theorem dX5_trace_108 : decode cX5_trace 108 = .ok (.aload_n 0, 1) := by decide +kernel
theorem dX5_trace_109 : decode cX5_trace 109 = .ok (.getfield 21, 3) := by decide +kernel
theorem dX5_trace_112 : decode cX5_trace 112 = .ok (.putfield 25, 3) := by decide +kernel
theorem dX5_trace_115 : decode cX5_trace 115 = .ok (.return_, 1) := by decide +kernel
theorem dX5_firstAhead_0 : decode cX5_firstAhead 0 = .ok (.iconst 0, 1) := by decide +kernel
theorem dX5_firstAhead_1 : decode cX5_firstAhead 1 = .ok (.istore 4, 2) := by decide +kernel
theorem dX5_firstAhead_3 : decode cX5_firstAhead 3 = .ok (.iload 4, 2) := by decide +kernel
theorem dX5_firstAhead_5 : decode cX5_firstAhead 5 = .ok (.aload_n 0, 1) := by decide +kernel
theorem dX5_firstAhead_6 : decode cX5_firstAhead 6 = .ok (.getfield 101, 3) := by decide +kernel
theorem dX5_firstAhead_9 : decode cX5_firstAhead 9 = .ok (.if_icmp .ge 46, 3) := by decide +kernel
theorem dX5_firstAhead_12 : decode cX5_firstAhead 12 = .ok (.aload_n 0, 1) := by decide +kernel
theorem dX5_firstAhead_13 : decode cX5_firstAhead 13 = .ok (.getfield 18, 3) := by decide +kernel
theorem dX5_firstAhead_16 : decode cX5_firstAhead 16 = .ok (.iload 4, 2) := by decide +kernel
theorem dX5_firstAhead_18 : decode cX5_firstAhead 18 = .ok (.iaload, 1) := by decide +kernel
theorem dX5_firstAhead_19 : decode cX5_firstAhead 19 = .ok (.istore 5, 2) := by decide +kernel
theorem dX5_firstAhead_21 : decode cX5_firstAhead 21 = .ok (.aload_n 0, 1) := by decide +kernel
theorem dX5_firstAhead_22 : decode cX5_firstAhead 22 = .ok (.getfield 35, 3) := by decide +kernel
theorem dX5_firstAhead_25 : decode cX5_firstAhead 25 = .ok (.iload_n 1, 1) := by decide +kernel
theorem dX5_firstAhead_26 : decode cX5_firstAhead 26 = .ok (.iload 5, 2) := by decide +kernel
theorem dX5_firstAhead_28 : decode cX5_firstAhead 28 = .ok (.iadd, 1) := by decide +kernel
theorem dX5_firstAhead_29 : decode cX5_firstAhead 29 = .ok (.iaload, 1) := by decide +kernel
theorem dX5_firstAhead_30 : decode cX5_firstAhead 30 = .ok (.aload_n 0, 1) := by decide +kernel
theorem dX5_firstAhead_31 : decode cX5_firstAhead 31 = .ok (.getfield 15, 3) := by decide +kernel
theorem dX5_firstAhead_34 : decode cX5_firstAhead 34 = .ok (.iload_n 2, 1) := by decide +kernel
theorem dX5_firstAhead_35 : decode cX5_firstAhead 35 = .ok (.iload 5, 2) := by decide +kernel
theorem dX5_firstAhead_37 : decode cX5_firstAhead 37 = .ok (.iconst (-1), 1) := by decide +kernel
theorem dX5_firstAhead_38 : decode cX5_firstAhead 38 = .ok (.ixor, 1) := by decide +kernel
theorem dX5_firstAhead_39 : decode cX5_firstAhead 39 = .ok (.iand, 1) := by decide +kernel
theorem dX5_firstAhead_40 : decode cX5_firstAhead 40 = .ok (.iaload, 1) := by decide +kernel
theorem dX5_firstAhead_41 : decode cX5_firstAhead 41 = .ok (.iadd, 1) := by decide +kernel
theorem dX5_firstAhead_42 : decode cX5_firstAhead 42 = .ok (.iload_n 3, 1) := by decide +kernel
theorem dX5_firstAhead_43 : decode cX5_firstAhead 43 = .ok (.if_icmp .ne 6, 3) := by decide +kernel
theorem dX5_firstAhead_46 : decode cX5_firstAhead 46 = .ok (.iload 5, 2) := by decide +kernel
theorem dX5_firstAhead_48 : decode cX5_firstAhead 48 = .ok (.ireturn, 1) := by decide +kernel
theorem dX5_firstAhead_49 : decode cX5_firstAhead 49 = .ok (.iinc 4 1, 3) := by decide +kernel
theorem dX5_firstAhead_52 : decode cX5_firstAhead 52 = .ok (.goto (-49), 3) := by decide +kernel
theorem dX5_firstAhead_55 : decode cX5_firstAhead 55 = .ok (.iconst 0, 1) := by decide +kernel
theorem dX5_firstAhead_56 : decode cX5_firstAhead 56 = .ok (.ireturn, 1) := by decide +kernel
theorem dX5_servingCost_0 : decode cX5_servingCost 0 = .ok (.aload_n 1, 1) := by decide +kernel
theorem dX5_servingCost_1 : decode cX5_servingCost 1 = .ok (.getfield 48, 3) := by decide +kernel
theorem dX5_servingCost_4 : decode cX5_servingCost 4 = .ok (.getfield 57, 3) := by decide +kernel
theorem dX5_servingCost_7 : decode cX5_servingCost 7 = .ok (.iload_n 2, 1) := by decide +kernel
theorem dX5_servingCost_8 : decode cX5_servingCost 8 = .ok (.iaload, 1) := by decide +kernel
theorem dX5_servingCost_9 : decode cX5_servingCost 9 = .ok (.istore_n 3, 1) := by decide +kernel
theorem dX5_servingCost_10 : decode cX5_servingCost 10 = .ok (.aload_n 0, 1) := by decide +kernel
theorem dX5_servingCost_11 : decode cX5_servingCost 11 = .ok (.getfield 28, 3) := by decide +kernel
theorem dX5_servingCost_14 : decode cX5_servingCost 14 = .ok (.iload_n 2, 1) := by decide +kernel
theorem dX5_servingCost_15 : decode cX5_servingCost 15 = .ok (.iaload, 1) := by decide +kernel
theorem dX5_servingCost_16 : decode cX5_servingCost 16 = .ok (.iload_n 3, 1) := by decide +kernel
theorem dX5_servingCost_17 : decode cX5_servingCost 17 = .ok (.ishr, 1) := by decide +kernel
theorem dX5_servingCost_18 : decode cX5_servingCost 18 = .ok (.iconst 1, 1) := by decide +kernel
theorem dX5_servingCost_19 : decode cX5_servingCost 19 = .ok (.iand, 1) := by decide +kernel
theorem dX5_servingCost_20 : decode cX5_servingCost 20 = .ok (.iconst 1, 1) := by decide +kernel
theorem dX5_servingCost_21 : decode cX5_servingCost 21 = .ok (.if_icmp .ne 7, 3) := by decide +kernel
theorem dX5_servingCost_24 : decode cX5_servingCost 24 = .ok (.iconst 0, 1) := by decide +kernel
theorem dX5_servingCost_25 : decode cX5_servingCost 25 = .ok (.goto 12, 3) := by decide +kernel
theorem dX5_servingCost_28 : decode cX5_servingCost 28 = .ok (.aload_n 1, 1) := by decide +kernel
theorem dX5_servingCost_29 : decode cX5_servingCost 29 = .ok (.getfield 38, 3) := by decide +kernel
theorem dX5_servingCost_32 : decode cX5_servingCost 32 = .ok (.getfield 83, 3) := by decide +kernel
theorem dX5_servingCost_35 : decode cX5_servingCost 35 = .ok (.iload_n 3, 1) := by decide +kernel
theorem dX5_servingCost_36 : decode cX5_servingCost 36 = .ok (.iaload, 1) := by decide +kernel
theorem dX5_servingCost_37 : decode cX5_servingCost 37 = .ok (.ireturn, 1) := by decide +kernel
set_option maxRecDepth 20000 in
theorem ggX5_paysAt_X5_servingCost : GoodIn wsX5_paysAt wsX5_servingCost := goodIn_r _ [7, 8, 9, 1, 10, 11, 22, 23, 24, 25, 26, 27, 28, 29, 30, 31, 32, 33, 12, 13, 14, 15, 16, 17, 18, 19, 20, 21, 34, 35, 36, 37, 38] (by decide +kernel) (by decide +kernel)
set_option maxRecDepth 20000 in
theorem gX5_paysAt_X5_servingCost : GoodIn wsX5_paysAt (wsV RX5 113 RX5 yX5_servingCost wsX5_servingCost) := goodIn_app (goodIn_of _ (by decide +kernel)) ggX5_paysAt_X5_servingCost
theorem dX5_paysAt_0 : decode cX5_paysAt 0 = .ok (.iload_n 2, 1) := by decide +kernel
theorem dX5_paysAt_1 : decode cX5_paysAt 1 = .ok (.ifCond .ne 7, 3) := by decide +kernel
theorem dX5_paysAt_4 : decode cX5_paysAt 4 = .ok (.iconst 0, 1) := by decide +kernel
theorem dX5_paysAt_5 : decode cX5_paysAt 5 = .ok (.goto 11, 3) := by decide +kernel
theorem dX5_paysAt_8 : decode cX5_paysAt 8 = .ok (.aload_n 0, 1) := by decide +kernel
theorem dX5_paysAt_9 : decode cX5_paysAt 9 = .ok (.getfield 28, 3) := by decide +kernel
theorem dX5_paysAt_12 : decode cX5_paysAt 12 = .ok (.iload_n 2, 1) := by decide +kernel
theorem dX5_paysAt_13 : decode cX5_paysAt 13 = .ok (.iconst 1, 1) := by decide +kernel
theorem dX5_paysAt_14 : decode cX5_paysAt 14 = .ok (.isub, 1) := by decide +kernel
theorem dX5_paysAt_15 : decode cX5_paysAt 15 = .ok (.iaload, 1) := by decide +kernel
theorem dX5_paysAt_16 : decode cX5_paysAt 16 = .ok (.istore_n 3, 1) := by decide +kernel
theorem dX5_paysAt_17 : decode cX5_paysAt 17 = .ok (.aload_n 0, 1) := by decide +kernel
theorem dX5_paysAt_18 : decode cX5_paysAt 18 = .ok (.getfield 15, 3) := by decide +kernel
theorem dX5_paysAt_21 : decode cX5_paysAt 21 = .ok (.aload_n 0, 1) := by decide +kernel
theorem dX5_paysAt_22 : decode cX5_paysAt 22 = .ok (.getfield 28, 3) := by decide +kernel
theorem dX5_paysAt_25 : decode cX5_paysAt 25 = .ok (.iload_n 2, 1) := by decide +kernel
theorem dX5_paysAt_26 : decode cX5_paysAt 26 = .ok (.iaload, 1) := by decide +kernel
theorem dX5_paysAt_27 : decode cX5_paysAt 27 = .ok (.iload_n 3, 1) := by decide +kernel
theorem dX5_paysAt_28 : decode cX5_paysAt 28 = .ok (.iconst (-1), 1) := by decide +kernel
theorem dX5_paysAt_29 : decode cX5_paysAt 29 = .ok (.ixor, 1) := by decide +kernel
theorem dX5_paysAt_30 : decode cX5_paysAt 30 = .ok (.iand, 1) := by decide +kernel
theorem dX5_paysAt_31 : decode cX5_paysAt 31 = .ok (.iaload, 1) := by decide +kernel
theorem dX5_paysAt_32 : decode cX5_paysAt 32 = .ok (.aload_n 0, 1) := by decide +kernel

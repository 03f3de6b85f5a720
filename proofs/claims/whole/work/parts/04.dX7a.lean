theorem dX7_init_0 : decode cX7_init 0 = .ok (.aload_n 0, 1) := by decide +kernel
theorem dX7_init_1 : decode cX7_init 1 = .ok (.invokespecial 1, 3) := by decide +kernel
theorem dX7_init_4 : decode cX7_init 4 = .ok (.aload_n 0, 1) := by decide +kernel
theorem dX7_init_5 : decode cX7_init 5 = .ok (.sipush 193, 3) := by decide +kernel
theorem dX7_init_8 : decode cX7_init 8 = .ok (.newarray .int, 2) := by decide +kernel
theorem dX7_init_10 : decode cX7_init 10 = .ok (.putfield 7, 3) := by decide +kernel
theorem dX7_init_13 : decode cX7_init 13 = .ok (.aload_n 0, 1) := by decide +kernel
theorem dX7_init_14 : decode cX7_init 14 = .ok (.sipush 965, 3) := by decide +kernel
theorem dX7_init_17 : decode cX7_init 17 = .ok (.newarray .int, 2) := by decide +kernel
theorem dX7_init_19 : decode cX7_init 19 = .ok (.putfield 13, 3) := by decide +kernel
theorem dX7_init_22 : decode cX7_init 22 = .ok (.aload_n 0, 1) := by decide +kernel
theorem dX7_init_23 : decode cX7_init 23 = .ok (.sipush 193, 3) := by decide +kernel
theorem dX7_init_26 : decode cX7_init 26 = .ok (.newarray .int, 2) := by decide +kernel
theorem dX7_init_28 : decode cX7_init 28 = .ok (.putfield 16, 3) := by decide +kernel
theorem dX7_init_31 : decode cX7_init 31 = .ok (.aload_n 0, 1) := by decide +kernel
theorem dX7_init_32 : decode cX7_init 32 = .ok (.bipush 100, 2) := by decide +kernel
theorem dX7_init_34 : decode cX7_init 34 = .ok (.newarray .int, 2) := by decide +kernel
theorem dX7_init_36 : decode cX7_init 36 = .ok (.putfield 19, 3) := by decide +kernel
theorem dX7_init_39 : decode cX7_init 39 = .ok (.aload_n 0, 1) := by decide +kernel
theorem dX7_init_40 : decode cX7_init 40 = .ok (.bipush 6, 2) := by decide +kernel
theorem dX7_init_42 : decode cX7_init 42 = .ok (.newarray .int, 2) := by decide +kernel
theorem dX7_init_44 : decode cX7_init 44 = .ok (.putfield 22, 3) := by decide +kernel
theorem dX7_init_47 : decode cX7_init 47 = .ok (.aload_n 0, 1) := by decide +kernel
theorem dX7_init_48 : decode cX7_init 48 = .ok (.getfield 7, 3) := by decide +kernel
theorem dX7_init_51 : decode cX7_init 51 = .ok (.iconst 0, 1) := by decide +kernel
theorem dX7_init_52 : decode cX7_init 52 = .ok (.bipush 100, 2) := by decide +kernel
theorem dX7_init_54 : decode cX7_init 54 = .ok (.iastore, 1) := by decide +kernel
theorem dX7_init_55 : decode cX7_init 55 = .ok (.aload_n 0, 1) := by decide +kernel
theorem dX7_init_56 : decode cX7_init 56 = .ok (.getfield 7, 3) := by decide +kernel
theorem dX7_init_59 : decode cX7_init 59 = .ok (.iconst 1, 1) := by decide +kernel
theorem dX7_init_60 : decode cX7_init 60 = .ok (.sipush 18000, 3) := by decide +kernel
theorem dX7_init_63 : decode cX7_init 63 = .ok (.iastore, 1) := by decide +kernel
theorem dX7_init_64 : decode cX7_init 64 = .ok (.aload_n 0, 1) := by decide +kernel
theorem dX7_init_65 : decode cX7_init 65 = .ok (.getfield 7, 3) := by decide +kernel
theorem dX7_init_68 : decode cX7_init 68 = .ok (.iconst 2, 1) := by decide +kernel
theorem dX7_init_69 : decode cX7_init 69 = .ok (.bipush 30, 2) := by decide +kernel
theorem dX7_init_71 : decode cX7_init 71 = .ok (.iastore, 1) := by decide +kernel
theorem dX7_init_72 : decode cX7_init 72 = .ok (.aload_n 0, 1) := by decide +kernel
theorem dX7_init_73 : decode cX7_init 73 = .ok (.getfield 7, 3) := by decide +kernel
theorem dX7_init_76 : decode cX7_init 76 = .ok (.iconst 3, 1) := by decide +kernel
theorem dX7_init_77 : decode cX7_init 77 = .ok (.bipush 60, 2) := by decide +kernel
theorem dX7_init_79 : decode cX7_init 79 = .ok (.iastore, 1) := by decide +kernel
theorem dX7_init_80 : decode cX7_init 80 = .ok (.aload_n 0, 1) := by decide +kernel
theorem dX7_init_81 : decode cX7_init 81 = .ok (.getfield 7, 3) := by decide +kernel
theorem dX7_init_84 : decode cX7_init 84 = .ok (.bipush 39, 2) := by decide +kernel
theorem dX7_init_86 : decode cX7_init 86 = .ok (.bipush 40, 2) := by decide +kernel
theorem dX7_init_88 : decode cX7_init 88 = .ok (.iastore, 1) := by decide +kernel
theorem dX7_init_89 : decode cX7_init 89 = .ok (.aload_n 0, 1) := by decide +kernel
theorem dX7_init_90 : decode cX7_init 90 = .ok (.getfield 7, 3) := by decide +kernel
theorem dX7_init_93 : decode cX7_init 93 = .ok (.bipush 41, 2) := by decide +kernel
theorem dX7_init_95 : decode cX7_init 95 = .ok (.sipush 600, 3) := by decide +kernel
theorem dX7_init_98 : decode cX7_init 98 = .ok (.iastore, 1) := by decide +kernel
theorem dX7_init_99 : decode cX7_init 99 = .ok (.aload_n 0, 1) := by decide +kernel
theorem dX7_init_100 : decode cX7_init 100 = .ok (.getfield 7, 3) := by decide +kernel
theorem dX7_init_103 : decode cX7_init 103 = .ok (.bipush 46, 2) := by decide +kernel
theorem dX7_init_105 : decode cX7_init 105 = .ok (.bipush 20, 2) := by decide +kernel
theorem dX7_init_107 : decode cX7_init 107 = .ok (.iastore, 1) := by decide +kernel
theorem dX7_init_108 : decode cX7_init 108 = .ok (.aload_n 0, 1) := by decide +kernel
theorem dX7_init_109 : decode cX7_init 109 = .ok (.getfield 7, 3) := by decide +kernel
theorem dX7_init_112 : decode cX7_init 112 = .ok (.bipush 48, 2) := by decide +kernel
theorem dX7_init_114 : decode cX7_init 114 = .ok (.sipush 300, 3) := by decide +kernel
theorem dX7_init_117 : decode cX7_init 117 = .ok (.iastore, 1) := by decide +kernel
theorem dX7_init_118 : decode cX7_init 118 = .ok (.aload_n 0, 1) := by decide +kernel
theorem dX7_init_119 : decode cX7_init 119 = .ok (.getfield 7, 3) := by decide +kernel
theorem dX7_init_122 : decode cX7_init 122 = .ok (.bipush 49, 2) := by decide +kernel
theorem dX7_init_124 : decode cX7_init 124 = .ok (.sipush 9000, 3) := by decide +kernel
theorem dX7_init_127 : decode cX7_init 127 = .ok (.iastore, 1) := by decide +kernel
theorem dX7_init_128 : decode cX7_init 128 = .ok (.return_, 1) := by decide +kernel
theorem dX7_in_0 : decode cX7_in 0 = .ok (.iload_n 0, 1) := by decide +kernel
theorem dX7_in_1 : decode cX7_in 1 = .ok (.iload_n 1, 1) := by decide +kernel
theorem dX7_in_2 : decode cX7_in 2 = .ok (.if_icmp .lt 12, 3) := by decide +kernel
theorem dX7_in_5 : decode cX7_in 5 = .ok (.iload_n 0, 1) := by decide +kernel
theorem dX7_in_6 : decode cX7_in 6 = .ok (.iload_n 2, 1) := by decide +kernel
theorem dX7_in_7 : decode cX7_in 7 = .ok (.if_icmp .gt 7, 3) := by decide +kernel
theorem dX7_in_10 : decode cX7_in 10 = .ok (.iconst 1, 1) := by decide +kernel
theorem dX7_in_11 : decode cX7_in 11 = .ok (.goto 4, 3) := by decide +kernel
theorem dX7_in_14 : decode cX7_in 14 = .ok (.iconst 0, 1) := by decide +kernel
theorem dX7_in_15 : decode cX7_in 15 = .ok (.ireturn, 1) := by decide +kernel
theorem dX7_copies_0 : decode cX7_copies 0 = .ok (.iconst 0, 1) := by decide +kernel
theorem dX7_copies_1 : decode cX7_copies 1 = .ok (.istore_n 3, 1) := by decide +kernel
theorem dX7_copies_2 : decode cX7_copies 2 = .ok (.iload_n 3, 1) := by decide +kernel
theorem dX7_copies_3 : decode cX7_copies 3 = .ok (.sipush 193, 3) := by decide +kernel
theorem dX7_copies_6 : decode cX7_copies 6 = .ok (.if_icmp .ge 15, 3) := by decide +kernel
theorem dX7_copies_9 : decode cX7_copies 9 = .ok (.aload_n 1, 1) := by decide +kernel
theorem dX7_copies_10 : decode cX7_copies 10 = .ok (.iload_n 3, 1) := by decide +kernel
theorem dX7_copies_11 : decode cX7_copies 11 = .ok (.aload_n 2, 1) := by decide +kernel
theorem dX7_copies_12 : decode cX7_copies 12 = .ok (.iload_n 3, 1) := by decide +kernel
theorem dX7_copies_13 : decode cX7_copies 13 = .ok (.iaload, 1) := by decide +kernel
theorem dX7_copies_14 : decode cX7_copies 14 = .ok (.iastore, 1) := by decide +kernel
theorem dX7_copies_15 : decode cX7_copies 15 = .ok (.iinc 3 1, 3) := by decide +kernel
theorem dX7_copies_18 : decode cX7_copies 18 = .ok (.goto (-16), 3) := by decide +kernel
theorem dX7_copies_21 : decode cX7_copies 21 = .ok (.return_, 1) := by decide +kernel
theorem dX7_records_0 : decode cX7_records 0 = .ok (.aload_n 0, 1) := by decide +kernel
theorem dX7_records_1 : decode cX7_records 1 = .ok (.getfield 25, 3) := by decide +kernel
theorem dX7_records_4 : decode cX7_records 4 = .ok (.iconst 5, 1) := by decide +kernel
theorem dX7_records_5 : decode cX7_records 5 = .ok (.if_icmp .ne 44, 3) := by decide +kernel
theorem dX7_records_8 : decode cX7_records 8 = .ok (.iconst 0, 1) := by decide +kernel
theorem dX7_records_9 : decode cX7_records 9 = .ok (.istore_n 1, 1) := by decide +kernel
theorem dX7_records_10 : decode cX7_records 10 = .ok (.iload_n 1, 1) := by decide +kernel
theorem dX7_records_11 : decode cX7_records 11 = .ok (.sipush 772, 3) := by decide +kernel
theorem dX7_records_14 : decode cX7_records 14 = .ok (.if_icmp .ge 25, 3) := by decide +kernel
theorem dX7_records_17 : decode cX7_records 17 = .ok (.aload_n 0, 1) := by decide +kernel
theorem dX7_records_18 : decode cX7_records 18 = .ok (.getfield 13, 3) := by decide +kernel
theorem dX7_records_21 : decode cX7_records 21 = .ok (.iload_n 1, 1) := by decide +kernel
theorem dX7_records_22 : decode cX7_records 22 = .ok (.aload_n 0, 1) := by decide +kernel
theorem dX7_records_23 : decode cX7_records 23 = .ok (.getfield 13, 3) := by decide +kernel
theorem dX7_records_26 : decode cX7_records 26 = .ok (.iload_n 1, 1) := by decide +kernel
theorem dX7_records_27 : decode cX7_records 27 = .ok (.sipush 193, 3) := by decide +kernel
theorem dX7_records_30 : decode cX7_records 30 = .ok (.iadd, 1) := by decide +kernel
theorem dX7_records_31 : decode cX7_records 31 = .ok (.iaload, 1) := by decide +kernel
theorem dX7_records_32 : decode cX7_records 32 = .ok (.iastore, 1) := by decide +kernel
theorem dX7_records_33 : decode cX7_records 33 = .ok (.iinc 1 1, 3) := by decide +kernel
theorem dX7_records_36 : decode cX7_records 36 = .ok (.goto (-26), 3) := by decide +kernel
theorem dX7_records_39 : decode cX7_records 39 = .ok (.aload_n 0, 1) := by decide +kernel
theorem dX7_records_40 : decode cX7_records 40 = .ok (.dup, 1) := by decide +kernel
theorem dX7_records_41 : decode cX7_records 41 = .ok (.getfield 25, 3) := by decide +kernel
theorem dX7_records_44 : decode cX7_records 44 = .ok (.iconst 1, 1) := by decide +kernel
theorem dX7_records_45 : decode cX7_records 45 = .ok (.isub, 1) := by decide +kernel
theorem dX7_records_46 : decode cX7_records 46 = .ok (.putfield 25, 3) := by decide +kernel
theorem dX7_records_49 : decode cX7_records 49 = .ok (.iconst 0, 1) := by decide +kernel
theorem dX7_records_50 : decode cX7_records 50 = .ok (.istore_n 1, 1) := by decide +kernel
theorem dX7_records_51 : decode cX7_records 51 = .ok (.iload_n 1, 1) := by decide +kernel
theorem dX7_records_52 : decode cX7_records 52 = .ok (.sipush 193, 3) := by decide +kernel
theorem dX7_records_55 : decode cX7_records 55 = .ok (.if_icmp .ge 30, 3) := by decide +kernel
theorem dX7_records_58 : decode cX7_records 58 = .ok (.aload_n 0, 1) := by decide +kernel
theorem dX7_records_59 : decode cX7_records 59 = .ok (.getfield 13, 3) := by decide +kernel
theorem dX7_records_62 : decode cX7_records 62 = .ok (.sipush 193, 3) := by decide +kernel
theorem dX7_records_65 : decode cX7_records 65 = .ok (.aload_n 0, 1) := by decide +kernel
theorem dX7_records_66 : decode cX7_records 66 = .ok (.getfield 25, 3) := by decide +kernel
theorem dX7_records_69 : decode cX7_records 69 = .ok (.imul, 1) := by decide +kernel
theorem dX7_records_70 : decode cX7_records 70 = .ok (.iload_n 1, 1) := by decide +kernel
theorem dX7_records_71 : decode cX7_records 71 = .ok (.iadd, 1) := by decide +kernel
theorem dX7_records_72 : decode cX7_records 72 = .ok (.aload_n 0, 1) := by decide +kernel
theorem dX7_records_73 : decode cX7_records 73 = .ok (.getfield 7, 3) := by decide +kernel
theorem dX7_records_76 : decode cX7_records 76 = .ok (.iload_n 1, 1) := by decide +kernel
theorem dX7_records_77 : decode cX7_records 77 = .ok (.iaload, 1) := by decide +kernel
theorem dX7_records_78 : decode cX7_records 78 = .ok (.iastore, 1) := by decide +kernel
theorem dX7_records_79 : decode cX7_records 79 = .ok (.iinc 1 1, 3) := by decide +kernel
theorem dX7_records_82 : decode cX7_records 82 = .ok (.goto (-31), 3) := by decide +kernel
theorem dX7_records_85 : decode cX7_records 85 = .ok (.aload_n 0, 1) := by decide +kernel
theorem dX7_records_86 : decode cX7_records 86 = .ok (.dup, 1) := by decide +kernel
theorem dX7_records_87 : decode cX7_records 87 = .ok (.getfield 25, 3) := by decide +kernel
theorem dX7_records_90 : decode cX7_records 90 = .ok (.iconst 1, 1) := by decide +kernel
theorem dX7_records_91 : decode cX7_records 91 = .ok (.iadd, 1) := by decide +kernel
theorem dX7_records_92 : decode cX7_records 92 = .ok (.putfield 25, 3) := by decide +kernel
theorem dX7_records_95 : decode cX7_records 95 = .ok (.return_, 1) := by decide +kernel
theorem dX7_ofAxis_0 : decode cX7_ofAxis 0 = .ok (.aload_n 0, 1) := by decide +kernel
theorem dX7_ofAxis_1 : decode cX7_ofAxis 1 = .ok (.getfield 7, 3) := by decide +kernel
theorem dX7_ofAxis_4 : decode cX7_ofAxis 4 = .ok (.bipush 39, 2) := by decide +kernel
theorem dX7_ofAxis_6 : decode cX7_ofAxis 6 = .ok (.bipush 7, 2) := by decide +kernel
theorem dX7_ofAxis_8 : decode cX7_ofAxis 8 = .ok (.iload_n 1, 1) := by decide +kernel
theorem dX7_ofAxis_9 : decode cX7_ofAxis 9 = .ok (.imul, 1) := by decide +kernel
theorem dX7_ofAxis_10 : decode cX7_ofAxis 10 = .ok (.iadd, 1) := by decide +kernel
theorem dX7_ofAxis_11 : decode cX7_ofAxis 11 = .ok (.iload_n 2, 1) := by decide +kernel
theorem dX7_ofAxis_12 : decode cX7_ofAxis 12 = .ok (.iadd, 1) := by decide +kernel
theorem dX7_ofAxis_13 : decode cX7_ofAxis 13 = .ok (.iaload, 1) := by decide +kernel
theorem dX7_ofAxis_14 : decode cX7_ofAxis 14 = .ok (.ireturn, 1) := by decide +kernel
theorem dX7_of_0 : decode cX7_of 0 = .ok (.aload_n 0, 1) := by decide +kernel
theorem dX7_of_1 : decode cX7_of 1 = .ok (.getfield 7, 3) := by decide +kernel
theorem dX7_of_4 : decode cX7_of 4 = .ok (.bipush 53, 2) := by decide +kernel
theorem dX7_of_6 : decode cX7_of 6 = .ok (.bipush 14, 2) := by decide +kernel
theorem dX7_of_8 : decode cX7_of 8 = .ok (.iload_n 1, 1) := by decide +kernel
theorem dX7_of_9 : decode cX7_of 9 = .ok (.imul, 1) := by decide +kernel
theorem dX7_of_10 : decode cX7_of 10 = .ok (.iadd, 1) := by decide +kernel
theorem dX7_of_11 : decode cX7_of 11 = .ok (.iload_n 2, 1) := by decide +kernel
theorem dX7_of_12 : decode cX7_of 12 = .ok (.iadd, 1) := by decide +kernel
theorem dX7_of_13 : decode cX7_of 13 = .ok (.iaload, 1) := by decide +kernel
theorem dX7_of_14 : decode cX7_of 14 = .ok (.ireturn, 1) := by decide +kernel
theorem dX7_puts_0 : decode cX7_puts 0 = .ok (.aload_n 0, 1) := by decide +kernel
theorem dX7_puts_1 : decode cX7_puts 1 = .ok (.getfield 7, 3) := by decide +kernel
theorem dX7_puts_4 : decode cX7_puts 4 = .ok (.bipush 53, 2) := by decide +kernel
theorem dX7_puts_6 : decode cX7_puts 6 = .ok (.bipush 14, 2) := by decide +kernel
theorem dX7_puts_8 : decode cX7_puts 8 = .ok (.iload_n 1, 1) := by decide +kernel
theorem dX7_puts_9 : decode cX7_puts 9 = .ok (.imul, 1) := by decide +kernel
theorem dX7_puts_10 : decode cX7_puts 10 = .ok (.iadd, 1) := by decide +kernel
theorem dX7_puts_11 : decode cX7_puts 11 = .ok (.iload_n 2, 1) := by decide +kernel
theorem dX7_puts_12 : decode cX7_puts 12 = .ok (.iadd, 1) := by decide +kernel
theorem dX7_puts_13 : decode cX7_puts 13 = .ok (.iload_n 3, 1) := by decide +kernel
theorem dX7_puts_14 : decode cX7_puts 14 = .ok (.iastore, 1) := by decide +kernel
theorem dX7_puts_15 : decode cX7_puts 15 = .ok (.return_, 1) := by decide +kernel
theorem dX7_isTarget_0 : decode cX7_isTarget 0 = .ok (.iload_n 1, 1) := by decide +kernel
theorem dX7_isTarget_1 : decode cX7_isTarget 1 = .ok (.ifCond .lt 18, 3) := by decide +kernel
theorem dX7_isTarget_4 : decode cX7_isTarget 4 = .ok (.iload_n 1, 1) := by decide +kernel
theorem dX7_isTarget_5 : decode cX7_isTarget 5 = .ok (.aload_n 0, 1) := by decide +kernel
theorem dX7_isTarget_6 : decode cX7_isTarget 6 = .ok (.getfield 7, 3) := by decide +kernel
theorem dX7_isTarget_9 : decode cX7_isTarget 9 = .ok (.bipush 7, 2) := by decide +kernel
theorem dX7_isTarget_11 : decode cX7_isTarget 11 = .ok (.iaload, 1) := by decide +kernel
theorem dX7_isTarget_12 : decode cX7_isTarget 12 = .ok (.if_icmp .ge 7, 3) := by decide +kernel
theorem dX7_isTarget_15 : decode cX7_isTarget 15 = .ok (.iconst 1, 1) := by decide +kernel
theorem dX7_isTarget_16 : decode cX7_isTarget 16 = .ok (.goto 4, 3) := by decide +kernel
theorem dX7_isTarget_19 : decode cX7_isTarget 19 = .ok (.iconst 0, 1) := by decide +kernel
theorem dX7_isTarget_20 : decode cX7_isTarget 20 = .ok (.ireturn, 1) := by decide +kernel
theorem dX7_day_0 : decode cX7_day 0 = .ok (.aload_n 0, 1) := by decide +kernel
theorem dX7_day_1 : decode cX7_day 1 = .ok (.getfield 7, 3) := by decide +kernel
theorem dX7_day_4 : decode cX7_day 4 = .ok (.iconst 4, 1) := by decide +kernel
theorem dX7_day_5 : decode cX7_day 5 = .ok (.iaload, 1) := by decide +kernel
theorem dX7_day_6 : decode cX7_day 6 = .ok (.sipush 1440, 3) := by decide +kernel
theorem dX7_day_9 : decode cX7_day 9 = .ok (.idiv, 1) := by decide +kernel
theorem dX7_day_10 : decode cX7_day 10 = .ok (.ireturn, 1) := by decide +kernel
set_option maxRecDepth 20000 in
theorem ggX7_gustNow_X7_day : GoodIn wsX7_gustNow wsX7_day := goodIn_r _ [6, 1, 7, 8, 9, 10, 11, 12, 13, 14, 15, 16, 17, 18] (by decide +kernel) (by decide +kernel)
set_option maxRecDepth 20000 in
theorem gX7_gustNow_X7_day : GoodIn wsX7_gustNow (wsV RX7 29 RX7 yX7_day wsX7_day) := goodIn_app (goodIn_of _ (by decide +kernel)) ggX7_gustNow_X7_day
theorem dX7_gustNow_0 : decode cX7_gustNow 0 = .ok (.aload_n 0, 1) := by decide +kernel
theorem dX7_gustNow_1 : decode cX7_gustNow 1 = .ok (.getfield 7, 3) := by decide +kernel
theorem dX7_gustNow_4 : decode cX7_gustNow 4 = .ok (.bipush 8, 2) := by decide +kernel
theorem dX7_gustNow_6 : decode cX7_gustNow 6 = .ok (.aload_n 0, 1) := by decide +kernel
theorem dX7_gustNow_7 : decode cX7_gustNow 7 = .ok (.invokevirtual 29, 3) := by decide +kernel
theorem dX7_gustNow_10 : decode cX7_gustNow 10 = .ok (.iadd, 1) := by decide +kernel
theorem dX7_gustNow_11 : decode cX7_gustNow 11 = .ok (.iaload, 1) := by decide +kernel
theorem dX7_gustNow_12 : decode cX7_gustNow 12 = .ok (.ireturn, 1) := by decide +kernel
set_option maxRecDepth 20000 in
theorem ggX7_kindOfDay_X7_gustNow : GoodIn wsX7_kindOfDay wsX7_gustNow := goodIn_r _ [6, 1, 7, 8, 9, 5, 10, 11, 12, 13, 14, 15, 16, 17, 18, 19, 20, 21, 22] (by decide +kernel) (by decide +kernel)
set_option maxRecDepth 20000 in
theorem gX7_kindOfDay_X7_gustNow : GoodIn wsX7_kindOfDay (wsV RX7 33 RX7 yX7_gustNow wsX7_gustNow) := goodIn_app (goodIn_of _ (by decide +kernel)) ggX7_kindOfDay_X7_gustNow
theorem dX7_kindOfDay_0 : decode cX7_kindOfDay 0 = .ok (.aload_n 0, 1) := by decide +kernel
theorem dX7_kindOfDay_1 : decode cX7_kindOfDay 1 = .ok (.invokevirtual 33, 3) := by decide +kernel
theorem dX7_kindOfDay_4 : decode cX7_kindOfDay 4 = .ok (.aload_n 0, 1) := by decide +kernel
theorem dX7_kindOfDay_5 : decode cX7_kindOfDay 5 = .ok (.getfield 7, 3) := by decide +kernel
theorem dX7_kindOfDay_8 : decode cX7_kindOfDay 8 = .ok (.iconst 3, 1) := by decide +kernel
theorem dX7_kindOfDay_9 : decode cX7_kindOfDay 9 = .ok (.iaload, 1) := by decide +kernel
theorem dX7_kindOfDay_10 : decode cX7_kindOfDay 10 = .ok (.if_icmp .lt 7, 3) := by decide +kernel
theorem dX7_kindOfDay_13 : decode cX7_kindOfDay 13 = .ok (.iconst 0, 1) := by decide +kernel
theorem dX7_kindOfDay_14 : decode cX7_kindOfDay 14 = .ok (.goto 21, 3) := by decide +kernel
theorem dX7_kindOfDay_17 : decode cX7_kindOfDay 17 = .ok (.aload_n 0, 1) := by decide +kernel
theorem dX7_kindOfDay_18 : decode cX7_kindOfDay 18 = .ok (.invokevirtual 33, 3) := by decide +kernel
theorem dX7_kindOfDay_21 : decode cX7_kindOfDay 21 = .ok (.aload_n 0, 1) := by decide +kernel
theorem dX7_kindOfDay_22 : decode cX7_kindOfDay 22 = .ok (.getfield 7, 3) := by decide +kernel
theorem dX7_kindOfDay_25 : decode cX7_kindOfDay 25 = .ok (.iconst 2, 1) := by decide +kernel
theorem dX7_kindOfDay_26 : decode cX7_kindOfDay 26 = .ok (.iaload, 1) := by decide +kernel
theorem dX7_kindOfDay_27 : decode cX7_kindOfDay 27 = .ok (.if_icmp .lt 7, 3) := by decide +kernel
theorem dX7_kindOfDay_30 : decode cX7_kindOfDay 30 = .ok (.iconst 1, 1) := by decide +kernel
theorem dX7_kindOfDay_31 : decode cX7_kindOfDay 31 = .ok (.goto 4, 3) := by decide +kernel
theorem dX7_kindOfDay_34 : decode cX7_kindOfDay 34 = .ok (.iconst 2, 1) := by decide +kernel
theorem dX7_kindOfDay_35 : decode cX7_kindOfDay 35 = .ok (.ireturn, 1) := by decide +kernel
set_option maxRecDepth 20000 in
theorem ggX7_stands_X7_ofAxis : GoodIn wsX7_stands wsX7_ofAxis := goodIn_r _ [5, 6, 7, 8, 9, 10, 11, 12, 13, 14, 15, 16, 17, 18] (by decide +kernel) (by decide +kernel)
set_option maxRecDepth 20000 in
theorem gX7_stands_X7_ofAxis : GoodIn wsX7_stands (wsV RX7 36 RX7 yX7_ofAxis wsX7_ofAxis) := goodIn_app (goodIn_of _ (by decide +kernel)) ggX7_stands_X7_ofAxis
theorem dX7_stands_0 : decode cX7_stands 0 = .ok (.aload_n 0, 1) := by decide +kernel
theorem dX7_stands_1 : decode cX7_stands 1 = .ok (.iload_n 1, 1) := by decide +kernel
theorem dX7_stands_2 : decode cX7_stands 2 = .ok (.iconst 3, 1) := by decide +kernel
theorem dX7_stands_3 : decode cX7_stands 3 = .ok (.invokevirtual 36, 3) := by decide +kernel
theorem dX7_stands_6 : decode cX7_stands 6 = .ok (.aload_n 0, 1) := by decide +kernel
theorem dX7_stands_7 : decode cX7_stands 7 = .ok (.iload_n 1, 1) := by decide +kernel
theorem dX7_stands_8 : decode cX7_stands 8 = .ok (.iconst 4, 1) := by decide +kernel
theorem dX7_stands_9 : decode cX7_stands 9 = .ok (.invokevirtual 36, 3) := by decide +kernel
theorem dX7_stands_12 : decode cX7_stands 12 = .ok (.isub, 1) := by decide +kernel
theorem dX7_stands_13 : decode cX7_stands 13 = .ok (.ireturn, 1) := by decide +kernel
set_option maxRecDepth 20000 in
theorem ggX7_finds_X7_stands : GoodIn wsX7_finds wsX7_stands := goodIn_r _ [9, 10, 11, 12, 8, 13, 4, 14, 15, 16, 17, 18, 19, 20, 21, 22, 23, 24, 25] (by decide +kernel) (by decide +kernel)
set_option maxRecDepth 20000 in
theorem gX7_finds_X7_stands : GoodIn wsX7_finds (wsV RX7 40 RX7 yX7_stands wsX7_stands) := goodIn_app (goodIn_of _ (by decide +kernel)) ggX7_finds_X7_stands
set_option maxRecDepth 20000 in
theorem ggX7_finds_X7_ofAxis : GoodIn wsX7_finds wsX7_ofAxis := goodIn_r _ [13, 4, 14, 15, 16, 17, 18, 19, 20, 21, 22, 23, 24, 25] (by decide +kernel) (by decide +kernel)
set_option maxRecDepth 20000 in
theorem gX7_finds_X7_ofAxis : GoodIn wsX7_finds (wsV RX7 36 RX7 yX7_ofAxis wsX7_ofAxis) := goodIn_app (goodIn_of _ (by decide +kernel)) ggX7_finds_X7_ofAxis
theorem dX7_finds_0 : decode cX7_finds 0 = .ok (.aload_n 0, 1) := by decide +kernel
theorem dX7_finds_1 : decode cX7_finds 1 = .ok (.iload_n 1, 1) := by decide +kernel
theorem dX7_finds_2 : decode cX7_finds 2 = .ok (.invokevirtual 40, 3) := by decide +kernel
theorem dX7_finds_5 : decode cX7_finds 5 = .ok (.istore_n 3, 1) := by decide +kernel
theorem dX7_finds_6 : decode cX7_finds 6 = .ok (.aload_n 0, 1) := by decide +kernel
theorem dX7_finds_7 : decode cX7_finds 7 = .ok (.iload_n 1, 1) := by decide +kernel
theorem dX7_finds_8 : decode cX7_finds 8 = .ok (.iconst 0, 1) := by decide +kernel
theorem dX7_finds_9 : decode cX7_finds 9 = .ok (.invokevirtual 36, 3) := by decide +kernel
theorem dX7_finds_12 : decode cX7_finds 12 = .ok (.istore 4, 2) := by decide +kernel
theorem dX7_finds_14 : decode cX7_finds 14 = .ok (.aload_n 0, 1) := by decide +kernel
theorem dX7_finds_15 : decode cX7_finds 15 = .ok (.iload_n 1, 1) := by decide +kernel
theorem dX7_finds_16 : decode cX7_finds 16 = .ok (.iconst 4, 1) := by decide +kernel
theorem dX7_finds_17 : decode cX7_finds 17 = .ok (.invokevirtual 36, 3) := by decide +kernel
theorem dX7_finds_20 : decode cX7_finds 20 = .ok (.istore 5, 2) := by decide +kernel
theorem dX7_finds_22 : decode cX7_finds 22 = .ok (.aload_n 0, 1) := by decide +kernel
theorem dX7_finds_23 : decode cX7_finds 23 = .ok (.iload_n 1, 1) := by decide +kernel
theorem dX7_finds_24 : decode cX7_finds 24 = .ok (.iconst 1, 1) := by decide +kernel
theorem dX7_finds_25 : decode cX7_finds 25 = .ok (.invokevirtual 36, 3) := by decide +kernel
theorem dX7_finds_28 : decode cX7_finds 28 = .ok (.istore 6, 2) := by decide +kernel
theorem dX7_finds_30 : decode cX7_finds 30 = .ok (.aload_n 0, 1) := by decide +kernel
theorem dX7_finds_31 : decode cX7_finds 31 = .ok (.iconst 0, 1) := by decide +kernel
theorem dX7_finds_32 : decode cX7_finds 32 = .ok (.putfield 44, 3) := by decide +kernel
theorem dX7_finds_35 : decode cX7_finds 35 = .ok (.aload_n 0, 1) := by decide +kernel
theorem dX7_finds_36 : decode cX7_finds 36 = .ok (.aload_n 0, 1) := by decide +kernel
theorem dX7_finds_37 : decode cX7_finds 37 = .ok (.iload_n 1, 1) := by decide +kernel
theorem dX7_finds_38 : decode cX7_finds 38 = .ok (.iconst 3, 1) := by decide +kernel
theorem dX7_finds_39 : decode cX7_finds 39 = .ok (.invokevirtual 36, 3) := by decide +kernel
theorem dX7_finds_42 : decode cX7_finds 42 = .ok (.putfield 48, 3) := by decide +kernel
theorem dX7_finds_45 : decode cX7_finds 45 = .ok (.aload_n 0, 1) := by decide +kernel
theorem dX7_finds_46 : decode cX7_finds 46 = .ok (.aload_n 0, 1) := by decide +kernel
theorem dX7_finds_47 : decode cX7_finds 47 = .ok (.getfield 48, 3) := by decide +kernel
theorem dX7_finds_50 : decode cX7_finds 50 = .ok (.putfield 51, 3) := by decide +kernel
theorem dX7_finds_53 : decode cX7_finds 53 = .ok (.iload 6, 2) := by decide +kernel
theorem dX7_finds_55 : decode cX7_finds 55 = .ok (.iconst 2, 1) := by decide +kernel
theorem dX7_finds_56 : decode cX7_finds 56 = .ok (.if_icmp .ne 54, 3) := by decide +kernel
theorem dX7_finds_59 : decode cX7_finds 59 = .ok (.iload_n 3, 1) := by decide +kernel
theorem dX7_finds_60 : decode cX7_finds 60 = .ok (.iload_n 2, 1) := by decide +kernel
theorem dX7_finds_61 : decode cX7_finds 61 = .ok (.if_icmp .le 11, 3) := by decide +kernel
theorem dX7_finds_64 : decode cX7_finds 64 = .ok (.aload_n 0, 1) := by decide +kernel
theorem dX7_finds_65 : decode cX7_finds 65 = .ok (.iload_n 2, 1) := by decide +kernel
theorem dX7_finds_66 : decode cX7_finds 66 = .ok (.putfield 48, 3) := by decide +kernel
theorem dX7_finds_69 : decode cX7_finds 69 = .ok (.goto 119, 3) := by decide +kernel
theorem dX7_finds_72 : decode cX7_finds 72 = .ok (.iload_n 3, 1) := by decide +kernel
theorem dX7_finds_73 : decode cX7_finds 73 = .ok (.iload_n 2, 1) := by decide +kernel
theorem dX7_finds_74 : decode cX7_finds 74 = .ok (.if_icmp .lt 8, 3) := by decide +kernel
theorem dX7_finds_77 : decode cX7_finds 77 = .ok (.iload 5, 2) := by decide +kernel
theorem dX7_finds_79 : decode cX7_finds 79 = .ok (.ifCond .le 109, 3) := by decide +kernel
theorem dX7_finds_82 : decode cX7_finds 82 = .ok (.aload_n 0, 1) := by decide +kernel
theorem dX7_finds_83 : decode cX7_finds 83 = .ok (.iconst 1, 1) := by decide +kernel
theorem dX7_finds_84 : decode cX7_finds 84 = .ok (.putfield 44, 3) := by decide +kernel
theorem dX7_finds_87 : decode cX7_finds 87 = .ok (.aload_n 0, 1) := by decide +kernel
theorem dX7_finds_88 : decode cX7_finds 88 = .ok (.iload_n 2, 1) := by decide +kernel
theorem dX7_finds_89 : decode cX7_finds 89 = .ok (.iload 4, 2) := by decide +kernel
theorem dX7_finds_91 : decode cX7_finds 91 = .ok (.iadd, 1) := by decide +kernel
theorem dX7_finds_92 : decode cX7_finds 92 = .ok (.aload_n 0, 1) := by decide +kernel
theorem dX7_finds_93 : decode cX7_finds 93 = .ok (.getfield 7, 3) := by decide +kernel
theorem dX7_finds_96 : decode cX7_finds 96 = .ok (.iconst 0, 1) := by decide +kernel
theorem dX7_finds_97 : decode cX7_finds 97 = .ok (.iaload, 1) := by decide +kernel
theorem dX7_finds_98 : decode cX7_finds 98 = .ok (.iadd, 1) := by decide +kernel
theorem dX7_finds_99 : decode cX7_finds 99 = .ok (.putfield 51, 3) := by decide +kernel
theorem dX7_finds_102 : decode cX7_finds 102 = .ok (.aload_n 0, 1) := by decide +kernel
theorem dX7_finds_103 : decode cX7_finds 103 = .ok (.iload_n 2, 1) := by decide +kernel
theorem dX7_finds_104 : decode cX7_finds 104 = .ok (.putfield 48, 3) := by decide +kernel
theorem dX7_finds_107 : decode cX7_finds 107 = .ok (.goto 81, 3) := by decide +kernel
theorem dX7_finds_110 : decode cX7_finds 110 = .ok (.iload_n 3, 1) := by decide +kernel
theorem dX7_finds_111 : decode cX7_finds 111 = .ok (.iload_n 2, 1) := by decide +kernel
theorem dX7_finds_112 : decode cX7_finds 112 = .ok (.if_icmp .ge 14, 3) := by decide +kernel
theorem dX7_finds_115 : decode cX7_finds 115 = .ok (.aload_n 0, 1) := by decide +kernel
theorem dX7_finds_116 : decode cX7_finds 116 = .ok (.iload_n 2, 1) := by decide +kernel
theorem dX7_finds_117 : decode cX7_finds 117 = .ok (.iload 4, 2) := by decide +kernel
theorem dX7_finds_119 : decode cX7_finds 119 = .ok (.iadd, 1) := by decide +kernel
theorem dX7_finds_120 : decode cX7_finds 120 = .ok (.putfield 48, 3) := by decide +kernel
theorem dX7_finds_123 : decode cX7_finds 123 = .ok (.goto 65, 3) := by decide +kernel
theorem dX7_finds_126 : decode cX7_finds 126 = .ok (.iload 6, 2) := by decide +kernel
theorem dX7_finds_128 : decode cX7_finds 128 = .ok (.ifCond .ne 23, 3) := by decide +kernel
theorem dX7_finds_131 : decode cX7_finds 131 = .ok (.aload_n 0, 1) := by decide +kernel
theorem dX7_finds_132 : decode cX7_finds 132 = .ok (.iload_n 3, 1) := by decide +kernel
theorem dX7_finds_133 : decode cX7_finds 133 = .ok (.iload_n 2, 1) := by decide +kernel
theorem dX7_finds_134 : decode cX7_finds 134 = .ok (.if_icmp .le 7, 3) := by decide +kernel
theorem dX7_finds_137 : decode cX7_finds 137 = .ok (.iload_n 2, 1) := by decide +kernel
theorem dX7_finds_138 : decode cX7_finds 138 = .ok (.goto 7, 3) := by decide +kernel
theorem dX7_finds_141 : decode cX7_finds 141 = .ok (.aload_n 0, 1) := by decide +kernel
theorem dX7_finds_142 : decode cX7_finds 142 = .ok (.getfield 48, 3) := by decide +kernel
theorem dX7_finds_145 : decode cX7_finds 145 = .ok (.putfield 48, 3) := by decide +kernel
theorem dX7_finds_148 : decode cX7_finds 148 = .ok (.goto 40, 3) := by decide +kernel
theorem dX7_finds_151 : decode cX7_finds 151 = .ok (.iload_n 3, 1) := by decide +kernel
theorem dX7_finds_152 : decode cX7_finds 152 = .ok (.iload_n 2, 1) := by decide +kernel
theorem dX7_finds_153 : decode cX7_finds 153 = .ok (.if_icmp .gt 10, 3) := by decide +kernel
theorem dX7_finds_156 : decode cX7_finds 156 = .ok (.iload 5, 2) := by decide +kernel
theorem dX7_finds_158 : decode cX7_finds 158 = .ok (.iload 4, 2) := by decide +kernel
theorem dX7_finds_160 : decode cX7_finds 160 = .ok (.if_icmp .ge 28, 3) := by decide +kernel
theorem dX7_finds_163 : decode cX7_finds 163 = .ok (.aload_n 0, 1) := by decide +kernel
theorem dX7_finds_164 : decode cX7_finds 164 = .ok (.iconst 1, 1) := by decide +kernel
theorem dX7_finds_165 : decode cX7_finds 165 = .ok (.putfield 44, 3) := by decide +kernel
theorem dX7_finds_168 : decode cX7_finds 168 = .ok (.aload_n 0, 1) := by decide +kernel
theorem dX7_finds_169 : decode cX7_finds 169 = .ok (.iload_n 2, 1) := by decide +kernel
theorem dX7_finds_170 : decode cX7_finds 170 = .ok (.aload_n 0, 1) := by decide +kernel
theorem dX7_finds_171 : decode cX7_finds 171 = .ok (.getfield 7, 3) := by decide +kernel
theorem dX7_finds_174 : decode cX7_finds 174 = .ok (.iconst 0, 1) := by decide +kernel
theorem dX7_finds_175 : decode cX7_finds 175 = .ok (.iaload, 1) := by decide +kernel
theorem dX7_finds_176 : decode cX7_finds 176 = .ok (.isub, 1) := by decide +kernel
theorem dX7_finds_177 : decode cX7_finds 177 = .ok (.putfield 51, 3) := by decide +kernel
theorem dX7_finds_180 : decode cX7_finds 180 = .ok (.aload_n 0, 1) := by decide +kernel
theorem dX7_finds_181 : decode cX7_finds 181 = .ok (.iload_n 2, 1) := by decide +kernel
theorem dX7_finds_182 : decode cX7_finds 182 = .ok (.iload 4, 2) := by decide +kernel
theorem dX7_finds_184 : decode cX7_finds 184 = .ok (.iadd, 1) := by decide +kernel
theorem dX7_finds_185 : decode cX7_finds 185 = .ok (.putfield 48, 3) := by decide +kernel
theorem dX7_finds_188 : decode cX7_finds 188 = .ok (.return_, 1) := by decide +kernel
set_option maxRecDepth 20000 in
theorem ggX7_isInRange_X7_in : GoodIn wsX7_isInRange wsX7_in := goodIn_r _ [4] (by decide +kernel) (by decide +kernel)
set_option maxRecDepth 20000 in
theorem gX7_isInRange_X7_in : GoodIn wsX7_isInRange (va_wsS RX7 54 yX7_in wsX7_in) := goodIn_app (goodIn_of _ (by decide +kernel)) ggX7_isInRange_X7_in
theorem dX7_isInRange_0 : decode cX7_isInRange 0 = .ok (.iload_n 1, 1) := by decide +kernel
theorem dX7_isInRange_1 : decode cX7_isInRange 1 = .ok (.ifCond .ne 16, 3) := by decide +kernel
theorem dX7_isInRange_4 : decode cX7_isInRange 4 = .ok (.iload_n 2, 1) := by decide +kernel
theorem dX7_isInRange_5 : decode cX7_isInRange 5 = .ok (.sipush (-27000), 3) := by decide +kernel
theorem dX7_isInRange_8 : decode cX7_isInRange 8 = .ok (.sipush 27000, 3) := by decide +kernel
theorem dX7_isInRange_11 : decode cX7_isInRange 11 = .ok (.invokestatic 54, 3) := by decide +kernel
theorem dX7_isInRange_14 : decode cX7_isInRange 14 = .ok (.goto 13, 3) := by decide +kernel
theorem dX7_isInRange_17 : decode cX7_isInRange 17 = .ok (.iload_n 2, 1) := by decide +kernel
theorem dX7_isInRange_18 : decode cX7_isInRange 18 = .ok (.sipush 500, 3) := by decide +kernel
theorem dX7_isInRange_21 : decode cX7_isInRange 21 = .ok (.sipush 9000, 3) := by decide +kernel
theorem dX7_isInRange_24 : decode cX7_isInRange 24 = .ok (.invokestatic 54, 3) := by decide +kernel
theorem dX7_isInRange_27 : decode cX7_isInRange 27 = .ok (.ireturn, 1) := by decide +kernel
set_option maxRecDepth 20000 in
theorem ggX7_isPossible_X7_finds : GoodIn wsX7_isPossible wsX7_finds := goodIn_r _ [8, 2, 1, 3, 9, 10, 11, 12, 7, 13, 14, 15, 16, 17, 25, 26, 27, 28, 29, 30, 31, 32, 33, 34, 35, 36] (by decide +kernel) (by decide +kernel)
set_option maxRecDepth 20000 in
theorem gX7_isPossible_X7_finds : GoodIn wsX7_isPossible (wsV RX7 58 RX7 yX7_finds wsX7_finds) := goodIn_app (goodIn_of _ (by decide +kernel)) ggX7_isPossible_X7_finds
set_option maxRecDepth 20000 in
theorem ggX7_isPossible_X7_isInRange : GoodIn wsX7_isPossible wsX7_isInRange := goodIn_r _ [21, 22, 23, 7, 24] (by decide +kernel) (by decide +kernel)
set_option maxRecDepth 20000 in
theorem gX7_isPossible_X7_isInRange : GoodIn wsX7_isPossible (wsV RX7 62 RX7 yX7_isInRange wsX7_isInRange) := goodIn_app (goodIn_of _ (by decide +kernel)) ggX7_isPossible_X7_isInRange
theorem dX7_isPossible_0 : decode cX7_isPossible 0 = .ok (.aload_n 0, 1) := by decide +kernel
theorem dX7_isPossible_1 : decode cX7_isPossible 1 = .ok (.iload_n 1, 1) := by decide +kernel
theorem dX7_isPossible_2 : decode cX7_isPossible 2 = .ok (.iload_n 2, 1) := by decide +kernel
theorem dX7_isPossible_3 : decode cX7_isPossible 3 = .ok (.invokevirtual 58, 3) := by decide +kernel
theorem dX7_isPossible_6 : decode cX7_isPossible 6 = .ok (.aload_n 0, 1) := by decide +kernel
theorem dX7_isPossible_7 : decode cX7_isPossible 7 = .ok (.iload_n 1, 1) := by decide +kernel
theorem dX7_isPossible_8 : decode cX7_isPossible 8 = .ok (.aload_n 0, 1) := by decide +kernel
theorem dX7_isPossible_9 : decode cX7_isPossible 9 = .ok (.getfield 48, 3) := by decide +kernel
theorem dX7_isPossible_12 : decode cX7_isPossible 12 = .ok (.invokevirtual 62, 3) := by decide +kernel
theorem dX7_isPossible_15 : decode cX7_isPossible 15 = .ok (.ifCond .eq 26, 3) := by decide +kernel
theorem dX7_isPossible_18 : decode cX7_isPossible 18 = .ok (.aload_n 0, 1) := by decide +kernel
theorem dX7_isPossible_19 : decode cX7_isPossible 19 = .ok (.getfield 44, 3) := by decide +kernel
theorem dX7_isPossible_22 : decode cX7_isPossible 22 = .ok (.ifCond .eq 15, 3) := by decide +kernel
theorem dX7_isPossible_25 : decode cX7_isPossible 25 = .ok (.aload_n 0, 1) := by decide +kernel
theorem dX7_isPossible_26 : decode cX7_isPossible 26 = .ok (.iload_n 1, 1) := by decide +kernel
theorem dX7_isPossible_27 : decode cX7_isPossible 27 = .ok (.aload_n 0, 1) := by decide +kernel
theorem dX7_isPossible_28 : decode cX7_isPossible 28 = .ok (.getfield 51, 3) := by decide +kernel
theorem dX7_isPossible_31 : decode cX7_isPossible 31 = .ok (.invokevirtual 62, 3) := by decide +kernel
theorem dX7_isPossible_34 : decode cX7_isPossible 34 = .ok (.ifCond .eq 7, 3) := by decide +kernel
theorem dX7_isPossible_37 : decode cX7_isPossible 37 = .ok (.iconst 1, 1) := by decide +kernel
theorem dX7_isPossible_38 : decode cX7_isPossible 38 = .ok (.goto 4, 3) := by decide +kernel
theorem dX7_isPossible_41 : decode cX7_isPossible 41 = .ok (.iconst 0, 1) := by decide +kernel
theorem dX7_isPossible_42 : decode cX7_isPossible 42 = .ok (.ireturn, 1) := by decide +kernel
theorem dX7_apart_0 : decode cX7_apart 0 = .ok (.iload_n 0, 1) := by decide +kernel
theorem dX7_apart_1 : decode cX7_apart 1 = .ok (.iload_n 1, 1) := by decide +kernel
theorem dX7_apart_2 : decode cX7_apart 2 = .ok (.if_icmp .ge 9, 3) := by decide +kernel
theorem dX7_apart_5 : decode cX7_apart 5 = .ok (.iload_n 1, 1) := by decide +kernel
theorem dX7_apart_6 : decode cX7_apart 6 = .ok (.iload_n 0, 1) := by decide +kernel
theorem dX7_apart_7 : decode cX7_apart 7 = .ok (.isub, 1) := by decide +kernel
theorem dX7_apart_8 : decode cX7_apart 8 = .ok (.goto 6, 3) := by decide +kernel
theorem dX7_apart_11 : decode cX7_apart 11 = .ok (.iload_n 0, 1) := by decide +kernel
theorem dX7_apart_12 : decode cX7_apart 12 = .ok (.iload_n 1, 1) := by decide +kernel
theorem dX7_apart_13 : decode cX7_apart 13 = .ok (.isub, 1) := by decide +kernel
theorem dX7_apart_14 : decode cX7_apart 14 = .ok (.ireturn, 1) := by decide +kernel
set_option maxRecDepth 20000 in
theorem ggX7_lengthOf_X7_finds : GoodIn wsX7_lengthOf wsX7_finds := goodIn_r _ [8, 1, 3, 2, 9, 10, 11, 12, 7, 13, 14, 15, 16, 17, 21, 22, 23, 24, 25, 26, 27, 28, 29, 30, 31, 32] (by decide +kernel) (by decide +kernel)
set_option maxRecDepth 20000 in
theorem gX7_lengthOf_X7_finds : GoodIn wsX7_lengthOf (wsV RX7 58 RX7 yX7_finds wsX7_finds) := goodIn_app (goodIn_of _ (by decide +kernel)) ggX7_lengthOf_X7_finds
set_option maxRecDepth 20000 in
theorem ggX7_lengthOf_X7_ofAxis : GoodIn wsX7_lengthOf wsX7_ofAxis := goodIn_r _ [17, 9, 21, 22, 23, 24, 25, 26, 27, 28, 29, 30, 31, 32] (by decide +kernel) (by decide +kernel)
set_option maxRecDepth 20000 in
theorem gX7_lengthOf_X7_ofAxis : GoodIn wsX7_lengthOf (wsV RX7 36 RX7 yX7_ofAxis wsX7_ofAxis) := goodIn_app (goodIn_of _ (by decide +kernel)) ggX7_lengthOf_X7_ofAxis
set_option maxRecDepth 20000 in
theorem ggX7_lengthOf_X7_apart : GoodIn wsX7_lengthOf wsX7_apart := goodIn_r _ [20] (by decide +kernel) (by decide +kernel)
set_option maxRecDepth 20000 in
theorem gX7_lengthOf_X7_apart : GoodIn wsX7_lengthOf (va_wsS RX7 66 yX7_apart wsX7_apart) := goodIn_app (goodIn_of _ (by decide +kernel)) ggX7_lengthOf_X7_apart
theorem dX7_lengthOf_0 : decode cX7_lengthOf 0 = .ok (.aload_n 0, 1) := by decide +kernel
theorem dX7_lengthOf_1 : decode cX7_lengthOf 1 = .ok (.iload_n 1, 1) := by decide +kernel
theorem dX7_lengthOf_2 : decode cX7_lengthOf 2 = .ok (.iload_n 2, 1) := by decide +kernel
theorem dX7_lengthOf_3 : decode cX7_lengthOf 3 = .ok (.invokevirtual 58, 3) := by decide +kernel
theorem dX7_lengthOf_6 : decode cX7_lengthOf 6 = .ok (.aload_n 0, 1) := by decide +kernel
theorem dX7_lengthOf_7 : decode cX7_lengthOf 7 = .ok (.iload_n 1, 1) := by decide +kernel
theorem dX7_lengthOf_8 : decode cX7_lengthOf 8 = .ok (.iconst 3, 1) := by decide +kernel
theorem dX7_lengthOf_9 : decode cX7_lengthOf 9 = .ok (.invokevirtual 36, 3) := by decide +kernel
theorem dX7_lengthOf_12 : decode cX7_lengthOf 12 = .ok (.istore_n 3, 1) := by decide +kernel
theorem dX7_lengthOf_13 : decode cX7_lengthOf 13 = .ok (.aload_n 0, 1) := by decide +kernel
theorem dX7_lengthOf_14 : decode cX7_lengthOf 14 = .ok (.getfield 44, 3) := by decide +kernel
theorem dX7_lengthOf_17 : decode cX7_lengthOf 17 = .ok (.ifCond .eq 26, 3) := by decide +kernel
theorem dX7_lengthOf_20 : decode cX7_lengthOf 20 = .ok (.iload_n 3, 1) := by decide +kernel
theorem dX7_lengthOf_21 : decode cX7_lengthOf 21 = .ok (.aload_n 0, 1) := by decide +kernel
theorem dX7_lengthOf_22 : decode cX7_lengthOf 22 = .ok (.getfield 51, 3) := by decide +kernel
theorem dX7_lengthOf_25 : decode cX7_lengthOf 25 = .ok (.invokestatic 66, 3) := by decide +kernel
theorem dX7_lengthOf_28 : decode cX7_lengthOf 28 = .ok (.aload_n 0, 1) := by decide +kernel
theorem dX7_lengthOf_29 : decode cX7_lengthOf 29 = .ok (.getfield 51, 3) := by decide +kernel
theorem dX7_lengthOf_32 : decode cX7_lengthOf 32 = .ok (.aload_n 0, 1) := by decide +kernel
theorem dX7_lengthOf_33 : decode cX7_lengthOf 33 = .ok (.getfield 48, 3) := by decide +kernel
theorem dX7_lengthOf_36 : decode cX7_lengthOf 36 = .ok (.invokestatic 66, 3) := by decide +kernel
theorem dX7_lengthOf_39 : decode cX7_lengthOf 39 = .ok (.iadd, 1) := by decide +kernel
theorem dX7_lengthOf_40 : decode cX7_lengthOf 40 = .ok (.goto 11, 3) := by decide +kernel
theorem dX7_lengthOf_43 : decode cX7_lengthOf 43 = .ok (.iload_n 3, 1) := by decide +kernel
theorem dX7_lengthOf_44 : decode cX7_lengthOf 44 = .ok (.aload_n 0, 1) := by decide +kernel
theorem dX7_lengthOf_45 : decode cX7_lengthOf 45 = .ok (.getfield 48, 3) := by decide +kernel
theorem dX7_lengthOf_48 : decode cX7_lengthOf 48 = .ok (.invokestatic 66, 3) := by decide +kernel
theorem dX7_lengthOf_51 : decode cX7_lengthOf 51 = .ok (.ireturn, 1) := by decide +kernel
set_option maxRecDepth 20000 in
theorem ggX7_timeOf_X7_ofAxis : GoodIn wsX7_timeOf wsX7_ofAxis := goodIn_r _ [5, 6, 25, 26, 27, 28, 29, 30, 31, 32, 33, 34, 35, 36] (by decide +kernel) (by decide +kernel)
set_option maxRecDepth 20000 in
theorem gX7_timeOf_X7_ofAxis : GoodIn wsX7_timeOf (wsV RX7 36 RX7 yX7_ofAxis wsX7_ofAxis) := goodIn_app (goodIn_of _ (by decide +kernel)) ggX7_timeOf_X7_ofAxis
set_option maxRecDepth 20000 in
theorem ggX7_timeOf_X7_lengthOf : GoodIn wsX7_timeOf wsX7_lengthOf := goodIn_r _ [10, 11, 12, 13, 14, 15, 16, 4, 17, 6, 18, 19, 20, 21, 1, 2, 3, 5, 22, 23, 24, 25, 26, 27, 28, 29, 30, 31, 32, 33, 34, 35, 36] (by decide +kernel) (by decide +kernel)
set_option maxRecDepth 20000 in
theorem gX7_timeOf_X7_lengthOf : GoodIn wsX7_timeOf (wsV RX7 69 RX7 yX7_lengthOf wsX7_lengthOf) := goodIn_app (goodIn_of _ (by decide +kernel)) ggX7_timeOf_X7_lengthOf
theorem dX7_timeOf_0 : decode cX7_timeOf 0 = .ok (.aload_n 0, 1) := by decide +kernel
theorem dX7_timeOf_1 : decode cX7_timeOf 1 = .ok (.iload_n 1, 1) := by decide +kernel
theorem dX7_timeOf_2 : decode cX7_timeOf 2 = .ok (.iconst 2, 1) := by decide +kernel
theorem dX7_timeOf_3 : decode cX7_timeOf 3 = .ok (.invokevirtual 36, 3) := by decide +kernel
theorem dX7_timeOf_6 : decode cX7_timeOf 6 = .ok (.istore_n 3, 1) := by decide +kernel
theorem dX7_timeOf_7 : decode cX7_timeOf 7 = .ok (.aload_n 0, 1) := by decide +kernel
theorem dX7_timeOf_8 : decode cX7_timeOf 8 = .ok (.iload_n 1, 1) := by decide +kernel
theorem dX7_timeOf_9 : decode cX7_timeOf 9 = .ok (.iload_n 2, 1) := by decide +kernel
theorem dX7_timeOf_10 : decode cX7_timeOf 10 = .ok (.invokevirtual 69, 3) := by decide +kernel
theorem dX7_timeOf_13 : decode cX7_timeOf 13 = .ok (.iload_n 3, 1) := by decide +kernel
theorem dX7_timeOf_14 : decode cX7_timeOf 14 = .ok (.iadd, 1) := by decide +kernel
theorem dX7_timeOf_15 : decode cX7_timeOf 15 = .ok (.iconst 1, 1) := by decide +kernel
theorem dX7_timeOf_16 : decode cX7_timeOf 16 = .ok (.isub, 1) := by decide +kernel
theorem dX7_timeOf_17 : decode cX7_timeOf 17 = .ok (.iload_n 3, 1) := by decide +kernel
theorem dX7_timeOf_18 : decode cX7_timeOf 18 = .ok (.idiv, 1) := by decide +kernel
theorem dX7_timeOf_19 : decode cX7_timeOf 19 = .ok (.ireturn, 1) := by decide +kernel
set_option maxRecDepth 20000 in
theorem ggX7_isCalm_X7_in : GoodIn wsX7_isCalm wsX7_in := goodIn_r _ [5] (by decide +kernel) (by decide +kernel)
set_option maxRecDepth 20000 in
theorem gX7_isCalm_X7_in : GoodIn wsX7_isCalm (va_wsS RX7 54 yX7_in wsX7_in) := goodIn_app (goodIn_of _ (by decide +kernel)) ggX7_isCalm_X7_in
theorem dX7_isCalm_0 : decode cX7_isCalm 0 = .ok (.iload_n 1, 1) := by decide +kernel
theorem dX7_isCalm_1 : decode cX7_isCalm 1 = .ok (.aload_n 0, 1) := by decide +kernel
theorem dX7_isCalm_2 : decode cX7_isCalm 2 = .ok (.getfield 7, 3) := by decide +kernel
theorem dX7_isCalm_5 : decode cX7_isCalm 5 = .ok (.iconst 1, 1) := by decide +kernel
theorem dX7_isCalm_6 : decode cX7_isCalm 6 = .ok (.iaload, 1) := by decide +kernel
theorem dX7_isCalm_7 : decode cX7_isCalm 7 = .ok (.ineg, 1) := by decide +kernel
theorem dX7_isCalm_8 : decode cX7_isCalm 8 = .ok (.aload_n 0, 1) := by decide +kernel
theorem dX7_isCalm_9 : decode cX7_isCalm 9 = .ok (.getfield 7, 3) := by decide +kernel
theorem dX7_isCalm_12 : decode cX7_isCalm 12 = .ok (.iconst 1, 1) := by decide +kernel
theorem dX7_isCalm_13 : decode cX7_isCalm 13 = .ok (.iaload, 1) := by decide +kernel
theorem dX7_isCalm_14 : decode cX7_isCalm 14 = .ok (.invokestatic 54, 3) := by decide +kernel
theorem dX7_isCalm_17 : decode cX7_isCalm 17 = .ok (.ireturn, 1) := by decide +kernel
set_option maxRecDepth 20000 in
theorem ggX7_isBetter_X7_isCalm : GoodIn wsX7_isBetter wsX7_isCalm := goodIn_r _ [5, 6, 7, 8, 4, 9, 32, 33, 34, 35, 36, 37, 38, 39, 40, 41, 42, 43] (by decide +kernel) (by decide +kernel)
set_option maxRecDepth 20000 in
theorem gX7_isBetter_X7_isCalm : GoodIn wsX7_isBetter (wsV RX7 72 RX7 yX7_isCalm wsX7_isCalm) := goodIn_app (goodIn_of _ (by decide +kernel)) ggX7_isBetter_X7_isCalm
set_option maxRecDepth 20000 in
theorem ggX7_isBetter_X7_lengthOf : GoodIn wsX7_isBetter wsX7_lengthOf := goodIn_r _ [13, 14, 15, 16, 17, 18, 19, 4, 20, 6, 21, 22, 23, 24, 25, 26, 27, 28, 29, 30, 31, 32, 33, 34, 35, 36, 37, 38, 39, 40, 41, 42, 43] (by decide +kernel) (by decide +kernel)
set_option maxRecDepth 20000 in
theorem gX7_isBetter_X7_lengthOf : GoodIn wsX7_isBetter (wsV RX7 69 RX7 yX7_lengthOf wsX7_lengthOf) := goodIn_app (goodIn_of _ (by decide +kernel)) ggX7_isBetter_X7_lengthOf
set_option maxRecDepth 20000 in
theorem ggX7_isBetter_X7_apart : GoodIn wsX7_isBetter wsX7_apart := goodIn_r _ [31] (by decide +kernel) (by decide +kernel)
set_option maxRecDepth 20000 in
theorem gX7_isBetter_X7_apart : GoodIn wsX7_isBetter (va_wsS RX7 66 yX7_apart wsX7_apart) := goodIn_app (goodIn_of _ (by decide +kernel)) ggX7_isBetter_X7_apart
theorem dX7_isBetter_0 : decode cX7_isBetter 0 = .ok (.aload_n 0, 1) := by decide +kernel
theorem dX7_isBetter_1 : decode cX7_isBetter 1 = .ok (.iload_n 1, 1) := by decide +kernel
theorem dX7_isBetter_2 : decode cX7_isBetter 2 = .ok (.invokevirtual 72, 3) := by decide +kernel
theorem dX7_isBetter_5 : decode cX7_isBetter 5 = .ok (.aload_n 0, 1) := by decide +kernel
theorem dX7_isBetter_6 : decode cX7_isBetter 6 = .ok (.iload_n 2, 1) := by decide +kernel
theorem dX7_isBetter_7 : decode cX7_isBetter 7 = .ok (.invokevirtual 72, 3) := by decide +kernel
theorem dX7_isBetter_10 : decode cX7_isBetter 10 = .ok (.if_icmp .eq 9, 3) := by decide +kernel
theorem dX7_isBetter_13 : decode cX7_isBetter 13 = .ok (.aload_n 0, 1) := by decide +kernel
theorem dX7_isBetter_14 : decode cX7_isBetter 14 = .ok (.iload_n 1, 1) := by decide +kernel
theorem dX7_isBetter_15 : decode cX7_isBetter 15 = .ok (.invokevirtual 72, 3) := by decide +kernel
theorem dX7_isBetter_18 : decode cX7_isBetter 18 = .ok (.ireturn, 1) := by decide +kernel
theorem dX7_isBetter_19 : decode cX7_isBetter 19 = .ok (.aload_n 0, 1) := by decide +kernel
theorem dX7_isBetter_20 : decode cX7_isBetter 20 = .ok (.iconst 0, 1) := by decide +kernel
theorem dX7_isBetter_21 : decode cX7_isBetter 21 = .ok (.iload_n 1, 1) := by decide +kernel
theorem dX7_isBetter_22 : decode cX7_isBetter 22 = .ok (.invokevirtual 69, 3) := by decide +kernel
theorem dX7_isBetter_25 : decode cX7_isBetter 25 = .ok (.istore_n 3, 1) := by decide +kernel
theorem dX7_isBetter_26 : decode cX7_isBetter 26 = .ok (.aload_n 0, 1) := by decide +kernel
theorem dX7_isBetter_27 : decode cX7_isBetter 27 = .ok (.iconst 0, 1) := by decide +kernel
theorem dX7_isBetter_28 : decode cX7_isBetter 28 = .ok (.iload_n 2, 1) := by decide +kernel
theorem dX7_isBetter_29 : decode cX7_isBetter 29 = .ok (.invokevirtual 69, 3) := by decide +kernel
theorem dX7_isBetter_32 : decode cX7_isBetter 32 = .ok (.istore 4, 2) := by decide +kernel
theorem dX7_isBetter_34 : decode cX7_isBetter 34 = .ok (.iload_n 3, 1) := by decide +kernel
theorem dX7_isBetter_35 : decode cX7_isBetter 35 = .ok (.iload 4, 2) := by decide +kernel
theorem dX7_isBetter_37 : decode cX7_isBetter 37 = .ok (.if_icmp .eq 15, 3) := by decide +kernel
theorem dX7_isBetter_40 : decode cX7_isBetter 40 = .ok (.iload_n 3, 1) := by decide +kernel
theorem dX7_isBetter_41 : decode cX7_isBetter 41 = .ok (.iload 4, 2) := by decide +kernel
theorem dX7_isBetter_43 : decode cX7_isBetter 43 = .ok (.if_icmp .ge 7, 3) := by decide +kernel
theorem dX7_isBetter_46 : decode cX7_isBetter 46 = .ok (.iconst 1, 1) := by decide +kernel
theorem dX7_isBetter_47 : decode cX7_isBetter 47 = .ok (.goto 4, 3) := by decide +kernel
theorem dX7_isBetter_50 : decode cX7_isBetter 50 = .ok (.iconst 0, 1) := by decide +kernel
theorem dX7_isBetter_51 : decode cX7_isBetter 51 = .ok (.ireturn, 1) := by decide +kernel
theorem dX7_isBetter_52 : decode cX7_isBetter 52 = .ok (.iload_n 1, 1) := by decide +kernel
theorem dX7_isBetter_53 : decode cX7_isBetter 53 = .ok (.iconst 0, 1) := by decide +kernel
theorem dX7_isBetter_54 : decode cX7_isBetter 54 = .ok (.invokestatic 66, 3) := by decide +kernel
theorem dX7_isBetter_57 : decode cX7_isBetter 57 = .ok (.istore 5, 2) := by decide +kernel
theorem dX7_isBetter_59 : decode cX7_isBetter 59 = .ok (.iload_n 2, 1) := by decide +kernel
theorem dX7_isBetter_60 : decode cX7_isBetter 60 = .ok (.iconst 0, 1) := by decide +kernel
theorem dX7_isBetter_61 : decode cX7_isBetter 61 = .ok (.invokestatic 66, 3) := by decide +kernel
theorem dX7_isBetter_64 : decode cX7_isBetter 64 = .ok (.istore 6, 2) := by decide +kernel
theorem dX7_isBetter_66 : decode cX7_isBetter 66 = .ok (.iload 5, 2) := by decide +kernel
theorem dX7_isBetter_68 : decode cX7_isBetter 68 = .ok (.iload 6, 2) := by decide +kernel
theorem dX7_isBetter_70 : decode cX7_isBetter 70 = .ok (.if_icmp .lt 15, 3) := by decide +kernel
theorem dX7_isBetter_73 : decode cX7_isBetter 73 = .ok (.iload 5, 2) := by decide +kernel
theorem dX7_isBetter_75 : decode cX7_isBetter 75 = .ok (.iload 6, 2) := by decide +kernel
theorem dX7_isBetter_77 : decode cX7_isBetter 77 = .ok (.if_icmp .ne 12, 3) := by decide +kernel
theorem dX7_isBetter_80 : decode cX7_isBetter 80 = .ok (.iload_n 1, 1) := by decide +kernel
theorem dX7_isBetter_81 : decode cX7_isBetter 81 = .ok (.iload_n 2, 1) := by decide +kernel
theorem dX7_isBetter_82 : decode cX7_isBetter 82 = .ok (.if_icmp .ge 7, 3) := by decide +kernel
theorem dX7_isBetter_85 : decode cX7_isBetter 85 = .ok (.iconst 1, 1) := by decide +kernel
theorem dX7_isBetter_86 : decode cX7_isBetter 86 = .ok (.goto 4, 3) := by decide +kernel
theorem dX7_isBetter_89 : decode cX7_isBetter 89 = .ok (.iconst 0, 1) := by decide +kernel
theorem dX7_isBetter_90 : decode cX7_isBetter 90 = .ok (.ireturn, 1) := by decide +kernel
set_option maxRecDepth 20000 in
theorem ggX7_placeOf_X7_isPossible : GoodIn wsX7_placeOf wsX7_isPossible := goodIn_r _ [7, 8, 9, 10, 11, 12, 13, 6, 14, 15, 16, 17, 18, 19, 20, 21, 22, 23, 24, 25, 26, 27, 28, 29, 30, 46, 47, 48, 49, 50, 51, 52, 53, 54, 55, 56, 57] (by decide +kernel) (by decide +kernel)
set_option maxRecDepth 20000 in
theorem gX7_placeOf_X7_isPossible : GoodIn wsX7_placeOf (wsV RX7 77 RX7 yX7_isPossible wsX7_isPossible) := goodIn_app (goodIn_of _ (by decide +kernel)) ggX7_placeOf_X7_isPossible
set_option maxRecDepth 20000 in
theorem ggX7_placeOf_X7_isBetter : GoodIn wsX7_placeOf wsX7_isBetter := goodIn_r _ [34, 35, 36, 37, 6, 38, 15, 28, 29, 30, 39, 40, 41, 42, 9, 10, 8, 11, 12, 13, 14, 16, 17, 18, 19, 20, 21, 22, 23, 43, 44, 45, 46, 47, 48, 49, 50, 51, 52, 53, 54, 55, 56, 57] (by decide +kernel) (by decide +kernel)
set_option maxRecDepth 20000 in
theorem gX7_placeOf_X7_isBetter : GoodIn wsX7_placeOf (wsV RX7 81 RX7 yX7_isBetter wsX7_isBetter) := goodIn_app (goodIn_of _ (by decide +kernel)) ggX7_placeOf_X7_isBetter
theorem dX7_placeOf_0 : decode cX7_placeOf 0 = .ok (.iload_n 1, 1) := by decide +kernel
theorem dX7_placeOf_1 : decode cX7_placeOf 1 = .ok (.ldc 76, 2) := by decide +kernel
theorem dX7_placeOf_3 : decode cX7_placeOf 3 = .ok (.isub, 1) := by decide +kernel
theorem dX7_placeOf_4 : decode cX7_placeOf 4 = .ok (.istore_n 2, 1) := by decide +kernel
theorem dX7_placeOf_5 : decode cX7_placeOf 5 = .ok (.aload_n 0, 1) := by decide +kernel
theorem dX7_placeOf_6 : decode cX7_placeOf 6 = .ok (.iconst 0, 1) := by decide +kernel
theorem dX7_placeOf_7 : decode cX7_placeOf 7 = .ok (.iload_n 2, 1) := by decide +kernel
theorem dX7_placeOf_8 : decode cX7_placeOf 8 = .ok (.invokevirtual 77, 3) := by decide +kernel
theorem dX7_placeOf_11 : decode cX7_placeOf 11 = .ok (.istore_n 3, 1) := by decide +kernel
theorem dX7_placeOf_12 : decode cX7_placeOf 12 = .ok (.aload_n 0, 1) := by decide +kernel
theorem dX7_placeOf_13 : decode cX7_placeOf 13 = .ok (.iconst 0, 1) := by decide +kernel
theorem dX7_placeOf_14 : decode cX7_placeOf 14 = .ok (.iload_n 1, 1) := by decide +kernel
theorem dX7_placeOf_15 : decode cX7_placeOf 15 = .ok (.invokevirtual 77, 3) := by decide +kernel
theorem dX7_placeOf_18 : decode cX7_placeOf 18 = .ok (.istore 4, 2) := by decide +kernel
theorem dX7_placeOf_20 : decode cX7_placeOf 20 = .ok (.iload_n 3, 1) := by decide +kernel
theorem dX7_placeOf_21 : decode cX7_placeOf 21 = .ok (.ifCond .eq 8, 3) := by decide +kernel
theorem dX7_placeOf_24 : decode cX7_placeOf 24 = .ok (.iload 4, 2) := by decide +kernel
theorem dX7_placeOf_26 : decode cX7_placeOf 26 = .ok (.ifCond .ne 23, 3) := by decide +kernel
theorem dX7_placeOf_29 : decode cX7_placeOf 29 = .ok (.iload_n 3, 1) := by decide +kernel
theorem dX7_placeOf_30 : decode cX7_placeOf 30 = .ok (.ifCond .eq 7, 3) := by decide +kernel
theorem dX7_placeOf_33 : decode cX7_placeOf 33 = .ok (.iload_n 2, 1) := by decide +kernel
theorem dX7_placeOf_34 : decode cX7_placeOf 34 = .ok (.goto 14, 3) := by decide +kernel
theorem dX7_placeOf_37 : decode cX7_placeOf 37 = .ok (.iload 4, 2) := by decide +kernel
theorem dX7_placeOf_39 : decode cX7_placeOf 39 = .ok (.ifCond .eq 7, 3) := by decide +kernel
theorem dX7_placeOf_42 : decode cX7_placeOf 42 = .ok (.iload_n 1, 1) := by decide +kernel
theorem dX7_placeOf_43 : decode cX7_placeOf 43 = .ok (.goto 5, 3) := by decide +kernel
theorem dX7_placeOf_46 : decode cX7_placeOf 46 = .ok (.ldc 80, 2) := by decide +kernel
theorem dX7_placeOf_48 : decode cX7_placeOf 48 = .ok (.ireturn, 1) := by decide +kernel
theorem dX7_placeOf_49 : decode cX7_placeOf 49 = .ok (.aload_n 0, 1) := by decide +kernel
theorem dX7_placeOf_50 : decode cX7_placeOf 50 = .ok (.iload_n 2, 1) := by decide +kernel
theorem dX7_placeOf_51 : decode cX7_placeOf 51 = .ok (.iload_n 1, 1) := by decide +kernel
theorem dX7_placeOf_52 : decode cX7_placeOf 52 = .ok (.invokevirtual 81, 3) := by decide +kernel
theorem dX7_placeOf_55 : decode cX7_placeOf 55 = .ok (.ifCond .eq 7, 3) := by decide +kernel
theorem dX7_placeOf_58 : decode cX7_placeOf 58 = .ok (.iload_n 2, 1) := by decide +kernel
theorem dX7_placeOf_59 : decode cX7_placeOf 59 = .ok (.goto 4, 3) := by decide +kernel
theorem dX7_placeOf_62 : decode cX7_placeOf 62 = .ok (.iload_n 1, 1) := by decide +kernel
theorem dX7_placeOf_63 : decode cX7_placeOf 63 = .ok (.ireturn, 1) := by decide +kernel
theorem dX7_goes_0 : decode cX7_goes 0 = .ok (.bipush 39, 2) := by decide +kernel
theorem dX7_goes_2 : decode cX7_goes 2 = .ok (.bipush 7, 2) := by decide +kernel
theorem dX7_goes_4 : decode cX7_goes 4 = .ok (.iload_n 1, 1) := by decide +kernel
theorem dX7_goes_5 : decode cX7_goes 5 = .ok (.imul, 1) := by decide +kernel
theorem dX7_goes_6 : decode cX7_goes 6 = .ok (.iadd, 1) := by decide +kernel
theorem dX7_goes_7 : decode cX7_goes 7 = .ok (.istore_n 3, 1) := by decide +kernel
theorem dX7_goes_8 : decode cX7_goes 8 = .ok (.iload_n 2, 1) := by decide +kernel
theorem dX7_goes_9 : decode cX7_goes 9 = .ok (.aload_n 0, 1) := by decide +kernel
theorem dX7_goes_10 : decode cX7_goes 10 = .ok (.getfield 7, 3) := by decide +kernel
theorem dX7_goes_13 : decode cX7_goes 13 = .ok (.iload_n 3, 1) := by decide +kernel
theorem dX7_goes_14 : decode cX7_goes 14 = .ok (.iconst 3, 1) := by decide +kernel
theorem dX7_goes_15 : decode cX7_goes 15 = .ok (.iadd, 1) := by decide +kernel
theorem dX7_goes_16 : decode cX7_goes 16 = .ok (.iaload, 1) := by decide +kernel
theorem dX7_goes_17 : decode cX7_goes 17 = .ok (.isub, 1) := by decide +kernel
theorem dX7_goes_18 : decode cX7_goes 18 = .ok (.istore 4, 2) := by decide +kernel
theorem dX7_goes_20 : decode cX7_goes 20 = .ok (.aload_n 0, 1) := by decide +kernel
theorem dX7_goes_21 : decode cX7_goes 21 = .ok (.getfield 7, 3) := by decide +kernel
theorem dX7_goes_24 : decode cX7_goes 24 = .ok (.iload_n 3, 1) := by decide +kernel
theorem dX7_goes_25 : decode cX7_goes 25 = .ok (.iconst 4, 1) := by decide +kernel
theorem dX7_goes_26 : decode cX7_goes 26 = .ok (.iadd, 1) := by decide +kernel
theorem dX7_goes_27 : decode cX7_goes 27 = .ok (.iaload, 1) := by decide +kernel
theorem dX7_goes_28 : decode cX7_goes 28 = .ok (.iload 4, 2) := by decide +kernel
theorem dX7_goes_30 : decode cX7_goes 30 = .ok (.iadd, 1) := by decide +kernel
theorem dX7_goes_31 : decode cX7_goes 31 = .ok (.istore 5, 2) := by decide +kernel
theorem dX7_goes_33 : decode cX7_goes 33 = .ok (.aload_n 0, 1) := by decide +kernel
theorem dX7_goes_34 : decode cX7_goes 34 = .ok (.getfield 7, 3) := by decide +kernel
theorem dX7_goes_37 : decode cX7_goes 37 = .ok (.iload_n 3, 1) := by decide +kernel
theorem dX7_goes_38 : decode cX7_goes 38 = .ok (.iconst 4, 1) := by decide +kernel
theorem dX7_goes_39 : decode cX7_goes 39 = .ok (.iadd, 1) := by decide +kernel
theorem dX7_goes_40 : decode cX7_goes 40 = .ok (.iload 5, 2) := by decide +kernel
theorem dX7_goes_42 : decode cX7_goes 42 = .ok (.ifCond .ge 7, 3) := by decide +kernel
theorem dX7_goes_45 : decode cX7_goes 45 = .ok (.iconst 0, 1) := by decide +kernel
theorem dX7_goes_46 : decode cX7_goes 46 = .ok (.goto 29, 3) := by decide +kernel
theorem dX7_goes_49 : decode cX7_goes 49 = .ok (.iload 5, 2) := by decide +kernel
theorem dX7_goes_51 : decode cX7_goes 51 = .ok (.aload_n 0, 1) := by decide +kernel
theorem dX7_goes_52 : decode cX7_goes 52 = .ok (.getfield 7, 3) := by decide +kernel
theorem dX7_goes_55 : decode cX7_goes 55 = .ok (.iload_n 3, 1) := by decide +kernel
theorem dX7_goes_56 : decode cX7_goes 56 = .ok (.iconst 0, 1) := by decide +kernel
theorem dX7_goes_57 : decode cX7_goes 57 = .ok (.iadd, 1) := by decide +kernel
theorem dX7_goes_58 : decode cX7_goes 58 = .ok (.iaload, 1) := by decide +kernel
theorem dX7_goes_59 : decode cX7_goes 59 = .ok (.if_icmp .le 14, 3) := by decide +kernel
theorem dX7_goes_62 : decode cX7_goes 62 = .ok (.aload_n 0, 1) := by decide +kernel
theorem dX7_goes_63 : decode cX7_goes 63 = .ok (.getfield 7, 3) := by decide +kernel
theorem dX7_goes_66 : decode cX7_goes 66 = .ok (.iload_n 3, 1) := by decide +kernel
theorem dX7_goes_67 : decode cX7_goes 67 = .ok (.iconst 0, 1) := by decide +kernel
theorem dX7_goes_68 : decode cX7_goes 68 = .ok (.iadd, 1) := by decide +kernel
theorem dX7_goes_69 : decode cX7_goes 69 = .ok (.iaload, 1) := by decide +kernel
theorem dX7_goes_70 : decode cX7_goes 70 = .ok (.goto 5, 3) := by decide +kernel
theorem dX7_goes_73 : decode cX7_goes 73 = .ok (.iload 5, 2) := by decide +kernel
theorem dX7_goes_75 : decode cX7_goes 75 = .ok (.iastore, 1) := by decide +kernel
theorem dX7_goes_76 : decode cX7_goes 76 = .ok (.aload_n 0, 1) := by decide +kernel
theorem dX7_goes_77 : decode cX7_goes 77 = .ok (.getfield 7, 3) := by decide +kernel
theorem dX7_goes_80 : decode cX7_goes 80 = .ok (.iload_n 3, 1) := by decide +kernel
theorem dX7_goes_81 : decode cX7_goes 81 = .ok (.iconst 5, 1) := by decide +kernel
theorem dX7_goes_82 : decode cX7_goes 82 = .ok (.iadd, 1) := by decide +kernel
theorem dX7_goes_83 : decode cX7_goes 83 = .ok (.dup2, 1) := by decide +kernel
theorem dX7_goes_84 : decode cX7_goes 84 = .ok (.iaload, 1) := by decide +kernel
theorem dX7_goes_85 : decode cX7_goes 85 = .ok (.iload 4, 2) := by decide +kernel
theorem dX7_goes_87 : decode cX7_goes 87 = .ok (.ifCond .le 8, 3) := by decide +kernel
theorem dX7_goes_90 : decode cX7_goes 90 = .ok (.iload 4, 2) := by decide +kernel
theorem dX7_goes_92 : decode cX7_goes 92 = .ok (.goto 4, 3) := by decide +kernel
theorem dX7_goes_95 : decode cX7_goes 95 = .ok (.iconst 0, 1) := by decide +kernel
theorem dX7_goes_96 : decode cX7_goes 96 = .ok (.iadd, 1) := by decide +kernel
theorem dX7_goes_97 : decode cX7_goes 97 = .ok (.iastore, 1) := by decide +kernel
theorem dX7_goes_98 : decode cX7_goes 98 = .ok (.aload_n 0, 1) := by decide +kernel
theorem dX7_goes_99 : decode cX7_goes 99 = .ok (.getfield 7, 3) := by decide +kernel
theorem dX7_goes_102 : decode cX7_goes 102 = .ok (.iload_n 3, 1) := by decide +kernel
theorem dX7_goes_103 : decode cX7_goes 103 = .ok (.bipush 6, 2) := by decide +kernel
theorem dX7_goes_105 : decode cX7_goes 105 = .ok (.iadd, 1) := by decide +kernel
theorem dX7_goes_106 : decode cX7_goes 106 = .ok (.dup2, 1) := by decide +kernel
theorem dX7_goes_107 : decode cX7_goes 107 = .ok (.iaload, 1) := by decide +kernel
theorem dX7_goes_108 : decode cX7_goes 108 = .ok (.iload 4, 2) := by decide +kernel
theorem dX7_goes_110 : decode cX7_goes 110 = .ok (.ifCond .ge 9, 3) := by decide +kernel
theorem dX7_goes_113 : decode cX7_goes 113 = .ok (.iload 4, 2) := by decide +kernel
theorem dX7_goes_115 : decode cX7_goes 115 = .ok (.ineg, 1) := by decide +kernel
theorem dX7_goes_116 : decode cX7_goes 116 = .ok (.goto 4, 3) := by decide +kernel
theorem dX7_goes_119 : decode cX7_goes 119 = .ok (.iconst 0, 1) := by decide +kernel
theorem dX7_goes_120 : decode cX7_goes 120 = .ok (.iadd, 1) := by decide +kernel
theorem dX7_goes_121 : decode cX7_goes 121 = .ok (.iastore, 1) := by decide +kernel
theorem dX7_goes_122 : decode cX7_goes 122 = .ok (.aload_n 0, 1) := by decide +kernel
theorem dX7_goes_123 : decode cX7_goes 123 = .ok (.getfield 7, 3) := by decide +kernel
theorem dX7_goes_126 : decode cX7_goes 126 = .ok (.iload_n 3, 1) := by decide +kernel
theorem dX7_goes_127 : decode cX7_goes 127 = .ok (.iconst 3, 1) := by decide +kernel
theorem dX7_goes_128 : decode cX7_goes 128 = .ok (.iadd, 1) := by decide +kernel
theorem dX7_goes_129 : decode cX7_goes 129 = .ok (.iload_n 2, 1) := by decide +kernel
theorem dX7_goes_130 : decode cX7_goes 130 = .ok (.iastore, 1) := by decide +kernel
theorem dX7_goes_131 : decode cX7_goes 131 = .ok (.return_, 1) := by decide +kernel
set_option maxRecDepth 20000 in
theorem ggX7_leads_X7_finds : GoodIn wsX7_leads wsX7_finds := goodIn_r _ [8, 2, 1, 3, 9, 10, 11, 12, 7, 13, 14, 15, 16, 17, 22, 23, 24, 25, 26, 27, 28, 29, 30, 31, 32, 33] (by decide +kernel) (by decide +kernel)
set_option maxRecDepth 20000 in
theorem gX7_leads_X7_finds : GoodIn wsX7_leads (wsV RX7 58 RX7 yX7_finds wsX7_finds) := goodIn_app (goodIn_of _ (by decide +kernel)) ggX7_leads_X7_finds
set_option maxRecDepth 20000 in
theorem ggX7_leads_X7_goes : GoodIn wsX7_leads wsX7_goes := goodIn_r _ [21, 9, 22, 23, 24, 25, 26, 27, 28, 29, 30, 31, 32, 33] (by decide +kernel) (by decide +kernel)
set_option maxRecDepth 20000 in
theorem gX7_leads_X7_goes : GoodIn wsX7_leads (wsV RX7 84 RX7 yX7_goes wsX7_goes) := goodIn_app (goodIn_of _ (by decide +kernel)) ggX7_leads_X7_goes
theorem dX7_leads_0 : decode cX7_leads 0 = .ok (.aload_n 0, 1) := by decide +kernel
theorem dX7_leads_1 : decode cX7_leads 1 = .ok (.iload_n 1, 1) := by decide +kernel
theorem dX7_leads_2 : decode cX7_leads 2 = .ok (.iload_n 2, 1) := by decide +kernel
theorem dX7_leads_3 : decode cX7_leads 3 = .ok (.invokevirtual 58, 3) := by decide +kernel
theorem dX7_leads_6 : decode cX7_leads 6 = .ok (.aload_n 0, 1) := by decide +kernel
theorem dX7_leads_7 : decode cX7_leads 7 = .ok (.getfield 48, 3) := by decide +kernel
theorem dX7_leads_10 : decode cX7_leads 10 = .ok (.istore_n 3, 1) := by decide +kernel
theorem dX7_leads_11 : decode cX7_leads 11 = .ok (.aload_n 0, 1) := by decide +kernel
theorem dX7_leads_12 : decode cX7_leads 12 = .ok (.getfield 44, 3) := by decide +kernel
theorem dX7_leads_15 : decode cX7_leads 15 = .ok (.ifCond .eq 12, 3) := by decide +kernel
theorem dX7_leads_18 : decode cX7_leads 18 = .ok (.aload_n 0, 1) := by decide +kernel
theorem dX7_leads_19 : decode cX7_leads 19 = .ok (.iload_n 1, 1) := by decide +kernel
theorem dX7_leads_20 : decode cX7_leads 20 = .ok (.aload_n 0, 1) := by decide +kernel
theorem dX7_leads_21 : decode cX7_leads 21 = .ok (.getfield 51, 3) := by decide +kernel
theorem dX7_leads_24 : decode cX7_leads 24 = .ok (.invokevirtual 84, 3) := by decide +kernel
theorem dX7_leads_27 : decode cX7_leads 27 = .ok (.aload_n 0, 1) := by decide +kernel
theorem dX7_leads_28 : decode cX7_leads 28 = .ok (.iload_n 1, 1) := by decide +kernel
theorem dX7_leads_29 : decode cX7_leads 29 = .ok (.iload_n 3, 1) := by decide +kernel
theorem dX7_leads_30 : decode cX7_leads 30 = .ok (.invokevirtual 84, 3) := by decide +kernel
theorem dX7_leads_33 : decode cX7_leads 33 = .ok (.return_, 1) := by decide +kernel
set_option maxRecDepth 20000 in
theorem ggX7_slews_X7_timeOf : GoodIn wsX7_slews wsX7_timeOf := goodIn_r _ [6, 7, 8, 9, 5, 10, 1, 11, 12, 13, 14, 15, 16, 17, 18, 19, 20, 21, 22, 23, 24, 25, 26, 27, 28, 37, 38, 39, 40, 41, 42, 43, 44, 45, 46, 47, 48] (by decide +kernel) (by decide +kernel)
set_option maxRecDepth 20000 in
theorem gX7_slews_X7_timeOf : GoodIn wsX7_slews (wsV RX7 87 RX7 yX7_timeOf wsX7_timeOf) := goodIn_app (goodIn_of _ (by decide +kernel)) ggX7_slews_X7_timeOf
set_option maxRecDepth 20000 in
theorem ggX7_slews_X7_leads : GoodIn wsX7_slews wsX7_leads := goodIn_r _ [32, 17, 15, 16, 18, 19, 20, 5, 21, 1, 22, 23, 24, 25, 7, 8, 9, 10, 33, 34, 35, 36, 37, 38, 39, 40, 41, 42, 43, 44, 45, 46, 47, 48] (by decide +kernel) (by decide +kernel)
set_option maxRecDepth 20000 in
theorem gX7_slews_X7_leads : GoodIn wsX7_slews (wsV RX7 90 RX7 yX7_leads wsX7_leads) := goodIn_app (goodIn_of _ (by decide +kernel)) ggX7_slews_X7_leads
theorem dX7_slews_0 : decode cX7_slews 0 = .ok (.aload_n 0, 1) := by decide +kernel
theorem dX7_slews_1 : decode cX7_slews 1 = .ok (.iconst 0, 1) := by decide +kernel
theorem dX7_slews_2 : decode cX7_slews 2 = .ok (.iload_n 1, 1) := by decide +kernel
theorem dX7_slews_3 : decode cX7_slews 3 = .ok (.invokevirtual 87, 3) := by decide +kernel
theorem dX7_slews_6 : decode cX7_slews 6 = .ok (.istore_n 3, 1) := by decide +kernel
theorem dX7_slews_7 : decode cX7_slews 7 = .ok (.aload_n 0, 1) := by decide +kernel
theorem dX7_slews_8 : decode cX7_slews 8 = .ok (.iconst 1, 1) := by decide +kernel
theorem dX7_slews_9 : decode cX7_slews 9 = .ok (.iload_n 2, 1) := by decide +kernel
theorem dX7_slews_10 : decode cX7_slews 10 = .ok (.invokevirtual 87, 3) := by decide +kernel
theorem dX7_slews_13 : decode cX7_slews 13 = .ok (.istore 4, 2) := by decide +kernel
theorem dX7_slews_15 : decode cX7_slews 15 = .ok (.aload_n 0, 1) := by decide +kernel
theorem dX7_slews_16 : decode cX7_slews 16 = .ok (.iconst 0, 1) := by decide +kernel
theorem dX7_slews_17 : decode cX7_slews 17 = .ok (.iload_n 1, 1) := by decide +kernel
theorem dX7_slews_18 : decode cX7_slews 18 = .ok (.invokevirtual 90, 3) := by decide +kernel
theorem dX7_slews_21 : decode cX7_slews 21 = .ok (.aload_n 0, 1) := by decide +kernel
theorem dX7_slews_22 : decode cX7_slews 22 = .ok (.iconst 1, 1) := by decide +kernel
theorem dX7_slews_23 : decode cX7_slews 23 = .ok (.iload_n 2, 1) := by decide +kernel
theorem dX7_slews_24 : decode cX7_slews 24 = .ok (.invokevirtual 90, 3) := by decide +kernel
theorem dX7_slews_27 : decode cX7_slews 27 = .ok (.aload_n 0, 1) := by decide +kernel
theorem dX7_slews_28 : decode cX7_slews 28 = .ok (.getfield 7, 3) := by decide +kernel
theorem dX7_slews_31 : decode cX7_slews 31 = .ok (.iconst 5, 1) := by decide +kernel
theorem dX7_slews_32 : decode cX7_slews 32 = .ok (.dup2, 1) := by decide +kernel
theorem dX7_slews_33 : decode cX7_slews 33 = .ok (.iaload, 1) := by decide +kernel
theorem dX7_slews_34 : decode cX7_slews 34 = .ok (.iconst 1, 1) := by decide +kernel
theorem dX7_slews_35 : decode cX7_slews 35 = .ok (.iadd, 1) := by decide +kernel
theorem dX7_slews_36 : decode cX7_slews 36 = .ok (.iastore, 1) := by decide +kernel
theorem dX7_slews_37 : decode cX7_slews 37 = .ok (.iload_n 3, 1) := by decide +kernel
theorem dX7_slews_38 : decode cX7_slews 38 = .ok (.iload 4, 2) := by decide +kernel
theorem dX7_slews_40 : decode cX7_slews 40 = .ok (.if_icmp .le 7, 3) := by decide +kernel
theorem dX7_slews_43 : decode cX7_slews 43 = .ok (.iload_n 3, 1) := by decide +kernel
theorem dX7_slews_44 : decode cX7_slews 44 = .ok (.goto 5, 3) := by decide +kernel
theorem dX7_slews_47 : decode cX7_slews 47 = .ok (.iload 4, 2) := by decide +kernel
theorem dX7_slews_49 : decode cX7_slews 49 = .ok (.ireturn, 1) := by decide +kernel
theorem dX7_mostOf_0 : decode cX7_mostOf 0 = .ok (.iload_n 0, 1) := by decide +kernel
theorem dX7_mostOf_1 : decode cX7_mostOf 1 = .ok (.ifCond .ne 9, 3) := by decide +kernel
theorem dX7_mostOf_4 : decode cX7_mostOf 4 = .ok (.sipush 500, 3) := by decide +kernel
theorem dX7_mostOf_7 : decode cX7_mostOf 7 = .ok (.goto 16, 3) := by decide +kernel
theorem dX7_mostOf_10 : decode cX7_mostOf 10 = .ok (.iload_n 0, 1) := by decide +kernel
theorem dX7_mostOf_11 : decode cX7_mostOf 11 = .ok (.iconst 1, 1) := by decide +kernel
theorem dX7_mostOf_12 : decode cX7_mostOf 12 = .ok (.if_icmp .ne 9, 3) := by decide +kernel
theorem dX7_mostOf_15 : decode cX7_mostOf 15 = .ok (.sipush 27000, 3) := by decide +kernel
theorem dX7_mostOf_18 : decode cX7_mostOf 18 = .ok (.goto 5, 3) := by decide +kernel
theorem dX7_mostOf_21 : decode cX7_mostOf 21 = .ok (.bipush 100, 2) := by decide +kernel
theorem dX7_mostOf_23 : decode cX7_mostOf 23 = .ok (.ireturn, 1) := by decide +kernel
set_option maxRecDepth 20000 in
theorem ggX7_set_X7_in : GoodIn wsX7_set wsX7_in := goodIn_r _ [6] (by decide +kernel) (by decide +kernel)
set_option maxRecDepth 20000 in
theorem gX7_set_X7_in : GoodIn wsX7_set (va_wsS RX7 54 yX7_in wsX7_in) := goodIn_app (goodIn_of _ (by decide +kernel)) ggX7_set_X7_in
set_option maxRecDepth 20000 in
theorem ggX7_set_X7_mostOf : GoodIn wsX7_set wsX7_mostOf := goodIn_r _ [9] (by decide +kernel) (by decide +kernel)
set_option maxRecDepth 20000 in
theorem gX7_set_X7_mostOf : GoodIn wsX7_set (va_wsS RX7 93 yX7_mostOf wsX7_mostOf) := goodIn_app (goodIn_of _ (by decide +kernel)) ggX7_set_X7_mostOf
set_option maxRecDepth 20000 in
theorem ggX7_set_X7_records : GoodIn wsX7_set wsX7_records := goodIn_r _ [13, 14, 15, 2, 16, 17, 18, 19, 20, 21, 22, 23, 24, 25, 26, 27] (by decide +kernel) (by decide +kernel)
set_option maxRecDepth 20000 in
theorem gX7_set_X7_records : GoodIn wsX7_set (wsV RX7 97 RX7 yX7_records wsX7_records) := goodIn_app (goodIn_of _ (by decide +kernel)) ggX7_set_X7_records
theorem dX7_set_0 : decode cX7_set 0 = .ok (.iload_n 1, 1) := by decide +kernel
theorem dX7_set_1 : decode cX7_set 1 = .ok (.iconst 0, 1) := by decide +kernel
theorem dX7_set_2 : decode cX7_set 2 = .ok (.iconst 3, 1) := by decide +kernel
theorem dX7_set_3 : decode cX7_set 3 = .ok (.invokestatic 54, 3) := by decide +kernel
theorem dX7_set_6 : decode cX7_set 6 = .ok (.ifCond .eq 15, 3) := by decide +kernel
theorem dX7_set_9 : decode cX7_set 9 = .ok (.iload_n 2, 1) := by decide +kernel
theorem dX7_set_10 : decode cX7_set 10 = .ok (.iconst 0, 1) := by decide +kernel
theorem dX7_set_11 : decode cX7_set 11 = .ok (.iload_n 1, 1) := by decide +kernel
theorem dX7_set_12 : decode cX7_set 12 = .ok (.invokestatic 93, 3) := by decide +kernel
theorem dX7_set_15 : decode cX7_set 15 = .ok (.invokestatic 54, 3) := by decide +kernel
theorem dX7_set_18 : decode cX7_set 18 = .ok (.ifCond .ne 6, 3) := by decide +kernel
theorem dX7_set_21 : decode cX7_set 21 = .ok (.ldc 96, 2) := by decide +kernel
theorem dX7_set_23 : decode cX7_set 23 = .ok (.ireturn, 1) := by decide +kernel
theorem dX7_set_24 : decode cX7_set 24 = .ok (.aload_n 0, 1) := by decide +kernel
theorem dX7_set_25 : decode cX7_set 25 = .ok (.invokevirtual 97, 3) := by decide +kernel
theorem dX7_set_28 : decode cX7_set 28 = .ok (.aload_n 0, 1) := by decide +kernel
theorem dX7_set_29 : decode cX7_set 29 = .ok (.getfield 7, 3) := by decide +kernel
theorem dX7_set_32 : decode cX7_set 32 = .ok (.iload_n 1, 1) := by decide +kernel
theorem dX7_set_33 : decode cX7_set 33 = .ok (.iaload, 1) := by decide +kernel
theorem dX7_set_34 : decode cX7_set 34 = .ok (.istore_n 3, 1) := by decide +kernel
theorem dX7_set_35 : decode cX7_set 35 = .ok (.aload_n 0, 1) := by decide +kernel
theorem dX7_set_36 : decode cX7_set 36 = .ok (.getfield 7, 3) := by decide +kernel
theorem dX7_set_39 : decode cX7_set 39 = .ok (.iload_n 1, 1) := by decide +kernel
theorem dX7_set_40 : decode cX7_set 40 = .ok (.iload_n 2, 1) := by decide +kernel
theorem dX7_set_41 : decode cX7_set 41 = .ok (.iastore, 1) := by decide +kernel
theorem dX7_set_42 : decode cX7_set 42 = .ok (.iload_n 3, 1) := by decide +kernel
theorem dX7_set_43 : decode cX7_set 43 = .ok (.ireturn, 1) := by decide +kernel
set_option maxRecDepth 20000 in
theorem ggX7_isOfAxis_X7_in : GoodIn wsX7_isOfAxis wsX7_in := goodIn_r _ [4] (by decide +kernel) (by decide +kernel)
set_option maxRecDepth 20000 in
theorem gX7_isOfAxis_X7_in : GoodIn wsX7_isOfAxis (va_wsS RX7 54 yX7_in wsX7_in) := goodIn_app (goodIn_of _ (by decide +kernel)) ggX7_isOfAxis_X7_in
theorem dX7_isOfAxis_0 : decode cX7_isOfAxis 0 = .ok (.iload_n 0, 1) := by decide +kernel
theorem dX7_isOfAxis_1 : decode cX7_isOfAxis 1 = .ok (.tableswitch 52 0 2 #[27, 36, 43], 27) := by decide +kernel
theorem dX7_isOfAxis_28 : decode cX7_isOfAxis 28 = .ok (.iload_n 1, 1) := by decide +kernel
theorem dX7_isOfAxis_29 : decode cX7_isOfAxis 29 = .ok (.iconst 0, 1) := by decide +kernel
theorem dX7_isOfAxis_30 : decode cX7_isOfAxis 30 = .ok (.sipush 300, 3) := by decide +kernel
theorem dX7_isOfAxis_33 : decode cX7_isOfAxis 33 = .ok (.invokestatic 54, 3) := by decide +kernel
theorem dX7_isOfAxis_36 : decode cX7_isOfAxis 36 = .ok (.ireturn, 1) := by decide +kernel
theorem dX7_isOfAxis_37 : decode cX7_isOfAxis 37 = .ok (.iload_n 1, 1) := by decide +kernel
theorem dX7_isOfAxis_38 : decode cX7_isOfAxis 38 = .ok (.iconst 0, 1) := by decide +kernel
theorem dX7_isOfAxis_39 : decode cX7_isOfAxis 39 = .ok (.iconst 2, 1) := by decide +kernel
theorem dX7_isOfAxis_40 : decode cX7_isOfAxis 40 = .ok (.invokestatic 54, 3) := by decide +kernel
theorem dX7_isOfAxis_43 : decode cX7_isOfAxis 43 = .ok (.ireturn, 1) := by decide +kernel
theorem dX7_isOfAxis_44 : decode cX7_isOfAxis 44 = .ok (.iload_n 1, 1) := by decide +kernel
theorem dX7_isOfAxis_45 : decode cX7_isOfAxis 45 = .ok (.iconst 1, 1) := by decide +kernel
theorem dX7_isOfAxis_46 : decode cX7_isOfAxis 46 = .ok (.sipush 2000, 3) := by decide +kernel
theorem dX7_isOfAxis_49 : decode cX7_isOfAxis 49 = .ok (.invokestatic 54, 3) := by decide +kernel
theorem dX7_isOfAxis_52 : decode cX7_isOfAxis 52 = .ok (.ireturn, 1) := by decide +kernel
theorem dX7_isOfAxis_53 : decode cX7_isOfAxis 53 = .ok (.iconst 0, 1) := by decide +kernel
theorem dX7_isOfAxis_54 : decode cX7_isOfAxis 54 = .ok (.ireturn, 1) := by decide +kernel
set_option maxRecDepth 20000 in
theorem ggX7_setAxis_X7_in : GoodIn wsX7_setAxis wsX7_in := goodIn_r _ [6] (by decide +kernel) (by decide +kernel)
set_option maxRecDepth 20000 in
theorem gX7_setAxis_X7_in : GoodIn wsX7_setAxis (va_wsS RX7 54 yX7_in wsX7_in) := goodIn_app (goodIn_of _ (by decide +kernel)) ggX7_setAxis_X7_in
set_option maxRecDepth 20000 in
theorem ggX7_setAxis_X7_isOfAxis : GoodIn wsX7_setAxis wsX7_isOfAxis := goodIn_r _ [9, 3, 4, 5, 6] (by decide +kernel) (by decide +kernel)
set_option maxRecDepth 20000 in
theorem gX7_setAxis_X7_isOfAxis : GoodIn wsX7_setAxis (va_wsS RX7 100 yX7_isOfAxis wsX7_isOfAxis) := goodIn_app (goodIn_of _ (by decide +kernel)) ggX7_setAxis_X7_isOfAxis
set_option maxRecDepth 20000 in
theorem ggX7_setAxis_X7_records : GoodIn wsX7_setAxis wsX7_records := goodIn_r _ [13, 14, 15, 2, 16, 17, 18, 19, 20, 21, 22, 23, 24, 25, 26, 27] (by decide +kernel) (by decide +kernel)
set_option maxRecDepth 20000 in
theorem gX7_setAxis_X7_records : GoodIn wsX7_setAxis (wsV RX7 97 RX7 yX7_records wsX7_records) := goodIn_app (goodIn_of _ (by decide +kernel)) ggX7_setAxis_X7_records
theorem dX7_setAxis_0 : decode cX7_setAxis 0 = .ok (.iload_n 1, 1) := by decide +kernel
theorem dX7_setAxis_1 : decode cX7_setAxis 1 = .ok (.iconst 0, 1) := by decide +kernel
theorem dX7_setAxis_2 : decode cX7_setAxis 2 = .ok (.iconst 1, 1) := by decide +kernel
theorem dX7_setAxis_3 : decode cX7_setAxis 3 = .ok (.invokestatic 54, 3) := by decide +kernel
theorem dX7_setAxis_6 : decode cX7_setAxis 6 = .ok (.ifCond .eq 11, 3) := by decide +kernel
theorem dX7_setAxis_9 : decode cX7_setAxis 9 = .ok (.iload_n 2, 1) := by decide +kernel
theorem dX7_setAxis_10 : decode cX7_setAxis 10 = .ok (.iload_n 3, 1) := by decide +kernel
theorem dX7_setAxis_11 : decode cX7_setAxis 11 = .ok (.invokestatic 100, 3) := by decide +kernel
theorem dX7_setAxis_14 : decode cX7_setAxis 14 = .ok (.ifCond .ne 6, 3) := by decide +kernel
theorem dX7_setAxis_17 : decode cX7_setAxis 17 = .ok (.ldc 96, 2) := by decide +kernel
theorem dX7_setAxis_19 : decode cX7_setAxis 19 = .ok (.ireturn, 1) := by decide +kernel
theorem dX7_setAxis_20 : decode cX7_setAxis 20 = .ok (.aload_n 0, 1) := by decide +kernel
theorem dX7_setAxis_21 : decode cX7_setAxis 21 = .ok (.invokevirtual 97, 3) := by decide +kernel
theorem dX7_setAxis_24 : decode cX7_setAxis 24 = .ok (.bipush 39, 2) := by decide +kernel
theorem dX7_setAxis_26 : decode cX7_setAxis 26 = .ok (.bipush 7, 2) := by decide +kernel
theorem dX7_setAxis_28 : decode cX7_setAxis 28 = .ok (.iload_n 1, 1) := by decide +kernel
theorem dX7_setAxis_29 : decode cX7_setAxis 29 = .ok (.imul, 1) := by decide +kernel
theorem dX7_setAxis_30 : decode cX7_setAxis 30 = .ok (.iadd, 1) := by decide +kernel
theorem dX7_setAxis_31 : decode cX7_setAxis 31 = .ok (.istore 4, 2) := by decide +kernel
theorem dX7_setAxis_33 : decode cX7_setAxis 33 = .ok (.aload_n 0, 1) := by decide +kernel
theorem dX7_setAxis_34 : decode cX7_setAxis 34 = .ok (.getfield 7, 3) := by decide +kernel
theorem dX7_setAxis_37 : decode cX7_setAxis 37 = .ok (.iload 4, 2) := by decide +kernel
theorem dX7_setAxis_39 : decode cX7_setAxis 39 = .ok (.iload_n 2, 1) := by decide +kernel
theorem dX7_setAxis_40 : decode cX7_setAxis 40 = .ok (.iadd, 1) := by decide +kernel
theorem dX7_setAxis_41 : decode cX7_setAxis 41 = .ok (.iaload, 1) := by decide +kernel
theorem dX7_setAxis_42 : decode cX7_setAxis 42 = .ok (.istore 5, 2) := by decide +kernel
theorem dX7_setAxis_44 : decode cX7_setAxis 44 = .ok (.aload_n 0, 1) := by decide +kernel
theorem dX7_setAxis_45 : decode cX7_setAxis 45 = .ok (.getfield 7, 3) := by decide +kernel
theorem dX7_setAxis_48 : decode cX7_setAxis 48 = .ok (.iload 4, 2) := by decide +kernel
theorem dX7_setAxis_50 : decode cX7_setAxis 50 = .ok (.iload_n 2, 1) := by decide +kernel
theorem dX7_setAxis_51 : decode cX7_setAxis 51 = .ok (.iadd, 1) := by decide +kernel
theorem dX7_setAxis_52 : decode cX7_setAxis 52 = .ok (.iload_n 3, 1) := by decide +kernel
theorem dX7_setAxis_53 : decode cX7_setAxis 53 = .ok (.iastore, 1) := by decide +kernel
theorem dX7_setAxis_54 : decode cX7_setAxis 54 = .ok (.aload_n 0, 1) := by decide +kernel
theorem dX7_setAxis_55 : decode cX7_setAxis 55 = .ok (.getfield 7, 3) := by decide +kernel
theorem dX7_setAxis_58 : decode cX7_setAxis 58 = .ok (.iload 4, 2) := by decide +kernel
theorem dX7_setAxis_60 : decode cX7_setAxis 60 = .ok (.iconst 4, 1) := by decide +kernel
theorem dX7_setAxis_61 : decode cX7_setAxis 61 = .ok (.iadd, 1) := by decide +kernel
theorem dX7_setAxis_62 : decode cX7_setAxis 62 = .ok (.aload_n 0, 1) := by decide +kernel
theorem dX7_setAxis_63 : decode cX7_setAxis 63 = .ok (.getfield 7, 3) := by decide +kernel
theorem dX7_setAxis_66 : decode cX7_setAxis 66 = .ok (.iload 4, 2) := by decide +kernel
theorem dX7_setAxis_68 : decode cX7_setAxis 68 = .ok (.iconst 4, 1) := by decide +kernel
theorem dX7_setAxis_69 : decode cX7_setAxis 69 = .ok (.iadd, 1) := by decide +kernel
theorem dX7_setAxis_70 : decode cX7_setAxis 70 = .ok (.iaload, 1) := by decide +kernel
theorem dX7_setAxis_71 : decode cX7_setAxis 71 = .ok (.aload_n 0, 1) := by decide +kernel
theorem dX7_setAxis_72 : decode cX7_setAxis 72 = .ok (.getfield 7, 3) := by decide +kernel
theorem dX7_setAxis_75 : decode cX7_setAxis 75 = .ok (.iload 4, 2) := by decide +kernel
theorem dX7_setAxis_77 : decode cX7_setAxis 77 = .ok (.iconst 0, 1) := by decide +kernel
theorem dX7_setAxis_78 : decode cX7_setAxis 78 = .ok (.iadd, 1) := by decide +kernel
theorem dX7_setAxis_79 : decode cX7_setAxis 79 = .ok (.iaload, 1) := by decide +kernel
theorem dX7_setAxis_80 : decode cX7_setAxis 80 = .ok (.if_icmp .le 15, 3) := by decide +kernel
theorem dX7_setAxis_83 : decode cX7_setAxis 83 = .ok (.aload_n 0, 1) := by decide +kernel
theorem dX7_setAxis_84 : decode cX7_setAxis 84 = .ok (.getfield 7, 3) := by decide +kernel
theorem dX7_setAxis_87 : decode cX7_setAxis 87 = .ok (.iload 4, 2) := by decide +kernel
theorem dX7_setAxis_89 : decode cX7_setAxis 89 = .ok (.iconst 0, 1) := by decide +kernel
theorem dX7_setAxis_90 : decode cX7_setAxis 90 = .ok (.iadd, 1) := by decide +kernel
theorem dX7_setAxis_91 : decode cX7_setAxis 91 = .ok (.iaload, 1) := by decide +kernel
theorem dX7_setAxis_92 : decode cX7_setAxis 92 = .ok (.goto 12, 3) := by decide +kernel
theorem dX7_setAxis_95 : decode cX7_setAxis 95 = .ok (.aload_n 0, 1) := by decide +kernel
theorem dX7_setAxis_96 : decode cX7_setAxis 96 = .ok (.getfield 7, 3) := by decide +kernel
theorem dX7_setAxis_99 : decode cX7_setAxis 99 = .ok (.iload 4, 2) := by decide +kernel
theorem dX7_setAxis_101 : decode cX7_setAxis 101 = .ok (.iconst 4, 1) := by decide +kernel
theorem dX7_setAxis_102 : decode cX7_setAxis 102 = .ok (.iadd, 1) := by decide +kernel
theorem dX7_setAxis_103 : decode cX7_setAxis 103 = .ok (.iaload, 1) := by decide +kernel
theorem dX7_setAxis_104 : decode cX7_setAxis 104 = .ok (.iastore, 1) := by decide +kernel
theorem dX7_setAxis_105 : decode cX7_setAxis 105 = .ok (.iload 5, 2) := by decide +kernel
theorem dX7_setAxis_107 : decode cX7_setAxis 107 = .ok (.ireturn, 1) := by decide +kernel
set_option maxRecDepth 20000 in
theorem ggX7_gust_X7_in : GoodIn wsX7_gust wsX7_in := goodIn_r _ [7] (by decide +kernel) (by decide +kernel)
set_option maxRecDepth 20000 in
theorem gX7_gust_X7_in : GoodIn wsX7_gust (va_wsS RX7 54 yX7_in wsX7_in) := goodIn_app (goodIn_of _ (by decide +kernel)) ggX7_gust_X7_in
set_option maxRecDepth 20000 in
theorem ggX7_gust_X7_records : GoodIn wsX7_gust wsX7_records := goodIn_r _ [11, 12, 13, 2, 14, 15, 16, 17, 18, 19, 20, 21, 22, 23, 24, 25] (by decide +kernel) (by decide +kernel)
set_option maxRecDepth 20000 in
theorem gX7_gust_X7_records : GoodIn wsX7_gust (wsV RX7 97 RX7 yX7_records wsX7_records) := goodIn_app (goodIn_of _ (by decide +kernel)) ggX7_gust_X7_records
theorem dX7_gust_0 : decode cX7_gust 0 = .ok (.iload_n 1, 1) := by decide +kernel
theorem dX7_gust_1 : decode cX7_gust 1 = .ok (.iconst 0, 1) := by decide +kernel
theorem dX7_gust_2 : decode cX7_gust 2 = .ok (.bipush 29, 2) := by decide +kernel
theorem dX7_gust_4 : decode cX7_gust 4 = .ok (.invokestatic 54, 3) := by decide +kernel
theorem dX7_gust_7 : decode cX7_gust 7 = .ok (.ifCond .eq 13, 3) := by decide +kernel
theorem dX7_gust_10 : decode cX7_gust 10 = .ok (.iload_n 2, 1) := by decide +kernel
theorem dX7_gust_11 : decode cX7_gust 11 = .ok (.iconst 0, 1) := by decide +kernel
theorem dX7_gust_12 : decode cX7_gust 12 = .ok (.bipush 99, 2) := by decide +kernel
theorem dX7_gust_14 : decode cX7_gust 14 = .ok (.invokestatic 54, 3) := by decide +kernel
theorem dX7_gust_17 : decode cX7_gust 17 = .ok (.ifCond .ne 6, 3) := by decide +kernel
theorem dX7_gust_20 : decode cX7_gust 20 = .ok (.ldc 96, 2) := by decide +kernel
theorem dX7_gust_22 : decode cX7_gust 22 = .ok (.ireturn, 1) := by decide +kernel
theorem dX7_gust_23 : decode cX7_gust 23 = .ok (.sipush 1440, 3) := by decide +kernel
theorem dX7_gust_26 : decode cX7_gust 26 = .ok (.iload_n 1, 1) := by decide +kernel
theorem dX7_gust_27 : decode cX7_gust 27 = .ok (.imul, 1) := by decide +kernel
theorem dX7_gust_28 : decode cX7_gust 28 = .ok (.aload_n 0, 1) := by decide +kernel
theorem dX7_gust_29 : decode cX7_gust 29 = .ok (.getfield 7, 3) := by decide +kernel
theorem dX7_gust_32 : decode cX7_gust 32 = .ok (.iconst 4, 1) := by decide +kernel
theorem dX7_gust_33 : decode cX7_gust 33 = .ok (.iaload, 1) := by decide +kernel
theorem dX7_gust_34 : decode cX7_gust 34 = .ok (.if_icmp .ge 6, 3) := by decide +kernel
theorem dX7_gust_37 : decode cX7_gust 37 = .ok (.ldc 103, 2) := by decide +kernel
theorem dX7_gust_39 : decode cX7_gust 39 = .ok (.ireturn, 1) := by decide +kernel
theorem dX7_gust_40 : decode cX7_gust 40 = .ok (.aload_n 0, 1) := by decide +kernel
theorem dX7_gust_41 : decode cX7_gust 41 = .ok (.invokevirtual 97, 3) := by decide +kernel
theorem dX7_gust_44 : decode cX7_gust 44 = .ok (.aload_n 0, 1) := by decide +kernel
theorem dX7_gust_45 : decode cX7_gust 45 = .ok (.getfield 7, 3) := by decide +kernel
theorem dX7_gust_48 : decode cX7_gust 48 = .ok (.bipush 8, 2) := by decide +kernel
theorem dX7_gust_50 : decode cX7_gust 50 = .ok (.iload_n 1, 1) := by decide +kernel
theorem dX7_gust_51 : decode cX7_gust 51 = .ok (.iadd, 1) := by decide +kernel
theorem dX7_gust_52 : decode cX7_gust 52 = .ok (.iaload, 1) := by decide +kernel
theorem dX7_gust_53 : decode cX7_gust 53 = .ok (.istore_n 3, 1) := by decide +kernel
theorem dX7_gust_54 : decode cX7_gust 54 = .ok (.aload_n 0, 1) := by decide +kernel
theorem dX7_gust_55 : decode cX7_gust 55 = .ok (.getfield 7, 3) := by decide +kernel
theorem dX7_gust_58 : decode cX7_gust 58 = .ok (.bipush 8, 2) := by decide +kernel
theorem dX7_gust_60 : decode cX7_gust 60 = .ok (.iload_n 1, 1) := by decide +kernel
theorem dX7_gust_61 : decode cX7_gust 61 = .ok (.iadd, 1) := by decide +kernel
theorem dX7_gust_62 : decode cX7_gust 62 = .ok (.iload_n 2, 1) := by decide +kernel
theorem dX7_gust_63 : decode cX7_gust 63 = .ok (.iastore, 1) := by decide +kernel
theorem dX7_gust_64 : decode cX7_gust 64 = .ok (.iload_n 3, 1) := by decide +kernel
theorem dX7_gust_65 : decode cX7_gust 65 = .ok (.ireturn, 1) := by decide +kernel
set_option maxRecDepth 20000 in
theorem ggX7_underWay_X7_of : GoodIn wsX7_underWay wsX7_of := goodIn_r _ [7, 1, 8, 9, 10, 11, 12, 13, 14, 15, 16, 17, 18, 19] (by decide +kernel) (by decide +kernel)
set_option maxRecDepth 20000 in
theorem gX7_underWay_X7_of : GoodIn wsX7_underWay (wsV RX7 104 RX7 yX7_of wsX7_of) := goodIn_app (goodIn_of _ (by decide +kernel)) ggX7_underWay_X7_of
theorem dX7_underWay_0 : decode cX7_underWay 0 = .ok (.iconst 0, 1) := by decide +kernel
theorem dX7_underWay_1 : decode cX7_underWay 1 = .ok (.istore_n 1, 1) := by decide +kernel
theorem dX7_underWay_2 : decode cX7_underWay 2 = .ok (.iload_n 1, 1) := by decide +kernel
theorem dX7_underWay_3 : decode cX7_underWay 3 = .ok (.aload_n 0, 1) := by decide +kernel
theorem dX7_underWay_4 : decode cX7_underWay 4 = .ok (.getfield 7, 3) := by decide +kernel
theorem dX7_underWay_7 : decode cX7_underWay 7 = .ok (.bipush 7, 2) := by decide +kernel
theorem dX7_underWay_9 : decode cX7_underWay 9 = .ok (.iaload, 1) := by decide +kernel
theorem dX7_underWay_10 : decode cX7_underWay 10 = .ok (.if_icmp .ge 22, 3) := by decide +kernel
theorem dX7_underWay_13 : decode cX7_underWay 13 = .ok (.aload_n 0, 1) := by decide +kernel
theorem dX7_underWay_14 : decode cX7_underWay 14 = .ok (.iload_n 1, 1) := by decide +kernel
theorem dX7_underWay_15 : decode cX7_underWay 15 = .ok (.bipush 6, 2) := by decide +kernel
theorem dX7_underWay_17 : decode cX7_underWay 17 = .ok (.invokevirtual 104, 3) := by decide +kernel
theorem dX7_underWay_20 : decode cX7_underWay 20 = .ok (.iconst 1, 1) := by decide +kernel
theorem dX7_underWay_21 : decode cX7_underWay 21 = .ok (.if_icmp .ne 5, 3) := by decide +kernel
theorem dX7_underWay_24 : decode cX7_underWay 24 = .ok (.iload_n 1, 1) := by decide +kernel
theorem dX7_underWay_25 : decode cX7_underWay 25 = .ok (.ireturn, 1) := by decide +kernel
theorem dX7_underWay_26 : decode cX7_underWay 26 = .ok (.iinc 1 1, 3) := by decide +kernel
theorem dX7_underWay_29 : decode cX7_underWay 29 = .ok (.goto (-27), 3) := by decide +kernel
theorem dX7_underWay_32 : decode cX7_underWay 32 = .ok (.ldc 80, 2) := by decide +kernel
theorem dX7_underWay_34 : decode cX7_underWay 34 = .ok (.ireturn, 1) := by decide +kernel
set_option maxRecDepth 20000 in
theorem ggX7_manyIn_X7_of : GoodIn wsX7_manyIn wsX7_of := goodIn_r _ [6, 1, 7, 8, 9, 10, 11, 12, 13, 14, 15, 16, 17, 18] (by decide +kernel) (by decide +kernel)
set_option maxRecDepth 20000 in
theorem gX7_manyIn_X7_of : GoodIn wsX7_manyIn (wsV RX7 104 RX7 yX7_of wsX7_of) := goodIn_app (goodIn_of _ (by decide +kernel)) ggX7_manyIn_X7_of
theorem dX7_manyIn_0 : decode cX7_manyIn 0 = .ok (.iconst 0, 1) := by decide +kernel
theorem dX7_manyIn_1 : decode cX7_manyIn 1 = .ok (.istore_n 2, 1) := by decide +kernel
theorem dX7_manyIn_2 : decode cX7_manyIn 2 = .ok (.iconst 0, 1) := by decide +kernel
theorem dX7_manyIn_3 : decode cX7_manyIn 3 = .ok (.istore_n 3, 1) := by decide +kernel
theorem dX7_manyIn_4 : decode cX7_manyIn 4 = .ok (.iload_n 3, 1) := by decide +kernel
theorem dX7_manyIn_5 : decode cX7_manyIn 5 = .ok (.aload_n 0, 1) := by decide +kernel
theorem dX7_manyIn_6 : decode cX7_manyIn 6 = .ok (.getfield 7, 3) := by decide +kernel
theorem dX7_manyIn_9 : decode cX7_manyIn 9 = .ok (.bipush 7, 2) := by decide +kernel
theorem dX7_manyIn_11 : decode cX7_manyIn 11 = .ok (.iaload, 1) := by decide +kernel
theorem dX7_manyIn_12 : decode cX7_manyIn 12 = .ok (.if_icmp .ge 28, 3) := by decide +kernel
theorem dX7_manyIn_15 : decode cX7_manyIn 15 = .ok (.iload_n 2, 1) := by decide +kernel
theorem dX7_manyIn_16 : decode cX7_manyIn 16 = .ok (.aload_n 0, 1) := by decide +kernel
theorem dX7_manyIn_17 : decode cX7_manyIn 17 = .ok (.iload_n 3, 1) := by decide +kernel
theorem dX7_manyIn_18 : decode cX7_manyIn 18 = .ok (.bipush 6, 2) := by decide +kernel
theorem dX7_manyIn_20 : decode cX7_manyIn 20 = .ok (.invokevirtual 104, 3) := by decide +kernel
theorem dX7_manyIn_23 : decode cX7_manyIn 23 = .ok (.iload_n 1, 1) := by decide +kernel
theorem dX7_manyIn_24 : decode cX7_manyIn 24 = .ok (.if_icmp .ne 7, 3) := by decide +kernel
theorem dX7_manyIn_27 : decode cX7_manyIn 27 = .ok (.iconst 1, 1) := by decide +kernel
theorem dX7_manyIn_28 : decode cX7_manyIn 28 = .ok (.goto 4, 3) := by decide +kernel
theorem dX7_manyIn_31 : decode cX7_manyIn 31 = .ok (.iconst 0, 1) := by decide +kernel
theorem dX7_manyIn_32 : decode cX7_manyIn 32 = .ok (.iadd, 1) := by decide +kernel
theorem dX7_manyIn_33 : decode cX7_manyIn 33 = .ok (.istore_n 2, 1) := by decide +kernel
theorem dX7_manyIn_34 : decode cX7_manyIn 34 = .ok (.iinc 3 1, 3) := by decide +kernel
theorem dX7_manyIn_37 : decode cX7_manyIn 37 = .ok (.goto (-33), 3) := by decide +kernel
theorem dX7_manyIn_40 : decode cX7_manyIn 40 = .ok (.iload_n 2, 1) := by decide +kernel
theorem dX7_manyIn_41 : decode cX7_manyIn 41 = .ok (.ireturn, 1) := by decide +kernel
set_option maxRecDepth 20000 in
theorem ggX7_minutesLeft_X7_underWay : GoodIn wsX7_minutesLeft wsX7_underWay := goodIn_r _ [7, 2, 1, 8, 9, 10, 6, 11, 12, 13, 14, 15, 16, 17, 18, 19, 20, 21, 22, 23] (by decide +kernel) (by decide +kernel)
set_option maxRecDepth 20000 in
theorem gX7_minutesLeft_X7_underWay : GoodIn wsX7_minutesLeft (wsV RX7 107 RX7 yX7_underWay wsX7_underWay) := goodIn_app (goodIn_of _ (by decide +kernel)) ggX7_minutesLeft_X7_underWay
set_option maxRecDepth 20000 in
theorem ggX7_minutesLeft_X7_of : GoodIn wsX7_minutesLeft wsX7_of := goodIn_r _ [11, 2, 12, 13, 14, 15, 16, 17, 18, 19, 20, 21, 22, 23] (by decide +kernel) (by decide +kernel)
set_option maxRecDepth 20000 in
theorem gX7_minutesLeft_X7_of : GoodIn wsX7_minutesLeft (wsV RX7 104 RX7 yX7_of wsX7_of) := goodIn_app (goodIn_of _ (by decide +kernel)) ggX7_minutesLeft_X7_of
theorem dX7_minutesLeft_0 : decode cX7_minutesLeft 0 = .ok (.aload_n 0, 1) := by decide +kernel
theorem dX7_minutesLeft_1 : decode cX7_minutesLeft 1 = .ok (.invokevirtual 107, 3) := by decide +kernel
theorem dX7_minutesLeft_4 : decode cX7_minutesLeft 4 = .ok (.istore_n 1, 1) := by decide +kernel
theorem dX7_minutesLeft_5 : decode cX7_minutesLeft 5 = .ok (.iload_n 1, 1) := by decide +kernel
theorem dX7_minutesLeft_6 : decode cX7_minutesLeft 6 = .ok (.ldc 80, 2) := by decide +kernel
theorem dX7_minutesLeft_8 : decode cX7_minutesLeft 8 = .ok (.if_icmp .ne 8, 3) := by decide +kernel
theorem dX7_minutesLeft_11 : decode cX7_minutesLeft 11 = .ok (.ldc 80, 2) := by decide +kernel
theorem dX7_minutesLeft_13 : decode cX7_minutesLeft 13 = .ok (.goto 17, 3) := by decide +kernel
theorem dX7_minutesLeft_16 : decode cX7_minutesLeft 16 = .ok (.aload_n 0, 1) := by decide +kernel
theorem dX7_minutesLeft_17 : decode cX7_minutesLeft 17 = .ok (.iload_n 1, 1) := by decide +kernel
theorem dX7_minutesLeft_18 : decode cX7_minutesLeft 18 = .ok (.bipush 9, 2) := by decide +kernel
theorem dX7_minutesLeft_20 : decode cX7_minutesLeft 20 = .ok (.invokevirtual 104, 3) := by decide +kernel
theorem dX7_minutesLeft_23 : decode cX7_minutesLeft 23 = .ok (.aload_n 0, 1) := by decide +kernel
theorem dX7_minutesLeft_24 : decode cX7_minutesLeft 24 = .ok (.getfield 7, 3) := by decide +kernel
theorem dX7_minutesLeft_27 : decode cX7_minutesLeft 27 = .ok (.iconst 4, 1) := by decide +kernel
theorem dX7_minutesLeft_28 : decode cX7_minutesLeft 28 = .ok (.iaload, 1) := by decide +kernel
theorem dX7_minutesLeft_29 : decode cX7_minutesLeft 29 = .ok (.isub, 1) := by decide +kernel
theorem dX7_minutesLeft_30 : decode cX7_minutesLeft 30 = .ok (.ireturn, 1) := by decide +kernel
set_option maxRecDepth 20000 in
theorem ggX7_count_X7_day : GoodIn wsX7_count wsX7_day := goodIn_r _ [10, 1, 44, 45, 46, 47, 48, 49, 50, 51, 52, 53, 54, 55] (by decide +kernel) (by decide +kernel)
set_option maxRecDepth 20000 in
theorem gX7_count_X7_day : GoodIn wsX7_count (wsV RX7 29 RX7 yX7_day wsX7_day) := goodIn_app (goodIn_of _ (by decide +kernel)) ggX7_count_X7_day
set_option maxRecDepth 20000 in
theorem ggX7_count_X7_gustNow : GoodIn wsX7_count wsX7_gustNow := goodIn_r _ [14, 1, 6, 7, 8, 9, 10, 44, 45, 46, 47, 48, 49, 50, 51, 52, 53, 54, 55] (by decide +kernel) (by decide +kernel)
set_option maxRecDepth 20000 in
theorem gX7_count_X7_gustNow : GoodIn wsX7_count (wsV RX7 33 RX7 yX7_gustNow wsX7_gustNow) := goodIn_app (goodIn_of _ (by decide +kernel)) ggX7_count_X7_gustNow
set_option maxRecDepth 20000 in
theorem ggX7_count_X7_kindOfDay : GoodIn wsX7_count wsX7_kindOfDay := goodIn_r _ [18, 1, 11, 12, 13, 9, 14, 6, 7, 8, 10, 44, 45, 46, 47, 48, 49, 50, 51, 52, 53, 54, 55] (by decide +kernel) (by decide +kernel)
set_option maxRecDepth 20000 in
theorem gX7_count_X7_kindOfDay : GoodIn wsX7_count (wsV RX7 110 RX7 yX7_kindOfDay wsX7_kindOfDay) := goodIn_app (goodIn_of _ (by decide +kernel)) ggX7_count_X7_kindOfDay
set_option maxRecDepth 20000 in
theorem ggX7_count_X7_manyIn : GoodIn wsX7_count wsX7_manyIn := goodIn_r _ [22, 1, 23, 24, 25, 9, 26, 44, 45, 46, 47, 48, 49, 50, 51, 52, 53, 54, 55] (by decide +kernel) (by decide +kernel)
set_option maxRecDepth 20000 in
theorem gX7_count_X7_manyIn : GoodIn wsX7_count (wsV RX7 113 RX7 yX7_manyIn wsX7_manyIn) := goodIn_app (goodIn_of _ (by decide +kernel)) ggX7_count_X7_manyIn
set_option maxRecDepth 20000 in
theorem ggX7_count_X7_underWay : GoodIn wsX7_count wsX7_underWay := goodIn_r _ [30, 1, 31, 23, 24, 25, 9, 26, 44, 45, 46, 47, 48, 49, 50, 51, 52, 53, 54, 55] (by decide +kernel) (by decide +kernel)
set_option maxRecDepth 20000 in
theorem gX7_count_X7_underWay : GoodIn wsX7_count (wsV RX7 107 RX7 yX7_underWay wsX7_underWay) := goodIn_app (goodIn_of _ (by decide +kernel)) ggX7_count_X7_underWay
set_option maxRecDepth 20000 in
theorem ggX7_count_X7_minutesLeft : GoodIn wsX7_count wsX7_minutesLeft := goodIn_r _ [35, 31, 1, 27, 28, 29, 9, 30, 23, 24, 25, 26, 44, 45, 46, 47, 48, 49, 50, 51, 52, 53, 54, 55] (by decide +kernel) (by decide +kernel)
set_option maxRecDepth 20000 in
theorem gX7_count_X7_minutesLeft : GoodIn wsX7_count (wsV RX7 116 RX7 yX7_minutesLeft wsX7_minutesLeft) := goodIn_app (goodIn_of _ (by decide +kernel)) ggX7_count_X7_minutesLeft
set_option maxRecDepth 20000 in
theorem ggX7_count_X7_stands : GoodIn wsX7_count wsX7_stands := goodIn_r _ [39, 40, 41, 42, 9, 43, 1, 44, 45, 46, 47, 48, 49, 50, 51, 52, 53, 54, 55] (by decide +kernel) (by decide +kernel)
set_option maxRecDepth 20000 in
theorem gX7_count_X7_stands : GoodIn wsX7_count (wsV RX7 40 RX7 yX7_stands wsX7_stands) := goodIn_app (goodIn_of _ (by decide +kernel)) ggX7_count_X7_stands
theorem dX7_count_0 : decode cX7_count 0 = .ok (.iload_n 1, 1) := by decide +kernel
theorem dX7_count_1 : decode cX7_count 1 = .ok (.tableswitch 189 0 18 #[91, 98, 103, 108, 113, 121, 127, 127, 135, 140, 145, 150, 155, 155, 155, 155, 165, 165, 177], 91) := by decide +kernel
theorem dX7_count_92 : decode cX7_count 92 = .ok (.aload_n 0, 1) := by decide +kernel
theorem dX7_count_93 : decode cX7_count 93 = .ok (.getfield 7, 3) := by decide +kernel
theorem dX7_count_96 : decode cX7_count 96 = .ok (.iconst 4, 1) := by decide +kernel
theorem dX7_count_97 : decode cX7_count 97 = .ok (.iaload, 1) := by decide +kernel
theorem dX7_count_98 : decode cX7_count 98 = .ok (.ireturn, 1) := by decide +kernel
theorem dX7_count_99 : decode cX7_count 99 = .ok (.aload_n 0, 1) := by decide +kernel
theorem dX7_count_100 : decode cX7_count 100 = .ok (.invokevirtual 29, 3) := by decide +kernel
theorem dX7_count_103 : decode cX7_count 103 = .ok (.ireturn, 1) := by decide +kernel
theorem dX7_count_104 : decode cX7_count 104 = .ok (.aload_n 0, 1) := by decide +kernel
theorem dX7_count_105 : decode cX7_count 105 = .ok (.invokevirtual 33, 3) := by decide +kernel
theorem dX7_count_108 : decode cX7_count 108 = .ok (.ireturn, 1) := by decide +kernel
theorem dX7_count_109 : decode cX7_count 109 = .ok (.aload_n 0, 1) := by decide +kernel
theorem dX7_count_110 : decode cX7_count 110 = .ok (.invokevirtual 110, 3) := by decide +kernel
theorem dX7_count_113 : decode cX7_count 113 = .ok (.ireturn, 1) := by decide +kernel
theorem dX7_count_114 : decode cX7_count 114 = .ok (.aload_n 0, 1) := by decide +kernel
theorem dX7_count_115 : decode cX7_count 115 = .ok (.getfield 7, 3) := by decide +kernel
theorem dX7_count_118 : decode cX7_count 118 = .ok (.bipush 7, 2) := by decide +kernel
theorem dX7_count_120 : decode cX7_count 120 = .ok (.iaload, 1) := by decide +kernel
theorem dX7_count_121 : decode cX7_count 121 = .ok (.ireturn, 1) := by decide +kernel
theorem dX7_count_122 : decode cX7_count 122 = .ok (.aload_n 0, 1) := by decide +kernel
theorem dX7_count_123 : decode cX7_count 123 = .ok (.iconst 0, 1) := by decide +kernel
theorem dX7_count_124 : decode cX7_count 124 = .ok (.invokevirtual 113, 3) := by decide +kernel
theorem dX7_count_127 : decode cX7_count 127 = .ok (.ireturn, 1) := by decide +kernel
theorem dX7_count_128 : decode cX7_count 128 = .ok (.aload_n 0, 1) := by decide +kernel
theorem dX7_count_129 : decode cX7_count 129 = .ok (.iload_n 1, 1) := by decide +kernel
theorem dX7_count_130 : decode cX7_count 130 = .ok (.iconst 4, 1) := by decide +kernel
theorem dX7_count_131 : decode cX7_count 131 = .ok (.isub, 1) := by decide +kernel
theorem dX7_count_132 : decode cX7_count 132 = .ok (.invokevirtual 113, 3) := by decide +kernel
theorem dX7_count_135 : decode cX7_count 135 = .ok (.ireturn, 1) := by decide +kernel
theorem dX7_count_136 : decode cX7_count 136 = .ok (.aload_n 0, 1) := by decide +kernel
theorem dX7_count_137 : decode cX7_count 137 = .ok (.invokevirtual 107, 3) := by decide +kernel
theorem dX7_count_140 : decode cX7_count 140 = .ok (.ireturn, 1) := by decide +kernel
theorem dX7_count_141 : decode cX7_count 141 = .ok (.aload_n 0, 1) := by decide +kernel
theorem dX7_count_142 : decode cX7_count 142 = .ok (.invokevirtual 116, 3) := by decide +kernel
theorem dX7_count_145 : decode cX7_count 145 = .ok (.ireturn, 1) := by decide +kernel
theorem dX7_count_146 : decode cX7_count 146 = .ok (.aload_n 0, 1) := by decide +kernel
theorem dX7_count_147 : decode cX7_count 147 = .ok (.getfield 25, 3) := by decide +kernel
theorem dX7_count_150 : decode cX7_count 150 = .ok (.ireturn, 1) := by decide +kernel
theorem dX7_count_151 : decode cX7_count 151 = .ok (.aload_n 0, 1) := by decide +kernel
theorem dX7_count_152 : decode cX7_count 152 = .ok (.getfield 119, 3) := by decide +kernel
theorem dX7_count_155 : decode cX7_count 155 = .ok (.ireturn, 1) := by decide +kernel
theorem dX7_count_156 : decode cX7_count 156 = .ok (.aload_n 0, 1) := by decide +kernel
theorem dX7_count_157 : decode cX7_count 157 = .ok (.getfield 7, 3) := by decide +kernel
theorem dX7_count_160 : decode cX7_count 160 = .ok (.iload_n 1, 1) := by decide +kernel
theorem dX7_count_161 : decode cX7_count 161 = .ok (.bipush 12, 2) := by decide +kernel
theorem dX7_count_163 : decode cX7_count 163 = .ok (.isub, 1) := by decide +kernel
theorem dX7_count_164 : decode cX7_count 164 = .ok (.iaload, 1) := by decide +kernel
theorem dX7_count_165 : decode cX7_count 165 = .ok (.ireturn, 1) := by decide +kernel
theorem dX7_count_166 : decode cX7_count 166 = .ok (.aload_n 0, 1) := by decide +kernel
theorem dX7_count_167 : decode cX7_count 167 = .ok (.getfield 7, 3) := by decide +kernel
theorem dX7_count_170 : decode cX7_count 170 = .ok (.iconst 5, 1) := by decide +kernel
theorem dX7_count_171 : decode cX7_count 171 = .ok (.iload_n 1, 1) := by decide +kernel
theorem dX7_count_172 : decode cX7_count 172 = .ok (.iadd, 1) := by decide +kernel
theorem dX7_count_173 : decode cX7_count 173 = .ok (.bipush 16, 2) := by decide +kernel
theorem dX7_count_175 : decode cX7_count 175 = .ok (.isub, 1) := by decide +kernel
theorem dX7_count_176 : decode cX7_count 176 = .ok (.iaload, 1) := by decide +kernel
theorem dX7_count_177 : decode cX7_count 177 = .ok (.ireturn, 1) := by decide +kernel
theorem dX7_count_178 : decode cX7_count 178 = .ok (.aload_n 0, 1) := by decide +kernel
theorem dX7_count_179 : decode cX7_count 179 = .ok (.iconst 0, 1) := by decide +kernel
theorem dX7_count_180 : decode cX7_count 180 = .ok (.invokevirtual 40, 3) := by decide +kernel
theorem dX7_count_183 : decode cX7_count 183 = .ok (.ldc 76, 2) := by decide +kernel
theorem dX7_count_185 : decode cX7_count 185 = .ok (.iadd, 1) := by decide +kernel
theorem dX7_count_186 : decode cX7_count 186 = .ok (.ldc 76, 2) := by decide +kernel
theorem dX7_count_188 : decode cX7_count 188 = .ok (.irem, 1) := by decide +kernel
theorem dX7_count_189 : decode cX7_count 189 = .ok (.ireturn, 1) := by decide +kernel
theorem dX7_count_190 : decode cX7_count 190 = .ok (.ldc 96, 2) := by decide +kernel
theorem dX7_count_192 : decode cX7_count 192 = .ok (.ireturn, 1) := by decide +kernel
set_option maxRecDepth 20000 in
theorem ggX7_axis_X7_in : GoodIn wsX7_axis wsX7_in := goodIn_r _ [5] (by decide +kernel) (by decide +kernel)
set_option maxRecDepth 20000 in
theorem gX7_axis_X7_in : GoodIn wsX7_axis (va_wsS RX7 54 yX7_in wsX7_in) := goodIn_app (goodIn_of _ (by decide +kernel)) ggX7_axis_X7_in
set_option maxRecDepth 20000 in
theorem ggX7_axis_X7_ofAxis : GoodIn wsX7_axis wsX7_ofAxis := goodIn_r _ [9, 10, 15, 16, 17, 18, 19, 20, 21, 22, 23, 24, 25, 26] (by decide +kernel) (by decide +kernel)
set_option maxRecDepth 20000 in
theorem gX7_axis_X7_ofAxis : GoodIn wsX7_axis (wsV RX7 36 RX7 yX7_ofAxis wsX7_ofAxis) := goodIn_app (goodIn_of _ (by decide +kernel)) ggX7_axis_X7_ofAxis
set_option maxRecDepth 20000 in
theorem ggX7_axis_X7_stands : GoodIn wsX7_axis wsX7_stands := goodIn_r _ [14, 6, 7, 8, 4, 9, 10, 15, 16, 17, 18, 19, 20, 21, 22, 23, 24, 25, 26] (by decide +kernel) (by decide +kernel)
set_option maxRecDepth 20000 in
theorem gX7_axis_X7_stands : GoodIn wsX7_axis (wsV RX7 40 RX7 yX7_stands wsX7_stands) := goodIn_app (goodIn_of _ (by decide +kernel)) ggX7_axis_X7_stands
theorem dX7_axis_0 : decode cX7_axis 0 = .ok (.iload_n 1, 1) := by decide +kernel
theorem dX7_axis_1 : decode cX7_axis 1 = .ok (.iconst 0, 1) := by decide +kernel
theorem dX7_axis_2 : decode cX7_axis 2 = .ok (.iconst 1, 1) := by decide +kernel
theorem dX7_axis_3 : decode cX7_axis 3 = .ok (.invokestatic 54, 3) := by decide +kernel
theorem dX7_axis_6 : decode cX7_axis 6 = .ok (.ifCond .eq 13, 3) := by decide +kernel
theorem dX7_axis_9 : decode cX7_axis 9 = .ok (.iload_n 2, 1) := by decide +kernel
theorem dX7_axis_10 : decode cX7_axis 10 = .ok (.iconst 0, 1) := by decide +kernel
theorem dX7_axis_11 : decode cX7_axis 11 = .ok (.bipush 8, 2) := by decide +kernel
theorem dX7_axis_13 : decode cX7_axis 13 = .ok (.invokestatic 54, 3) := by decide +kernel
theorem dX7_axis_16 : decode cX7_axis 16 = .ok (.ifCond .ne 6, 3) := by decide +kernel
theorem dX7_axis_19 : decode cX7_axis 19 = .ok (.ldc 96, 2) := by decide +kernel
theorem dX7_axis_21 : decode cX7_axis 21 = .ok (.ireturn, 1) := by decide +kernel
theorem dX7_axis_22 : decode cX7_axis 22 = .ok (.iload_n 2, 1) := by decide +kernel
theorem dX7_axis_23 : decode cX7_axis 23 = .ok (.iconst 5, 1) := by decide +kernel
theorem dX7_axis_24 : decode cX7_axis 24 = .ok (.if_icmp .ge 10, 3) := by decide +kernel
theorem dX7_axis_27 : decode cX7_axis 27 = .ok (.aload_n 0, 1) := by decide +kernel
theorem dX7_axis_28 : decode cX7_axis 28 = .ok (.iload_n 1, 1) := by decide +kernel
theorem dX7_axis_29 : decode cX7_axis 29 = .ok (.iload_n 2, 1) := by decide +kernel
theorem dX7_axis_30 : decode cX7_axis 30 = .ok (.invokevirtual 36, 3) := by decide +kernel
theorem dX7_axis_33 : decode cX7_axis 33 = .ok (.ireturn, 1) := by decide +kernel
theorem dX7_axis_34 : decode cX7_axis 34 = .ok (.iload_n 2, 1) := by decide +kernel
theorem dX7_axis_35 : decode cX7_axis 35 = .ok (.iconst 5, 1) := by decide +kernel
theorem dX7_axis_36 : decode cX7_axis 36 = .ok (.if_icmp .ne 11, 3) := by decide +kernel
theorem dX7_axis_39 : decode cX7_axis 39 = .ok (.aload_n 0, 1) := by decide +kernel
theorem dX7_axis_40 : decode cX7_axis 40 = .ok (.iload_n 1, 1) := by decide +kernel
theorem dX7_axis_41 : decode cX7_axis 41 = .ok (.invokevirtual 40, 3) := by decide +kernel
theorem dX7_axis_44 : decode cX7_axis 44 = .ok (.goto 46, 3) := by decide +kernel
theorem dX7_axis_47 : decode cX7_axis 47 = .ok (.iload_n 2, 1) := by decide +kernel
theorem dX7_axis_48 : decode cX7_axis 48 = .ok (.bipush 8, 2) := by decide +kernel
theorem dX7_axis_50 : decode cX7_axis 50 = .ok (.if_icmp .ge 14, 3) := by decide +kernel
theorem dX7_axis_53 : decode cX7_axis 53 = .ok (.aload_n 0, 1) := by decide +kernel
theorem dX7_axis_54 : decode cX7_axis 54 = .ok (.iload_n 1, 1) := by decide +kernel
theorem dX7_axis_55 : decode cX7_axis 55 = .ok (.iload_n 2, 1) := by decide +kernel
theorem dX7_axis_56 : decode cX7_axis 56 = .ok (.iconst 1, 1) := by decide +kernel
theorem dX7_axis_57 : decode cX7_axis 57 = .ok (.isub, 1) := by decide +kernel
theorem dX7_axis_58 : decode cX7_axis 58 = .ok (.invokevirtual 36, 3) := by decide +kernel
theorem dX7_axis_61 : decode cX7_axis 61 = .ok (.goto 29, 3) := by decide +kernel
theorem dX7_axis_64 : decode cX7_axis 64 = .ok (.iload_n 1, 1) := by decide +kernel
theorem dX7_axis_65 : decode cX7_axis 65 = .ok (.ifCond .ne 7, 3) := by decide +kernel
theorem dX7_axis_68 : decode cX7_axis 68 = .ok (.iconst 0, 1) := by decide +kernel
theorem dX7_axis_69 : decode cX7_axis 69 = .ok (.goto 6, 3) := by decide +kernel
theorem dX7_axis_72 : decode cX7_axis 72 = .ok (.sipush 9000, 3) := by decide +kernel
theorem dX7_axis_75 : decode cX7_axis 75 = .ok (.aload_n 0, 1) := by decide +kernel
theorem dX7_axis_76 : decode cX7_axis 76 = .ok (.iload_n 1, 1) := by decide +kernel
theorem dX7_axis_77 : decode cX7_axis 77 = .ok (.iconst 5, 1) := by decide +kernel
theorem dX7_axis_78 : decode cX7_axis 78 = .ok (.invokevirtual 36, 3) := by decide +kernel
theorem dX7_axis_81 : decode cX7_axis 81 = .ok (.iadd, 1) := by decide +kernel
theorem dX7_axis_82 : decode cX7_axis 82 = .ok (.aload_n 0, 1) := by decide +kernel
theorem dX7_axis_83 : decode cX7_axis 83 = .ok (.iload_n 1, 1) := by decide +kernel
theorem dX7_axis_84 : decode cX7_axis 84 = .ok (.bipush 6, 2) := by decide +kernel
theorem dX7_axis_86 : decode cX7_axis 86 = .ok (.invokevirtual 36, 3) := by decide +kernel
theorem dX7_axis_89 : decode cX7_axis 89 = .ok (.isub, 1) := by decide +kernel
theorem dX7_axis_90 : decode cX7_axis 90 = .ok (.ireturn, 1) := by decide +kernel
set_option maxRecDepth 20000 in
theorem ggX7_way_X7_in : GoodIn wsX7_way wsX7_in := goodIn_r _ [9] (by decide +kernel) (by decide +kernel)
set_option maxRecDepth 20000 in
theorem gX7_way_X7_in : GoodIn wsX7_way (va_wsS RX7 54 yX7_in wsX7_in) := goodIn_app (goodIn_of _ (by decide +kernel)) ggX7_way_X7_in
set_option maxRecDepth 20000 in
theorem ggX7_way_X7_isPossible : GoodIn wsX7_way wsX7_isPossible := goodIn_r _ [13, 3, 4, 5, 14, 15, 16, 8, 17, 18, 19, 20, 21, 22, 23, 24, 25, 26, 27, 28, 29, 30, 6, 7, 9, 42, 43, 44, 45, 46, 47, 48, 49, 50, 51, 52, 53] (by decide +kernel) (by decide +kernel)
set_option maxRecDepth 20000 in
theorem gX7_way_X7_isPossible : GoodIn wsX7_way (wsV RX7 77 RX7 yX7_isPossible wsX7_isPossible) := goodIn_app (goodIn_of _ (by decide +kernel)) ggX7_way_X7_isPossible
set_option maxRecDepth 20000 in
theorem ggX7_way_X7_lengthOf : GoodIn wsX7_way wsX7_lengthOf := goodIn_r _ [34, 4, 5, 3, 14, 15, 16, 8, 17, 18, 19, 20, 21, 22, 23, 24, 25, 26, 35, 36, 37, 42, 43, 44, 45, 46, 47, 48, 49, 50, 51, 52, 53] (by decide +kernel) (by decide +kernel)
set_option maxRecDepth 20000 in
theorem gX7_way_X7_lengthOf : GoodIn wsX7_way (wsV RX7 69 RX7 yX7_lengthOf wsX7_lengthOf) := goodIn_app (goodIn_of _ (by decide +kernel)) ggX7_way_X7_lengthOf
set_option maxRecDepth 20000 in
theorem ggX7_way_X7_timeOf : GoodIn wsX7_way wsX7_timeOf := goodIn_r _ [41, 23, 24, 25, 8, 26, 18, 31, 32, 33, 34, 4, 5, 3, 14, 15, 16, 17, 19, 20, 21, 22, 35, 36, 37, 42, 43, 44, 45, 46, 47, 48, 49, 50, 51, 52, 53] (by decide +kernel) (by decide +kernel)
set_option maxRecDepth 20000 in
theorem gX7_way_X7_timeOf : GoodIn wsX7_way (wsV RX7 87 RX7 yX7_timeOf wsX7_timeOf) := goodIn_app (goodIn_of _ (by decide +kernel)) ggX7_way_X7_timeOf
theorem dX7_way_0 : decode cX7_way 0 = .ok (.iload_n 1, 1) := by decide +kernel
theorem dX7_way_1 : decode cX7_way 1 = .ok (.iconst 0, 1) := by decide +kernel
theorem dX7_way_2 : decode cX7_way 2 = .ok (.iconst 1, 1) := by decide +kernel
theorem dX7_way_3 : decode cX7_way 3 = .ok (.invokestatic 54, 3) := by decide +kernel
theorem dX7_way_6 : decode cX7_way 6 = .ok (.ifCond .eq 25, 3) := by decide +kernel
theorem dX7_way_9 : decode cX7_way 9 = .ok (.iload_n 2, 1) := by decide +kernel
theorem dX7_way_10 : decode cX7_way 10 = .ok (.sipush (-27000), 3) := by decide +kernel
theorem dX7_way_13 : decode cX7_way 13 = .ok (.sipush 27000, 3) := by decide +kernel
theorem dX7_way_16 : decode cX7_way 16 = .ok (.invokestatic 54, 3) := by decide +kernel
theorem dX7_way_19 : decode cX7_way 19 = .ok (.ifCond .eq 12, 3) := by decide +kernel
theorem dX7_way_22 : decode cX7_way 22 = .ok (.iload_n 3, 1) := by decide +kernel
theorem dX7_way_23 : decode cX7_way 23 = .ok (.iconst 0, 1) := by decide +kernel
theorem dX7_way_24 : decode cX7_way 24 = .ok (.iconst 3, 1) := by decide +kernel
theorem dX7_way_25 : decode cX7_way 25 = .ok (.invokestatic 54, 3) := by decide +kernel
theorem dX7_way_28 : decode cX7_way 28 = .ok (.ifCond .ne 6, 3) := by decide +kernel
theorem dX7_way_31 : decode cX7_way 31 = .ok (.ldc 96, 2) := by decide +kernel
theorem dX7_way_33 : decode cX7_way 33 = .ok (.ireturn, 1) := by decide +kernel
theorem dX7_way_34 : decode cX7_way 34 = .ok (.aload_n 0, 1) := by decide +kernel
theorem dX7_way_35 : decode cX7_way 35 = .ok (.iload_n 1, 1) := by decide +kernel
theorem dX7_way_36 : decode cX7_way 36 = .ok (.iload_n 2, 1) := by decide +kernel
theorem dX7_way_37 : decode cX7_way 37 = .ok (.invokevirtual 77, 3) := by decide +kernel
theorem dX7_way_40 : decode cX7_way 40 = .ok (.ifCond .ne 6, 3) := by decide +kernel
theorem dX7_way_43 : decode cX7_way 43 = .ok (.ldc 80, 2) := by decide +kernel
theorem dX7_way_45 : decode cX7_way 45 = .ok (.ireturn, 1) := by decide +kernel
theorem dX7_way_46 : decode cX7_way 46 = .ok (.iload_n 3, 1) := by decide +kernel
theorem dX7_way_47 : decode cX7_way 47 = .ok (.ifCond .ne 8, 3) := by decide +kernel
theorem dX7_way_50 : decode cX7_way 50 = .ok (.aload_n 0, 1) := by decide +kernel
theorem dX7_way_51 : decode cX7_way 51 = .ok (.getfield 48, 3) := by decide +kernel
theorem dX7_way_54 : decode cX7_way 54 = .ok (.ireturn, 1) := by decide +kernel
theorem dX7_way_55 : decode cX7_way 55 = .ok (.iload_n 3, 1) := by decide +kernel
theorem dX7_way_56 : decode cX7_way 56 = .ok (.iconst 3, 1) := by decide +kernel
theorem dX7_way_57 : decode cX7_way 57 = .ok (.if_icmp .ne 20, 3) := by decide +kernel
theorem dX7_way_60 : decode cX7_way 60 = .ok (.aload_n 0, 1) := by decide +kernel
theorem dX7_way_61 : decode cX7_way 61 = .ok (.getfield 44, 3) := by decide +kernel
theorem dX7_way_64 : decode cX7_way 64 = .ok (.ifCond .eq 10, 3) := by decide +kernel
theorem dX7_way_67 : decode cX7_way 67 = .ok (.aload_n 0, 1) := by decide +kernel
theorem dX7_way_68 : decode cX7_way 68 = .ok (.getfield 51, 3) := by decide +kernel
theorem dX7_way_71 : decode cX7_way 71 = .ok (.goto 5, 3) := by decide +kernel
theorem dX7_way_74 : decode cX7_way 74 = .ok (.ldc 80, 2) := by decide +kernel
theorem dX7_way_76 : decode cX7_way 76 = .ok (.ireturn, 1) := by decide +kernel
theorem dX7_way_77 : decode cX7_way 77 = .ok (.iload_n 3, 1) := by decide +kernel
theorem dX7_way_78 : decode cX7_way 78 = .ok (.iconst 1, 1) := by decide +kernel
theorem dX7_way_79 : decode cX7_way 79 = .ok (.if_icmp .ne 12, 3) := by decide +kernel
theorem dX7_way_82 : decode cX7_way 82 = .ok (.aload_n 0, 1) := by decide +kernel
theorem dX7_way_83 : decode cX7_way 83 = .ok (.iload_n 1, 1) := by decide +kernel
theorem dX7_way_84 : decode cX7_way 84 = .ok (.iload_n 2, 1) := by decide +kernel
theorem dX7_way_85 : decode cX7_way 85 = .ok (.invokevirtual 69, 3) := by decide +kernel
theorem dX7_way_88 : decode cX7_way 88 = .ok (.goto 9, 3) := by decide +kernel
theorem dX7_way_91 : decode cX7_way 91 = .ok (.aload_n 0, 1) := by decide +kernel
theorem dX7_way_92 : decode cX7_way 92 = .ok (.iload_n 1, 1) := by decide +kernel
theorem dX7_way_93 : decode cX7_way 93 = .ok (.iload_n 2, 1) := by decide +kernel
theorem dX7_way_94 : decode cX7_way 94 = .ok (.invokevirtual 87, 3) := by decide +kernel
theorem dX7_way_97 : decode cX7_way 97 = .ok (.ireturn, 1) := by decide +kernel
set_option maxRecDepth 20000 in
theorem ggX7_placeFor_X7_in : GoodIn wsX7_placeFor wsX7_in := goodIn_r _ [6] (by decide +kernel) (by decide +kernel)
set_option maxRecDepth 20000 in
theorem gX7_placeFor_X7_in : GoodIn wsX7_placeFor (va_wsS RX7 54 yX7_in wsX7_in) := goodIn_app (goodIn_of _ (by decide +kernel)) ggX7_placeFor_X7_in
set_option maxRecDepth 20000 in
theorem ggX7_placeFor_X7_placeOf : GoodIn wsX7_placeFor wsX7_placeOf := goodIn_r _ [10, 11, 12, 13, 14, 15, 5, 16, 17, 18, 19, 20, 21, 22, 23, 24, 25, 26, 27, 28, 29, 30, 31, 32, 33, 34, 35, 36, 3, 4, 6, 37, 38, 39, 40, 41, 42, 43, 44, 45, 46, 47, 48, 49, 50, 51, 52, 53, 54, 55, 56, 57, 58, 59, 60, 61, 62, 63] (by decide +kernel) (by decide +kernel)
set_option maxRecDepth 20000 in
theorem gX7_placeFor_X7_placeOf : GoodIn wsX7_placeFor (wsV RX7 123 RX7 yX7_placeOf wsX7_placeOf) := goodIn_app (goodIn_of _ (by decide +kernel)) ggX7_placeFor_X7_placeOf
theorem dX7_placeFor_0 : decode cX7_placeFor 0 = .ok (.iload_n 1, 1) := by decide +kernel
theorem dX7_placeFor_1 : decode cX7_placeFor 1 = .ok (.iconst 0, 1) := by decide +kernel
theorem dX7_placeFor_2 : decode cX7_placeFor 2 = .ok (.ldc 122, 2) := by decide +kernel
theorem dX7_placeFor_4 : decode cX7_placeFor 4 = .ok (.invokestatic 54, 3) := by decide +kernel
theorem dX7_placeFor_7 : decode cX7_placeFor 7 = .ok (.ifCond .eq 11, 3) := by decide +kernel
theorem dX7_placeFor_10 : decode cX7_placeFor 10 = .ok (.aload_n 0, 1) := by decide +kernel
theorem dX7_placeFor_11 : decode cX7_placeFor 11 = .ok (.iload_n 1, 1) := by decide +kernel
theorem dX7_placeFor_12 : decode cX7_placeFor 12 = .ok (.invokevirtual 123, 3) := by decide +kernel
theorem dX7_placeFor_15 : decode cX7_placeFor 15 = .ok (.goto 5, 3) := by decide +kernel
theorem dX7_placeFor_18 : decode cX7_placeFor 18 = .ok (.ldc 96, 2) := by decide +kernel
theorem dX7_placeFor_20 : decode cX7_placeFor 20 = .ok (.ireturn, 1) := by decide +kernel
set_option maxRecDepth 20000 in
theorem ggX7_slew_X7_in : GoodIn wsX7_slew wsX7_in := goodIn_r _ [8] (by decide +kernel) (by decide +kernel)
set_option maxRecDepth 20000 in
theorem gX7_slew_X7_in : GoodIn wsX7_slew (va_wsS RX7 54 yX7_in wsX7_in) := goodIn_app (goodIn_of _ (by decide +kernel)) ggX7_slew_X7_in
set_option maxRecDepth 20000 in
theorem ggX7_slew_X7_underWay : GoodIn wsX7_slew wsX7_underWay := goodIn_r _ [12, 13, 3, 14, 15, 16, 7, 17, 95, 96, 97, 98, 99, 100, 101, 102, 103, 104, 105, 106] (by decide +kernel) (by decide +kernel)
set_option maxRecDepth 20000 in
theorem gX7_slew_X7_underWay : GoodIn wsX7_slew (wsV RX7 107 RX7 yX7_underWay wsX7_underWay) := goodIn_app (goodIn_of _ (by decide +kernel)) ggX7_slew_X7_underWay
set_option maxRecDepth 20000 in
theorem ggX7_slew_X7_kindOfDay : GoodIn wsX7_slew wsX7_kindOfDay := goodIn_r _ [21, 13, 22, 23, 24, 7, 25, 26, 27, 28, 29, 95, 96, 97, 98, 99, 100, 101, 102, 103, 104, 105, 106] (by decide +kernel) (by decide +kernel)
set_option maxRecDepth 20000 in
theorem gX7_slew_X7_kindOfDay : GoodIn wsX7_slew (wsV RX7 110 RX7 yX7_kindOfDay wsX7_kindOfDay) := goodIn_app (goodIn_of _ (by decide +kernel)) ggX7_slew_X7_kindOfDay
set_option maxRecDepth 20000 in
theorem ggX7_slew_X7_isPossible : GoodIn wsX7_slew wsX7_isPossible := goodIn_r _ [33, 34, 35, 36, 37, 38, 39, 7, 40, 13, 41, 42, 43, 44, 45, 46, 47, 48, 49, 50, 51, 52, 5, 6, 8, 95, 96, 97, 98, 99, 100, 101, 102, 103, 104, 105, 106] (by decide +kernel) (by decide +kernel)
set_option maxRecDepth 20000 in
theorem gX7_slew_X7_isPossible : GoodIn wsX7_slew (wsV RX7 77 RX7 yX7_isPossible wsX7_isPossible) := goodIn_app (goodIn_of _ (by decide +kernel)) ggX7_slew_X7_isPossible
set_option maxRecDepth 20000 in
theorem ggX7_slew_X7_placeOf : GoodIn wsX7_slew wsX7_placeOf := goodIn_r _ [56, 57, 3, 30, 31, 32, 7, 33, 34, 35, 36, 37, 38, 39, 40, 13, 41, 42, 43, 44, 45, 46, 47, 48, 49, 50, 51, 52, 5, 6, 8, 58, 59, 60, 61, 62, 63, 64, 65, 66, 67, 68, 69, 70, 71, 72, 95, 96, 97, 98, 99, 100, 101, 102, 103, 104, 105, 106] (by decide +kernel) (by decide +kernel)
set_option maxRecDepth 20000 in
theorem gX7_slew_X7_placeOf : GoodIn wsX7_slew (wsV RX7 123 RX7 yX7_placeOf wsX7_placeOf) := goodIn_app (goodIn_of _ (by decide +kernel)) ggX7_slew_X7_placeOf
set_option maxRecDepth 20000 in
theorem ggX7_slew_X7_records : GoodIn wsX7_slew wsX7_records := goodIn_r _ [76, 77, 78, 13, 95, 96, 97, 98, 99, 100, 101, 102, 103, 104, 105, 106] (by decide +kernel) (by decide +kernel)
set_option maxRecDepth 20000 in
theorem gX7_slew_X7_records : GoodIn wsX7_slew (wsV RX7 97 RX7 yX7_records wsX7_records) := goodIn_app (goodIn_of _ (by decide +kernel)) ggX7_slew_X7_records
set_option maxRecDepth 20000 in
theorem ggX7_slew_X7_slews : GoodIn wsX7_slew wsX7_slews := goodIn_r _ [82, 13, 83, 84, 85, 7, 86, 45, 46, 47, 48, 66, 67, 68, 69, 35, 36, 34, 37, 38, 39, 40, 41, 42, 43, 44, 70, 71, 72, 87, 88, 89, 90, 91, 92, 93, 94, 95, 96, 97, 98, 99, 100, 101, 102, 103, 104, 105, 106] (by decide +kernel) (by decide +kernel)
set_option maxRecDepth 20000 in
theorem gX7_slew_X7_slews : GoodIn wsX7_slew (wsV RX7 126 RX7 yX7_slews wsX7_slews) := goodIn_app (goodIn_of _ (by decide +kernel)) ggX7_slew_X7_slews
theorem dX7_slew_0 : decode cX7_slew 0 = .ok (.iload_n 1, 1) := by decide +kernel
theorem dX7_slew_1 : decode cX7_slew 1 = .ok (.iconst 0, 1) := by decide +kernel
theorem dX7_slew_2 : decode cX7_slew 2 = .ok (.ldc 122, 2) := by decide +kernel
theorem dX7_slew_4 : decode cX7_slew 4 = .ok (.invokestatic 54, 3) := by decide +kernel
theorem dX7_slew_7 : decode cX7_slew 7 = .ok (.ifCond .eq 16, 3) := by decide +kernel
theorem dX7_slew_10 : decode cX7_slew 10 = .ok (.iload_n 2, 1) := by decide +kernel
theorem dX7_slew_11 : decode cX7_slew 11 = .ok (.sipush 500, 3) := by decide +kernel
theorem dX7_slew_14 : decode cX7_slew 14 = .ok (.sipush 9000, 3) := by decide +kernel
theorem dX7_slew_17 : decode cX7_slew 17 = .ok (.invokestatic 54, 3) := by decide +kernel
theorem dX7_slew_20 : decode cX7_slew 20 = .ok (.ifCond .ne 6, 3) := by decide +kernel
theorem dX7_slew_23 : decode cX7_slew 23 = .ok (.ldc 96, 2) := by decide +kernel
theorem dX7_slew_25 : decode cX7_slew 25 = .ok (.ireturn, 1) := by decide +kernel
theorem dX7_slew_26 : decode cX7_slew 26 = .ok (.aload_n 0, 1) := by decide +kernel
theorem dX7_slew_27 : decode cX7_slew 27 = .ok (.invokevirtual 107, 3) := by decide +kernel
theorem dX7_slew_30 : decode cX7_slew 30 = .ok (.ldc 80, 2) := by decide +kernel
theorem dX7_slew_32 : decode cX7_slew 32 = .ok (.if_icmp .ne 29, 3) := by decide +kernel
theorem dX7_slew_35 : decode cX7_slew 35 = .ok (.aload_n 0, 1) := by decide +kernel
theorem dX7_slew_36 : decode cX7_slew 36 = .ok (.invokevirtual 110, 3) := by decide +kernel
theorem dX7_slew_39 : decode cX7_slew 39 = .ok (.ifCond .eq 22, 3) := by decide +kernel
theorem dX7_slew_42 : decode cX7_slew 42 = .ok (.aload_n 0, 1) := by decide +kernel
theorem dX7_slew_43 : decode cX7_slew 43 = .ok (.iconst 1, 1) := by decide +kernel
theorem dX7_slew_44 : decode cX7_slew 44 = .ok (.iload_n 2, 1) := by decide +kernel
theorem dX7_slew_45 : decode cX7_slew 45 = .ok (.invokevirtual 77, 3) := by decide +kernel
theorem dX7_slew_48 : decode cX7_slew 48 = .ok (.ifCond .eq 13, 3) := by decide +kernel
theorem dX7_slew_51 : decode cX7_slew 51 = .ok (.aload_n 0, 1) := by decide +kernel
theorem dX7_slew_52 : decode cX7_slew 52 = .ok (.iload_n 1, 1) := by decide +kernel
theorem dX7_slew_53 : decode cX7_slew 53 = .ok (.invokevirtual 123, 3) := by decide +kernel
theorem dX7_slew_56 : decode cX7_slew 56 = .ok (.ldc 80, 2) := by decide +kernel
theorem dX7_slew_58 : decode cX7_slew 58 = .ok (.if_icmp .ne 6, 3) := by decide +kernel
theorem dX7_slew_61 : decode cX7_slew 61 = .ok (.ldc 103, 2) := by decide +kernel
theorem dX7_slew_63 : decode cX7_slew 63 = .ok (.ireturn, 1) := by decide +kernel
theorem dX7_slew_64 : decode cX7_slew 64 = .ok (.aload_n 0, 1) := by decide +kernel
theorem dX7_slew_65 : decode cX7_slew 65 = .ok (.invokevirtual 97, 3) := by decide +kernel
theorem dX7_slew_68 : decode cX7_slew 68 = .ok (.aload_n 0, 1) := by decide +kernel
theorem dX7_slew_69 : decode cX7_slew 69 = .ok (.aload_n 0, 1) := by decide +kernel
theorem dX7_slew_70 : decode cX7_slew 70 = .ok (.iload_n 1, 1) := by decide +kernel
theorem dX7_slew_71 : decode cX7_slew 71 = .ok (.invokevirtual 123, 3) := by decide +kernel
theorem dX7_slew_74 : decode cX7_slew 74 = .ok (.iload_n 2, 1) := by decide +kernel
theorem dX7_slew_75 : decode cX7_slew 75 = .ok (.invokevirtual 126, 3) := by decide +kernel
theorem dX7_slew_78 : decode cX7_slew 78 = .ok (.ireturn, 1) := by decide +kernel
set_option maxRecDepth 20000 in
theorem ggX7_isWound_X7_ofAxis : GoodIn wsX7_isWound wsX7_ofAxis := goodIn_r _ [5, 6, 14, 15, 16, 17, 18, 19, 20, 21, 22, 23, 24, 25] (by decide +kernel) (by decide +kernel)
set_option maxRecDepth 20000 in
theorem gX7_isWound_X7_ofAxis : GoodIn wsX7_isWound (wsV RX7 36 RX7 yX7_ofAxis wsX7_ofAxis) := goodIn_app (goodIn_of _ (by decide +kernel)) ggX7_isWound_X7_ofAxis
set_option maxRecDepth 20000 in
theorem ggX7_isWound_X7_isCalm : GoodIn wsX7_isWound wsX7_isCalm := goodIn_r _ [10, 6, 11, 12, 4, 13, 14, 15, 16, 17, 18, 19, 20, 21, 22, 23, 24, 25] (by decide +kernel) (by decide +kernel)
set_option maxRecDepth 20000 in
theorem gX7_isWound_X7_isCalm : GoodIn wsX7_isWound (wsV RX7 72 RX7 yX7_isCalm wsX7_isCalm) := goodIn_app (goodIn_of _ (by decide +kernel)) ggX7_isWound_X7_isCalm
theorem dX7_isWound_0 : decode cX7_isWound 0 = .ok (.aload_n 0, 1) := by decide +kernel
theorem dX7_isWound_1 : decode cX7_isWound 1 = .ok (.aload_n 0, 1) := by decide +kernel
theorem dX7_isWound_2 : decode cX7_isWound 2 = .ok (.iconst 0, 1) := by decide +kernel
theorem dX7_isWound_3 : decode cX7_isWound 3 = .ok (.iconst 3, 1) := by decide +kernel
theorem dX7_isWound_4 : decode cX7_isWound 4 = .ok (.invokevirtual 36, 3) := by decide +kernel
theorem dX7_isWound_7 : decode cX7_isWound 7 = .ok (.invokevirtual 72, 3) := by decide +kernel
theorem dX7_isWound_10 : decode cX7_isWound 10 = .ok (.ifCond .eq 7, 3) := by decide +kernel
theorem dX7_isWound_13 : decode cX7_isWound 13 = .ok (.iconst 0, 1) := by decide +kernel
theorem dX7_isWound_14 : decode cX7_isWound 14 = .ok (.goto 4, 3) := by decide +kernel
theorem dX7_isWound_17 : decode cX7_isWound 17 = .ok (.iconst 1, 1) := by decide +kernel
theorem dX7_isWound_18 : decode cX7_isWound 18 = .ok (.ireturn, 1) := by decide +kernel
set_option maxRecDepth 20000 in
theorem ggX7_isWindow_X7_in : GoodIn wsX7_isWindow wsX7_in := goodIn_r _ [5] (by decide +kernel) (by decide +kernel)
set_option maxRecDepth 20000 in
theorem gX7_isWindow_X7_in : GoodIn wsX7_isWindow (va_wsS RX7 54 yX7_in wsX7_in) := goodIn_app (goodIn_of _ (by decide +kernel)) ggX7_isWindow_X7_in
theorem dX7_isWindow_0 : decode cX7_isWindow 0 = .ok (.iload_n 0, 1) := by decide +kernel
theorem dX7_isWindow_1 : decode cX7_isWindow 1 = .ok (.iconst 0, 1) := by decide +kernel
theorem dX7_isWindow_2 : decode cX7_isWindow 2 = .ok (.ldc 129, 2) := by decide +kernel
theorem dX7_isWindow_4 : decode cX7_isWindow 4 = .ok (.invokestatic 54, 3) := by decide +kernel
theorem dX7_isWindow_7 : decode cX7_isWindow 7 = .ok (.ifCond .eq 22, 3) := by decide +kernel
theorem dX7_isWindow_10 : decode cX7_isWindow 10 = .ok (.iload_n 1, 1) := by decide +kernel
theorem dX7_isWindow_11 : decode cX7_isWindow 11 = .ok (.iconst 0, 1) := by decide +kernel
theorem dX7_isWindow_12 : decode cX7_isWindow 12 = .ok (.ldc 129, 2) := by decide +kernel
theorem dX7_isWindow_14 : decode cX7_isWindow 14 = .ok (.invokestatic 54, 3) := by decide +kernel
theorem dX7_isWindow_17 : decode cX7_isWindow 17 = .ok (.ifCond .eq 12, 3) := by decide +kernel

theorem dX7_isWindow_20 : decode cX7_isWindow 20 = .ok (.iload_n 1, 1) := by decide +kernel
theorem dX7_isWindow_21 : decode cX7_isWindow 21 = .ok (.iload_n 0, 1) := by decide +kernel
theorem dX7_isWindow_22 : decode cX7_isWindow 22 = .ok (.if_icmp .le 7, 3) := by decide +kernel
theorem dX7_isWindow_25 : decode cX7_isWindow 25 = .ok (.iconst 1, 1) := by decide +kernel
theorem dX7_isWindow_26 : decode cX7_isWindow 26 = .ok (.goto 4, 3) := by decide +kernel
theorem dX7_isWindow_29 : decode cX7_isWindow 29 = .ok (.iconst 0, 1) := by decide +kernel
theorem dX7_isWindow_30 : decode cX7_isWindow 30 = .ok (.ireturn, 1) := by decide +kernel
set_option maxRecDepth 20000 in
theorem ggX7_isGood_X7_in : GoodIn wsX7_isGood wsX7_in := goodIn_r _ [5] (by decide +kernel) (by decide +kernel)
set_option maxRecDepth 20000 in
theorem gX7_isGood_X7_in : GoodIn wsX7_isGood (va_wsS RX7 54 yX7_in wsX7_in) := goodIn_app (goodIn_of _ (by decide +kernel)) ggX7_isGood_X7_in
set_option maxRecDepth 20000 in
theorem ggX7_isGood_X7_isWindow : GoodIn wsX7_isGood wsX7_isWindow := goodIn_r _ [8, 9, 2, 3, 4, 5] (by decide +kernel) (by decide +kernel)
set_option maxRecDepth 20000 in
theorem gX7_isGood_X7_isWindow : GoodIn wsX7_isGood (va_wsS RX7 130 yX7_isWindow wsX7_isWindow) := goodIn_app (goodIn_of _ (by decide +kernel)) ggX7_isGood_X7_isWindow
theorem dX7_isGood_0 : decode cX7_isGood 0 = .ok (.iload_n 0, 1) := by decide +kernel
theorem dX7_isGood_1 : decode cX7_isGood 1 = .ok (.iconst 0, 1) := by decide +kernel
theorem dX7_isGood_2 : decode cX7_isGood 2 = .ok (.ldc 122, 2) := by decide +kernel
theorem dX7_isGood_4 : decode cX7_isGood 4 = .ok (.invokestatic 54, 3) := by decide +kernel
theorem dX7_isGood_7 : decode cX7_isGood 7 = .ok (.ifCond .eq 51, 3) := by decide +kernel
theorem dX7_isGood_10 : decode cX7_isGood 10 = .ok (.iload_n 1, 1) := by decide +kernel
theorem dX7_isGood_11 : decode cX7_isGood 11 = .ok (.sipush 500, 3) := by decide +kernel
theorem dX7_isGood_14 : decode cX7_isGood 14 = .ok (.sipush 8500, 3) := by decide +kernel
theorem dX7_isGood_17 : decode cX7_isGood 17 = .ok (.invokestatic 54, 3) := by decide +kernel
theorem dX7_isGood_20 : decode cX7_isGood 20 = .ok (.ifCond .eq 38, 3) := by decide +kernel
theorem dX7_isGood_23 : decode cX7_isGood 23 = .ok (.iload_n 2, 1) := by decide +kernel
theorem dX7_isGood_24 : decode cX7_isGood 24 = .ok (.iload_n 3, 1) := by decide +kernel
theorem dX7_isGood_25 : decode cX7_isGood 25 = .ok (.invokestatic 130, 3) := by decide +kernel
theorem dX7_isGood_28 : decode cX7_isGood 28 = .ok (.ifCond .eq 30, 3) := by decide +kernel
theorem dX7_isGood_31 : decode cX7_isGood 31 = .ok (.iload 4, 2) := by decide +kernel
theorem dX7_isGood_33 : decode cX7_isGood 33 = .ok (.iconst 1, 1) := by decide +kernel
theorem dX7_isGood_34 : decode cX7_isGood 34 = .ok (.sipush 600, 3) := by decide +kernel
theorem dX7_isGood_37 : decode cX7_isGood 37 = .ok (.invokestatic 54, 3) := by decide +kernel
theorem dX7_isGood_40 : decode cX7_isGood 40 = .ok (.ifCond .eq 18, 3) := by decide +kernel
theorem dX7_isGood_43 : decode cX7_isGood 43 = .ok (.iload 5, 2) := by decide +kernel
theorem dX7_isGood_45 : decode cX7_isGood 45 = .ok (.iconst 0, 1) := by decide +kernel
theorem dX7_isGood_46 : decode cX7_isGood 46 = .ok (.bipush 9, 2) := by decide +kernel
theorem dX7_isGood_48 : decode cX7_isGood 48 = .ok (.invokestatic 54, 3) := by decide +kernel
theorem dX7_isGood_51 : decode cX7_isGood 51 = .ok (.ifCond .eq 7, 3) := by decide +kernel
theorem dX7_isGood_54 : decode cX7_isGood 54 = .ok (.iconst 1, 1) := by decide +kernel
theorem dX7_isGood_55 : decode cX7_isGood 55 = .ok (.goto 4, 3) := by decide +kernel
theorem dX7_isGood_58 : decode cX7_isGood 58 = .ok (.iconst 0, 1) := by decide +kernel
theorem dX7_isGood_59 : decode cX7_isGood 59 = .ok (.ireturn, 1) := by decide +kernel
set_option maxRecDepth 20000 in
theorem ggX7_adds_X7_puts : GoodIn wsX7_adds wsX7_puts := goodIn_r _ [6, 1, 7, 8, 9, 10, 11, 12, 13, 14, 15, 16, 17, 18] (by decide +kernel) (by decide +kernel)
set_option maxRecDepth 20000 in
theorem gX7_adds_X7_puts : GoodIn wsX7_adds (wsV RX7 133 RX7 yX7_puts wsX7_puts) := goodIn_app (goodIn_of _ (by decide +kernel)) ggX7_adds_X7_puts
theorem dX7_adds_0 : decode cX7_adds 0 = .ok (.aload_n 0, 1) := by decide +kernel
theorem dX7_adds_1 : decode cX7_adds 1 = .ok (.getfield 7, 3) := by decide +kernel
theorem dX7_adds_4 : decode cX7_adds 4 = .ok (.bipush 7, 2) := by decide +kernel
theorem dX7_adds_6 : decode cX7_adds 6 = .ok (.iaload, 1) := by decide +kernel
theorem dX7_adds_7 : decode cX7_adds 7 = .ok (.istore 7, 2) := by decide +kernel
theorem dX7_adds_9 : decode cX7_adds 9 = .ok (.iconst 0, 1) := by decide +kernel
theorem dX7_adds_10 : decode cX7_adds 10 = .ok (.istore 8, 2) := by decide +kernel
theorem dX7_adds_12 : decode cX7_adds 12 = .ok (.iload 8, 2) := by decide +kernel
theorem dX7_adds_14 : decode cX7_adds 14 = .ok (.bipush 14, 2) := by decide +kernel
theorem dX7_adds_16 : decode cX7_adds 16 = .ok (.if_icmp .ge 18, 3) := by decide +kernel
theorem dX7_adds_19 : decode cX7_adds 19 = .ok (.aload_n 0, 1) := by decide +kernel
theorem dX7_adds_20 : decode cX7_adds 20 = .ok (.iload 7, 2) := by decide +kernel
theorem dX7_adds_22 : decode cX7_adds 22 = .ok (.iload 8, 2) := by decide +kernel
theorem dX7_adds_24 : decode cX7_adds 24 = .ok (.iconst 0, 1) := by decide +kernel
theorem dX7_adds_25 : decode cX7_adds 25 = .ok (.invokevirtual 133, 3) := by decide +kernel
theorem dX7_adds_28 : decode cX7_adds 28 = .ok (.iinc 8 1, 3) := by decide +kernel
theorem dX7_adds_31 : decode cX7_adds 31 = .ok (.goto (-19), 3) := by decide +kernel
theorem dX7_adds_34 : decode cX7_adds 34 = .ok (.aload_n 0, 1) := by decide +kernel
theorem dX7_adds_35 : decode cX7_adds 35 = .ok (.iload 7, 2) := by decide +kernel
theorem dX7_adds_37 : decode cX7_adds 37 = .ok (.iconst 0, 1) := by decide +kernel
theorem dX7_adds_38 : decode cX7_adds 38 = .ok (.iload_n 1, 1) := by decide +kernel
theorem dX7_adds_39 : decode cX7_adds 39 = .ok (.invokevirtual 133, 3) := by decide +kernel
theorem dX7_adds_42 : decode cX7_adds 42 = .ok (.aload_n 0, 1) := by decide +kernel
theorem dX7_adds_43 : decode cX7_adds 43 = .ok (.iload 7, 2) := by decide +kernel
theorem dX7_adds_45 : decode cX7_adds 45 = .ok (.iconst 1, 1) := by decide +kernel
theorem dX7_adds_46 : decode cX7_adds 46 = .ok (.iload_n 2, 1) := by decide +kernel
theorem dX7_adds_47 : decode cX7_adds 47 = .ok (.invokevirtual 133, 3) := by decide +kernel
theorem dX7_adds_50 : decode cX7_adds 50 = .ok (.aload_n 0, 1) := by decide +kernel
theorem dX7_adds_51 : decode cX7_adds 51 = .ok (.iload 7, 2) := by decide +kernel
theorem dX7_adds_53 : decode cX7_adds 53 = .ok (.iconst 2, 1) := by decide +kernel
theorem dX7_adds_54 : decode cX7_adds 54 = .ok (.iload_n 3, 1) := by decide +kernel
theorem dX7_adds_55 : decode cX7_adds 55 = .ok (.invokevirtual 133, 3) := by decide +kernel
theorem dX7_adds_58 : decode cX7_adds 58 = .ok (.aload_n 0, 1) := by decide +kernel
theorem dX7_adds_59 : decode cX7_adds 59 = .ok (.iload 7, 2) := by decide +kernel
theorem dX7_adds_61 : decode cX7_adds 61 = .ok (.iconst 3, 1) := by decide +kernel
theorem dX7_adds_62 : decode cX7_adds 62 = .ok (.iload 4, 2) := by decide +kernel
theorem dX7_adds_64 : decode cX7_adds 64 = .ok (.invokevirtual 133, 3) := by decide +kernel
theorem dX7_adds_67 : decode cX7_adds 67 = .ok (.aload_n 0, 1) := by decide +kernel
theorem dX7_adds_68 : decode cX7_adds 68 = .ok (.iload 7, 2) := by decide +kernel
theorem dX7_adds_70 : decode cX7_adds 70 = .ok (.iconst 4, 1) := by decide +kernel
theorem dX7_adds_71 : decode cX7_adds 71 = .ok (.iload 5, 2) := by decide +kernel
theorem dX7_adds_73 : decode cX7_adds 73 = .ok (.invokevirtual 133, 3) := by decide +kernel
theorem dX7_adds_76 : decode cX7_adds 76 = .ok (.aload_n 0, 1) := by decide +kernel
theorem dX7_adds_77 : decode cX7_adds 77 = .ok (.iload 7, 2) := by decide +kernel
theorem dX7_adds_79 : decode cX7_adds 79 = .ok (.iconst 5, 1) := by decide +kernel
theorem dX7_adds_80 : decode cX7_adds 80 = .ok (.iload 6, 2) := by decide +kernel
theorem dX7_adds_82 : decode cX7_adds 82 = .ok (.invokevirtual 133, 3) := by decide +kernel
theorem dX7_adds_85 : decode cX7_adds 85 = .ok (.aload_n 0, 1) := by decide +kernel
theorem dX7_adds_86 : decode cX7_adds 86 = .ok (.getfield 7, 3) := by decide +kernel
theorem dX7_adds_89 : decode cX7_adds 89 = .ok (.bipush 7, 2) := by decide +kernel
theorem dX7_adds_91 : decode cX7_adds 91 = .ok (.dup2, 1) := by decide +kernel
theorem dX7_adds_92 : decode cX7_adds 92 = .ok (.iaload, 1) := by decide +kernel
theorem dX7_adds_93 : decode cX7_adds 93 = .ok (.iconst 1, 1) := by decide +kernel
theorem dX7_adds_94 : decode cX7_adds 94 = .ok (.iadd, 1) := by decide +kernel
theorem dX7_adds_95 : decode cX7_adds 95 = .ok (.iastore, 1) := by decide +kernel
theorem dX7_adds_96 : decode cX7_adds 96 = .ok (.return_, 1) := by decide +kernel
set_option maxRecDepth 20000 in
theorem ggX7_add_X7_isGood : GoodIn wsX7_add wsX7_isGood := goodIn_r _ [7, 8, 9, 10, 6, 11, 12, 13, 14, 15] (by decide +kernel) (by decide +kernel)
set_option maxRecDepth 20000 in
theorem gX7_add_X7_isGood : GoodIn wsX7_add (va_wsS RX7 137 yX7_isGood wsX7_isGood) := goodIn_app (goodIn_of _ (by decide +kernel)) ggX7_add_X7_isGood
set_option maxRecDepth 20000 in
theorem ggX7_add_X7_records : GoodIn wsX7_add wsX7_records := goodIn_r _ [19, 20, 21, 2, 30, 31, 32, 33, 34, 35, 36, 37, 38, 39, 40, 41] (by decide +kernel) (by decide +kernel)
set_option maxRecDepth 20000 in
theorem gX7_add_X7_records : GoodIn wsX7_add (wsV RX7 97 RX7 yX7_records wsX7_records) := goodIn_app (goodIn_of _ (by decide +kernel)) ggX7_add_X7_records
set_option maxRecDepth 20000 in
theorem ggX7_add_X7_adds : GoodIn wsX7_add wsX7_adds := goodIn_r _ [25, 2, 26, 27, 28, 6, 29, 30, 31, 32, 33, 34, 35, 36, 37, 38, 39, 40, 41] (by decide +kernel) (by decide +kernel)
set_option maxRecDepth 20000 in
theorem gX7_add_X7_adds : GoodIn wsX7_add (wsV RX7 142 RX7 yX7_adds wsX7_adds) := goodIn_app (goodIn_of _ (by decide +kernel)) ggX7_add_X7_adds
theorem dX7_add_0 : decode cX7_add 0 = .ok (.iload_n 1, 1) := by decide +kernel
theorem dX7_add_1 : decode cX7_add 1 = .ok (.iload_n 2, 1) := by decide +kernel
theorem dX7_add_2 : decode cX7_add 2 = .ok (.iload_n 3, 1) := by decide +kernel
theorem dX7_add_3 : decode cX7_add 3 = .ok (.iload 4, 2) := by decide +kernel
theorem dX7_add_5 : decode cX7_add 5 = .ok (.iload 5, 2) := by decide +kernel
theorem dX7_add_7 : decode cX7_add 7 = .ok (.iload 6, 2) := by decide +kernel
theorem dX7_add_9 : decode cX7_add 9 = .ok (.invokestatic 137, 3) := by decide +kernel
theorem dX7_add_12 : decode cX7_add 12 = .ok (.ifCond .ne 6, 3) := by decide +kernel
theorem dX7_add_15 : decode cX7_add 15 = .ok (.ldc 96, 2) := by decide +kernel
theorem dX7_add_17 : decode cX7_add 17 = .ok (.ireturn, 1) := by decide +kernel
theorem dX7_add_18 : decode cX7_add 18 = .ok (.aload_n 0, 1) := by decide +kernel
theorem dX7_add_19 : decode cX7_add 19 = .ok (.getfield 7, 3) := by decide +kernel
theorem dX7_add_22 : decode cX7_add 22 = .ok (.bipush 7, 2) := by decide +kernel
theorem dX7_add_24 : decode cX7_add 24 = .ok (.iaload, 1) := by decide +kernel
theorem dX7_add_25 : decode cX7_add 25 = .ok (.bipush 10, 2) := by decide +kernel
theorem dX7_add_27 : decode cX7_add 27 = .ok (.if_icmp .ne 6, 3) := by decide +kernel
theorem dX7_add_30 : decode cX7_add 30 = .ok (.ldc 141, 2) := by decide +kernel
theorem dX7_add_32 : decode cX7_add 32 = .ok (.ireturn, 1) := by decide +kernel
theorem dX7_add_33 : decode cX7_add 33 = .ok (.aload_n 0, 1) := by decide +kernel
theorem dX7_add_34 : decode cX7_add 34 = .ok (.invokevirtual 97, 3) := by decide +kernel
theorem dX7_add_37 : decode cX7_add 37 = .ok (.aload_n 0, 1) := by decide +kernel
theorem dX7_add_38 : decode cX7_add 38 = .ok (.iload_n 1, 1) := by decide +kernel
theorem dX7_add_39 : decode cX7_add 39 = .ok (.iload_n 2, 1) := by decide +kernel
theorem dX7_add_40 : decode cX7_add 40 = .ok (.iload_n 3, 1) := by decide +kernel
theorem dX7_add_41 : decode cX7_add 41 = .ok (.iload 4, 2) := by decide +kernel
theorem dX7_add_43 : decode cX7_add 43 = .ok (.iload 5, 2) := by decide +kernel
theorem dX7_add_45 : decode cX7_add 45 = .ok (.iload 6, 2) := by decide +kernel
theorem dX7_add_47 : decode cX7_add 47 = .ok (.invokevirtual 142, 3) := by decide +kernel
theorem dX7_add_50 : decode cX7_add 50 = .ok (.aload_n 0, 1) := by decide +kernel
theorem dX7_add_51 : decode cX7_add 51 = .ok (.getfield 7, 3) := by decide +kernel
theorem dX7_add_54 : decode cX7_add 54 = .ok (.bipush 7, 2) := by decide +kernel
theorem dX7_add_56 : decode cX7_add 56 = .ok (.iaload, 1) := by decide +kernel
theorem dX7_add_57 : decode cX7_add 57 = .ok (.iconst 1, 1) := by decide +kernel
theorem dX7_add_58 : decode cX7_add 58 = .ok (.isub, 1) := by decide +kernel
theorem dX7_add_59 : decode cX7_add 59 = .ok (.ireturn, 1) := by decide +kernel
set_option maxRecDepth 20000 in
theorem ggX7_drop_X7_isTarget : GoodIn wsX7_drop wsX7_isTarget := goodIn_r _ [8, 3, 19, 20, 21, 22, 23, 24, 25, 26, 27, 28, 29, 30] (by decide +kernel) (by decide +kernel)
set_option maxRecDepth 20000 in
theorem gX7_drop_X7_isTarget : GoodIn wsX7_drop (wsV RX7 146 RX7 yX7_isTarget wsX7_isTarget) := goodIn_app (goodIn_of _ (by decide +kernel)) ggX7_drop_X7_isTarget
set_option maxRecDepth 20000 in
theorem ggX7_drop_X7_of : GoodIn wsX7_drop wsX7_of := goodIn_r _ [12, 3, 19, 20, 21, 22, 23, 24, 25, 26, 27, 28, 29, 30] (by decide +kernel) (by decide +kernel)
set_option maxRecDepth 20000 in
theorem gX7_drop_X7_of : GoodIn wsX7_drop (wsV RX7 104 RX7 yX7_of wsX7_of) := goodIn_app (goodIn_of _ (by decide +kernel)) ggX7_drop_X7_of
set_option maxRecDepth 20000 in
theorem ggX7_drop_X7_records : GoodIn wsX7_drop wsX7_records := goodIn_r _ [16, 17, 18, 3, 19, 20, 21, 22, 23, 24, 25, 26, 27, 28, 29, 30] (by decide +kernel) (by decide +kernel)
set_option maxRecDepth 20000 in
theorem gX7_drop_X7_records : GoodIn wsX7_drop (wsV RX7 97 RX7 yX7_records wsX7_records) := goodIn_app (goodIn_of _ (by decide +kernel)) ggX7_drop_X7_records
theorem dX7_drop_0 : decode cX7_drop 0 = .ok (.aload_n 0, 1) := by decide +kernel
theorem dX7_drop_1 : decode cX7_drop 1 = .ok (.iload_n 1, 1) := by decide +kernel
theorem dX7_drop_2 : decode cX7_drop 2 = .ok (.invokevirtual 146, 3) := by decide +kernel
theorem dX7_drop_5 : decode cX7_drop 5 = .ok (.ifCond .ne 6, 3) := by decide +kernel
theorem dX7_drop_8 : decode cX7_drop 8 = .ok (.ldc 96, 2) := by decide +kernel
theorem dX7_drop_10 : decode cX7_drop 10 = .ok (.ireturn, 1) := by decide +kernel
theorem dX7_drop_11 : decode cX7_drop 11 = .ok (.aload_n 0, 1) := by decide +kernel
theorem dX7_drop_12 : decode cX7_drop 12 = .ok (.iload_n 1, 1) := by decide +kernel
theorem dX7_drop_13 : decode cX7_drop 13 = .ok (.bipush 6, 2) := by decide +kernel
theorem dX7_drop_15 : decode cX7_drop 15 = .ok (.invokevirtual 104, 3) := by decide +kernel
theorem dX7_drop_18 : decode cX7_drop 18 = .ok (.iconst 1, 1) := by decide +kernel
theorem dX7_drop_19 : decode cX7_drop 19 = .ok (.if_icmp .ne 6, 3) := by decide +kernel
theorem dX7_drop_22 : decode cX7_drop 22 = .ok (.ldc 103, 2) := by decide +kernel
theorem dX7_drop_24 : decode cX7_drop 24 = .ok (.ireturn, 1) := by decide +kernel
theorem dX7_drop_25 : decode cX7_drop 25 = .ok (.aload_n 0, 1) := by decide +kernel
theorem dX7_drop_26 : decode cX7_drop 26 = .ok (.invokevirtual 97, 3) := by decide +kernel
theorem dX7_drop_29 : decode cX7_drop 29 = .ok (.aload_n 0, 1) := by decide +kernel
theorem dX7_drop_30 : decode cX7_drop 30 = .ok (.getfield 7, 3) := by decide +kernel
theorem dX7_drop_33 : decode cX7_drop 33 = .ok (.bipush 7, 2) := by decide +kernel
theorem dX7_drop_35 : decode cX7_drop 35 = .ok (.dup2, 1) := by decide +kernel
theorem dX7_drop_36 : decode cX7_drop 36 = .ok (.iaload, 1) := by decide +kernel
theorem dX7_drop_37 : decode cX7_drop 37 = .ok (.iconst 1, 1) := by decide +kernel
theorem dX7_drop_38 : decode cX7_drop 38 = .ok (.isub, 1) := by decide +kernel
theorem dX7_drop_39 : decode cX7_drop 39 = .ok (.iastore, 1) := by decide +kernel
theorem dX7_drop_40 : decode cX7_drop 40 = .ok (.bipush 53, 2) := by decide +kernel
theorem dX7_drop_42 : decode cX7_drop 42 = .ok (.bipush 14, 2) := by decide +kernel
theorem dX7_drop_44 : decode cX7_drop 44 = .ok (.iload_n 1, 1) := by decide +kernel
theorem dX7_drop_45 : decode cX7_drop 45 = .ok (.imul, 1) := by decide +kernel
theorem dX7_drop_46 : decode cX7_drop 46 = .ok (.iadd, 1) := by decide +kernel
theorem dX7_drop_47 : decode cX7_drop 47 = .ok (.istore_n 2, 1) := by decide +kernel
theorem dX7_drop_48 : decode cX7_drop 48 = .ok (.iload_n 2, 1) := by decide +kernel
theorem dX7_drop_49 : decode cX7_drop 49 = .ok (.bipush 53, 2) := by decide +kernel
theorem dX7_drop_51 : decode cX7_drop 51 = .ok (.bipush 14, 2) := by decide +kernel
theorem dX7_drop_53 : decode cX7_drop 53 = .ok (.aload_n 0, 1) := by decide +kernel
theorem dX7_drop_54 : decode cX7_drop 54 = .ok (.getfield 7, 3) := by decide +kernel
theorem dX7_drop_57 : decode cX7_drop 57 = .ok (.bipush 7, 2) := by decide +kernel
theorem dX7_drop_59 : decode cX7_drop 59 = .ok (.iaload, 1) := by decide +kernel
theorem dX7_drop_60 : decode cX7_drop 60 = .ok (.imul, 1) := by decide +kernel
theorem dX7_drop_61 : decode cX7_drop 61 = .ok (.iadd, 1) := by decide +kernel
theorem dX7_drop_62 : decode cX7_drop 62 = .ok (.if_icmp .ge 24, 3) := by decide +kernel
theorem dX7_drop_65 : decode cX7_drop 65 = .ok (.aload_n 0, 1) := by decide +kernel
theorem dX7_drop_66 : decode cX7_drop 66 = .ok (.getfield 7, 3) := by decide +kernel
theorem dX7_drop_69 : decode cX7_drop 69 = .ok (.iload_n 2, 1) := by decide +kernel
theorem dX7_drop_70 : decode cX7_drop 70 = .ok (.aload_n 0, 1) := by decide +kernel
theorem dX7_drop_71 : decode cX7_drop 71 = .ok (.getfield 7, 3) := by decide +kernel
theorem dX7_drop_74 : decode cX7_drop 74 = .ok (.iload_n 2, 1) := by decide +kernel
theorem dX7_drop_75 : decode cX7_drop 75 = .ok (.bipush 14, 2) := by decide +kernel
theorem dX7_drop_77 : decode cX7_drop 77 = .ok (.iadd, 1) := by decide +kernel
theorem dX7_drop_78 : decode cX7_drop 78 = .ok (.iaload, 1) := by decide +kernel
theorem dX7_drop_79 : decode cX7_drop 79 = .ok (.iastore, 1) := by decide +kernel
theorem dX7_drop_80 : decode cX7_drop 80 = .ok (.iinc 2 1, 3) := by decide +kernel
theorem dX7_drop_83 : decode cX7_drop 83 = .ok (.goto (-35), 3) := by decide +kernel
theorem dX7_drop_86 : decode cX7_drop 86 = .ok (.aload_n 0, 1) := by decide +kernel
theorem dX7_drop_87 : decode cX7_drop 87 = .ok (.getfield 7, 3) := by decide +kernel
theorem dX7_drop_90 : decode cX7_drop 90 = .ok (.bipush 7, 2) := by decide +kernel
theorem dX7_drop_92 : decode cX7_drop 92 = .ok (.iaload, 1) := by decide +kernel
theorem dX7_drop_93 : decode cX7_drop 93 = .ok (.ireturn, 1) := by decide +kernel
set_option maxRecDepth 20000 in
theorem ggX7_target_X7_isTarget : GoodIn wsX7_target wsX7_isTarget := goodIn_r _ [7, 8, 16, 17, 18, 19, 20, 21, 22, 23, 24, 25, 26, 27] (by decide +kernel) (by decide +kernel)
set_option maxRecDepth 20000 in
theorem gX7_target_X7_isTarget : GoodIn wsX7_target (wsV RX7 146 RX7 yX7_isTarget wsX7_isTarget) := goodIn_app (goodIn_of _ (by decide +kernel)) ggX7_target_X7_isTarget
set_option maxRecDepth 20000 in
theorem ggX7_target_X7_in : GoodIn wsX7_target wsX7_in := goodIn_r _ [11] (by decide +kernel) (by decide +kernel)
set_option maxRecDepth 20000 in
theorem gX7_target_X7_in : GoodIn wsX7_target (va_wsS RX7 54 yX7_in wsX7_in) := goodIn_app (goodIn_of _ (by decide +kernel)) ggX7_target_X7_in
set_option maxRecDepth 20000 in
theorem ggX7_target_X7_of : GoodIn wsX7_target wsX7_of := goodIn_r _ [15, 8, 16, 17, 18, 19, 20, 21, 22, 23, 24, 25, 26, 27] (by decide +kernel) (by decide +kernel)
set_option maxRecDepth 20000 in
theorem gX7_target_X7_of : GoodIn wsX7_target (wsV RX7 104 RX7 yX7_of wsX7_of) := goodIn_app (goodIn_of _ (by decide +kernel)) ggX7_target_X7_of
theorem dX7_target_0 : decode cX7_target 0 = .ok (.aload_n 0, 1) := by decide +kernel
theorem dX7_target_1 : decode cX7_target 1 = .ok (.iload_n 1, 1) := by decide +kernel
theorem dX7_target_2 : decode cX7_target 2 = .ok (.invokevirtual 146, 3) := by decide +kernel
theorem dX7_target_5 : decode cX7_target 5 = .ok (.ifCond .eq 13, 3) := by decide +kernel
theorem dX7_target_8 : decode cX7_target 8 = .ok (.iload_n 2, 1) := by decide +kernel
theorem dX7_target_9 : decode cX7_target 9 = .ok (.iconst 0, 1) := by decide +kernel
theorem dX7_target_10 : decode cX7_target 10 = .ok (.bipush 12, 2) := by decide +kernel
theorem dX7_target_12 : decode cX7_target 12 = .ok (.invokestatic 54, 3) := by decide +kernel
theorem dX7_target_15 : decode cX7_target 15 = .ok (.ifCond .ne 6, 3) := by decide +kernel
theorem dX7_target_18 : decode cX7_target 18 = .ok (.ldc 96, 2) := by decide +kernel
theorem dX7_target_20 : decode cX7_target 20 = .ok (.ireturn, 1) := by decide +kernel
theorem dX7_target_21 : decode cX7_target 21 = .ok (.aload_n 0, 1) := by decide +kernel
theorem dX7_target_22 : decode cX7_target 22 = .ok (.iload_n 1, 1) := by decide +kernel
theorem dX7_target_23 : decode cX7_target 23 = .ok (.bipush 6, 2) := by decide +kernel
theorem dX7_target_25 : decode cX7_target 25 = .ok (.invokevirtual 104, 3) := by decide +kernel
theorem dX7_target_28 : decode cX7_target 28 = .ok (.istore_n 3, 1) := by decide +kernel
theorem dX7_target_29 : decode cX7_target 29 = .ok (.iload_n 2, 1) := by decide +kernel
theorem dX7_target_30 : decode cX7_target 30 = .ok (.bipush 7, 2) := by decide +kernel
theorem dX7_target_32 : decode cX7_target 32 = .ok (.if_icmp .lt 25, 3) := by decide +kernel
theorem dX7_target_35 : decode cX7_target 35 = .ok (.iload_n 2, 1) := by decide +kernel
theorem dX7_target_36 : decode cX7_target 36 = .ok (.bipush 11, 2) := by decide +kernel
theorem dX7_target_38 : decode cX7_target 38 = .ok (.if_icmp .eq 19, 3) := by decide +kernel
theorem dX7_target_41 : decode cX7_target 41 = .ok (.iload_n 3, 1) := by decide +kernel
theorem dX7_target_42 : decode cX7_target 42 = .ok (.iconst 2, 1) := by decide +kernel
theorem dX7_target_43 : decode cX7_target 43 = .ok (.if_icmp .eq 14, 3) := by decide +kernel
theorem dX7_target_46 : decode cX7_target 46 = .ok (.iload_n 3, 1) := by decide +kernel
theorem dX7_target_47 : decode cX7_target 47 = .ok (.iconst 1, 1) := by decide +kernel
theorem dX7_target_48 : decode cX7_target 48 = .ok (.if_icmp .ne 13, 3) := by decide +kernel
theorem dX7_target_51 : decode cX7_target 51 = .ok (.iload_n 2, 1) := by decide +kernel
theorem dX7_target_52 : decode cX7_target 52 = .ok (.bipush 10, 2) := by decide +kernel
theorem dX7_target_54 : decode cX7_target 54 = .ok (.if_icmp .eq 7, 3) := by decide +kernel
theorem dX7_target_57 : decode cX7_target 57 = .ok (.iconst 1, 1) := by decide +kernel
theorem dX7_target_58 : decode cX7_target 58 = .ok (.goto 4, 3) := by decide +kernel
theorem dX7_target_61 : decode cX7_target 61 = .ok (.iconst 0, 1) := by decide +kernel
theorem dX7_target_62 : decode cX7_target 62 = .ok (.istore 4, 2) := by decide +kernel
theorem dX7_target_64 : decode cX7_target 64 = .ok (.iload 4, 2) := by decide +kernel
theorem dX7_target_66 : decode cX7_target 66 = .ok (.ifCond .eq 12, 3) := by decide +kernel
theorem dX7_target_69 : decode cX7_target 69 = .ok (.aload_n 0, 1) := by decide +kernel
theorem dX7_target_70 : decode cX7_target 70 = .ok (.iload_n 1, 1) := by decide +kernel
theorem dX7_target_71 : decode cX7_target 71 = .ok (.iload_n 2, 1) := by decide +kernel
theorem dX7_target_72 : decode cX7_target 72 = .ok (.invokevirtual 104, 3) := by decide +kernel
theorem dX7_target_75 : decode cX7_target 75 = .ok (.goto 5, 3) := by decide +kernel
theorem dX7_target_78 : decode cX7_target 78 = .ok (.ldc 80, 2) := by decide +kernel
theorem dX7_target_80 : decode cX7_target 80 = .ok (.ireturn, 1) := by decide +kernel
set_option maxRecDepth 20000 in
theorem ggX7_whyNot_X7_of : GoodIn wsX7_whyNot wsX7_of := goodIn_r _ [7, 2, 74, 75, 76, 77, 78, 79, 80, 81, 82, 83, 84, 85] (by decide +kernel) (by decide +kernel)
set_option maxRecDepth 20000 in
theorem gX7_whyNot_X7_of : GoodIn wsX7_whyNot (wsV RX7 104 RX7 yX7_of wsX7_of) := goodIn_app (goodIn_of _ (by decide +kernel)) ggX7_whyNot_X7_of
set_option maxRecDepth 20000 in
theorem ggX7_whyNot_X7_underWay : GoodIn wsX7_whyNot wsX7_underWay := goodIn_r _ [11, 2, 1, 3, 4, 5, 6, 7, 74, 75, 76, 77, 78, 79, 80, 81, 82, 83, 84, 85] (by decide +kernel) (by decide +kernel)
set_option maxRecDepth 20000 in
theorem gX7_whyNot_X7_underWay : GoodIn wsX7_whyNot (wsV RX7 107 RX7 yX7_underWay wsX7_underWay) := goodIn_app (goodIn_of _ (by decide +kernel)) ggX7_whyNot_X7_underWay
set_option maxRecDepth 20000 in
theorem ggX7_whyNot_X7_kindOfDay : GoodIn wsX7_whyNot wsX7_kindOfDay := goodIn_r _ [15, 2, 16, 17, 18, 6, 19, 20, 21, 22, 23, 74, 75, 76, 77, 78, 79, 80, 81, 82, 83, 84, 85] (by decide +kernel) (by decide +kernel)
set_option maxRecDepth 20000 in
theorem gX7_whyNot_X7_kindOfDay : GoodIn wsX7_whyNot (wsV RX7 110 RX7 yX7_kindOfDay wsX7_kindOfDay) := goodIn_app (goodIn_of _ (by decide +kernel)) ggX7_whyNot_X7_kindOfDay
set_option maxRecDepth 20000 in
theorem ggX7_whyNot_X7_isPossible : GoodIn wsX7_whyNot wsX7_isPossible := goodIn_r _ [27, 28, 29, 30, 31, 32, 33, 6, 34, 2, 35, 36, 37, 38, 39, 40, 41, 42, 43, 44, 45, 46, 47, 48, 49, 74, 75, 76, 77, 78, 79, 80, 81, 82, 83, 84, 85] (by decide +kernel) (by decide +kernel)
set_option maxRecDepth 20000 in
theorem gX7_whyNot_X7_isPossible : GoodIn wsX7_whyNot (wsV RX7 77 RX7 yX7_isPossible wsX7_isPossible) := goodIn_app (goodIn_of _ (by decide +kernel)) ggX7_whyNot_X7_isPossible
set_option maxRecDepth 20000 in
theorem ggX7_whyNot_X7_placeOf : GoodIn wsX7_whyNot wsX7_placeOf := goodIn_r _ [53, 54, 1, 24, 25, 26, 6, 27, 28, 29, 30, 31, 32, 33, 34, 2, 35, 36, 37, 38, 39, 40, 41, 42, 43, 44, 45, 46, 47, 48, 49, 55, 56, 57, 58, 59, 60, 61, 62, 63, 64, 65, 66, 67, 68, 69, 74, 75, 76, 77, 78, 79, 80, 81, 82, 83, 84, 85] (by decide +kernel) (by decide +kernel)
set_option maxRecDepth 20000 in
theorem gX7_whyNot_X7_placeOf : GoodIn wsX7_whyNot (wsV RX7 123 RX7 yX7_placeOf wsX7_placeOf) := goodIn_app (goodIn_of _ (by decide +kernel)) ggX7_whyNot_X7_placeOf
set_option maxRecDepth 20000 in
theorem ggX7_whyNot_X7_timeOf : GoodIn wsX7_whyNot wsX7_timeOf := goodIn_r _ [73, 39, 40, 41, 6, 42, 2, 63, 64, 65, 66, 29, 30, 28, 31, 32, 33, 34, 35, 36, 37, 38, 67, 68, 69, 74, 75, 76, 77, 78, 79, 80, 81, 82, 83, 84, 85] (by decide +kernel) (by decide +kernel)
set_option maxRecDepth 20000 in
theorem gX7_whyNot_X7_timeOf : GoodIn wsX7_whyNot (wsV RX7 87 RX7 yX7_timeOf wsX7_timeOf) := goodIn_app (goodIn_of _ (by decide +kernel)) ggX7_whyNot_X7_timeOf
theorem dX7_whyNot_0 : decode cX7_whyNot 0 = .ok (.aload_n 0, 1) := by decide +kernel
theorem dX7_whyNot_1 : decode cX7_whyNot 1 = .ok (.iload_n 1, 1) := by decide +kernel
theorem dX7_whyNot_2 : decode cX7_whyNot 2 = .ok (.bipush 6, 2) := by decide +kernel
theorem dX7_whyNot_4 : decode cX7_whyNot 4 = .ok (.invokevirtual 104, 3) := by decide +kernel
theorem dX7_whyNot_7 : decode cX7_whyNot 7 = .ok (.ifCond .eq 5, 3) := by decide +kernel
theorem dX7_whyNot_10 : decode cX7_whyNot 10 = .ok (.iconst 1, 1) := by decide +kernel
theorem dX7_whyNot_11 : decode cX7_whyNot 11 = .ok (.ireturn, 1) := by decide +kernel
theorem dX7_whyNot_12 : decode cX7_whyNot 12 = .ok (.aload_n 0, 1) := by decide +kernel
theorem dX7_whyNot_13 : decode cX7_whyNot 13 = .ok (.invokevirtual 107, 3) := by decide +kernel
theorem dX7_whyNot_16 : decode cX7_whyNot 16 = .ok (.ldc 80, 2) := by decide +kernel
theorem dX7_whyNot_18 : decode cX7_whyNot 18 = .ok (.if_icmp .eq 5, 3) := by decide +kernel
theorem dX7_whyNot_21 : decode cX7_whyNot 21 = .ok (.iconst 2, 1) := by decide +kernel
theorem dX7_whyNot_22 : decode cX7_whyNot 22 = .ok (.ireturn, 1) := by decide +kernel
theorem dX7_whyNot_23 : decode cX7_whyNot 23 = .ok (.aload_n 0, 1) := by decide +kernel
theorem dX7_whyNot_24 : decode cX7_whyNot 24 = .ok (.invokevirtual 110, 3) := by decide +kernel
theorem dX7_whyNot_27 : decode cX7_whyNot 27 = .ok (.ifCond .ne 5, 3) := by decide +kernel
theorem dX7_whyNot_30 : decode cX7_whyNot 30 = .ok (.iconst 3, 1) := by decide +kernel
theorem dX7_whyNot_31 : decode cX7_whyNot 31 = .ok (.ireturn, 1) := by decide +kernel
theorem dX7_whyNot_32 : decode cX7_whyNot 32 = .ok (.aload_n 0, 1) := by decide +kernel
theorem dX7_whyNot_33 : decode cX7_whyNot 33 = .ok (.getfield 7, 3) := by decide +kernel
theorem dX7_whyNot_36 : decode cX7_whyNot 36 = .ok (.iconst 4, 1) := by decide +kernel
theorem dX7_whyNot_37 : decode cX7_whyNot 37 = .ok (.iaload, 1) := by decide +kernel
theorem dX7_whyNot_38 : decode cX7_whyNot 38 = .ok (.aload_n 0, 1) := by decide +kernel
theorem dX7_whyNot_39 : decode cX7_whyNot 39 = .ok (.iload_n 1, 1) := by decide +kernel
theorem dX7_whyNot_40 : decode cX7_whyNot 40 = .ok (.iconst 2, 1) := by decide +kernel
theorem dX7_whyNot_41 : decode cX7_whyNot 41 = .ok (.invokevirtual 104, 3) := by decide +kernel
theorem dX7_whyNot_44 : decode cX7_whyNot 44 = .ok (.if_icmp .ge 5, 3) := by decide +kernel
theorem dX7_whyNot_47 : decode cX7_whyNot 47 = .ok (.iconst 4, 1) := by decide +kernel
theorem dX7_whyNot_48 : decode cX7_whyNot 48 = .ok (.ireturn, 1) := by decide +kernel
theorem dX7_whyNot_49 : decode cX7_whyNot 49 = .ok (.aload_n 0, 1) := by decide +kernel
theorem dX7_whyNot_50 : decode cX7_whyNot 50 = .ok (.iconst 1, 1) := by decide +kernel
theorem dX7_whyNot_51 : decode cX7_whyNot 51 = .ok (.aload_n 0, 1) := by decide +kernel
theorem dX7_whyNot_52 : decode cX7_whyNot 52 = .ok (.iload_n 1, 1) := by decide +kernel
theorem dX7_whyNot_53 : decode cX7_whyNot 53 = .ok (.iconst 1, 1) := by decide +kernel
theorem dX7_whyNot_54 : decode cX7_whyNot 54 = .ok (.invokevirtual 104, 3) := by decide +kernel
theorem dX7_whyNot_57 : decode cX7_whyNot 57 = .ok (.invokevirtual 77, 3) := by decide +kernel
theorem dX7_whyNot_60 : decode cX7_whyNot 60 = .ok (.ifCond .ne 5, 3) := by decide +kernel
theorem dX7_whyNot_63 : decode cX7_whyNot 63 = .ok (.iconst 5, 1) := by decide +kernel
theorem dX7_whyNot_64 : decode cX7_whyNot 64 = .ok (.ireturn, 1) := by decide +kernel
theorem dX7_whyNot_65 : decode cX7_whyNot 65 = .ok (.aload_n 0, 1) := by decide +kernel
theorem dX7_whyNot_66 : decode cX7_whyNot 66 = .ok (.aload_n 0, 1) := by decide +kernel
theorem dX7_whyNot_67 : decode cX7_whyNot 67 = .ok (.iload_n 1, 1) := by decide +kernel
theorem dX7_whyNot_68 : decode cX7_whyNot 68 = .ok (.iconst 0, 1) := by decide +kernel
theorem dX7_whyNot_69 : decode cX7_whyNot 69 = .ok (.invokevirtual 104, 3) := by decide +kernel
theorem dX7_whyNot_72 : decode cX7_whyNot 72 = .ok (.invokevirtual 123, 3) := by decide +kernel
theorem dX7_whyNot_75 : decode cX7_whyNot 75 = .ok (.istore_n 2, 1) := by decide +kernel
theorem dX7_whyNot_76 : decode cX7_whyNot 76 = .ok (.iload_n 2, 1) := by decide +kernel
theorem dX7_whyNot_77 : decode cX7_whyNot 77 = .ok (.ldc 80, 2) := by decide +kernel
theorem dX7_whyNot_79 : decode cX7_whyNot 79 = .ok (.if_icmp .ne 6, 3) := by decide +kernel
theorem dX7_whyNot_82 : decode cX7_whyNot 82 = .ok (.bipush 6, 2) := by decide +kernel
theorem dX7_whyNot_84 : decode cX7_whyNot 84 = .ok (.ireturn, 1) := by decide +kernel
theorem dX7_whyNot_85 : decode cX7_whyNot 85 = .ok (.aload_n 0, 1) := by decide +kernel
theorem dX7_whyNot_86 : decode cX7_whyNot 86 = .ok (.iconst 0, 1) := by decide +kernel
theorem dX7_whyNot_87 : decode cX7_whyNot 87 = .ok (.iload_n 2, 1) := by decide +kernel
theorem dX7_whyNot_88 : decode cX7_whyNot 88 = .ok (.invokevirtual 87, 3) := by decide +kernel
theorem dX7_whyNot_91 : decode cX7_whyNot 91 = .ok (.istore_n 3, 1) := by decide +kernel
theorem dX7_whyNot_92 : decode cX7_whyNot 92 = .ok (.aload_n 0, 1) := by decide +kernel
theorem dX7_whyNot_93 : decode cX7_whyNot 93 = .ok (.iconst 1, 1) := by decide +kernel
theorem dX7_whyNot_94 : decode cX7_whyNot 94 = .ok (.aload_n 0, 1) := by decide +kernel
theorem dX7_whyNot_95 : decode cX7_whyNot 95 = .ok (.iload_n 1, 1) := by decide +kernel
theorem dX7_whyNot_96 : decode cX7_whyNot 96 = .ok (.iconst 1, 1) := by decide +kernel
theorem dX7_whyNot_97 : decode cX7_whyNot 97 = .ok (.invokevirtual 104, 3) := by decide +kernel
theorem dX7_whyNot_100 : decode cX7_whyNot 100 = .ok (.invokevirtual 87, 3) := by decide +kernel
theorem dX7_whyNot_103 : decode cX7_whyNot 103 = .ok (.istore 4, 2) := by decide +kernel
theorem dX7_whyNot_105 : decode cX7_whyNot 105 = .ok (.aload_n 0, 1) := by decide +kernel
theorem dX7_whyNot_106 : decode cX7_whyNot 106 = .ok (.getfield 7, 3) := by decide +kernel
theorem dX7_whyNot_109 : decode cX7_whyNot 109 = .ok (.iconst 4, 1) := by decide +kernel
theorem dX7_whyNot_110 : decode cX7_whyNot 110 = .ok (.iaload, 1) := by decide +kernel
theorem dX7_whyNot_111 : decode cX7_whyNot 111 = .ok (.iload_n 3, 1) := by decide +kernel
theorem dX7_whyNot_112 : decode cX7_whyNot 112 = .ok (.iload 4, 2) := by decide +kernel
theorem dX7_whyNot_114 : decode cX7_whyNot 114 = .ok (.if_icmp .le 7, 3) := by decide +kernel
theorem dX7_whyNot_117 : decode cX7_whyNot 117 = .ok (.iload_n 3, 1) := by decide +kernel
theorem dX7_whyNot_118 : decode cX7_whyNot 118 = .ok (.goto 5, 3) := by decide +kernel
theorem dX7_whyNot_121 : decode cX7_whyNot 121 = .ok (.iload 4, 2) := by decide +kernel
theorem dX7_whyNot_123 : decode cX7_whyNot 123 = .ok (.iadd, 1) := by decide +kernel
theorem dX7_whyNot_124 : decode cX7_whyNot 124 = .ok (.aload_n 0, 1) := by decide +kernel
theorem dX7_whyNot_125 : decode cX7_whyNot 125 = .ok (.iload_n 1, 1) := by decide +kernel
theorem dX7_whyNot_126 : decode cX7_whyNot 126 = .ok (.iconst 4, 1) := by decide +kernel
theorem dX7_whyNot_127 : decode cX7_whyNot 127 = .ok (.invokevirtual 104, 3) := by decide +kernel
theorem dX7_whyNot_130 : decode cX7_whyNot 130 = .ok (.iadd, 1) := by decide +kernel
theorem dX7_whyNot_131 : decode cX7_whyNot 131 = .ok (.aload_n 0, 1) := by decide +kernel
theorem dX7_whyNot_132 : decode cX7_whyNot 132 = .ok (.iload_n 1, 1) := by decide +kernel
theorem dX7_whyNot_133 : decode cX7_whyNot 133 = .ok (.iconst 3, 1) := by decide +kernel
theorem dX7_whyNot_134 : decode cX7_whyNot 134 = .ok (.invokevirtual 104, 3) := by decide +kernel
theorem dX7_whyNot_137 : decode cX7_whyNot 137 = .ok (.if_icmp .le 8, 3) := by decide +kernel
theorem dX7_whyNot_140 : decode cX7_whyNot 140 = .ok (.bipush 7, 2) := by decide +kernel
theorem dX7_whyNot_142 : decode cX7_whyNot 142 = .ok (.goto 4, 3) := by decide +kernel
theorem dX7_whyNot_145 : decode cX7_whyNot 145 = .ok (.iconst 0, 1) := by decide +kernel
theorem dX7_whyNot_146 : decode cX7_whyNot 146 = .ok (.ireturn, 1) := by decide +kernel
set_option maxRecDepth 20000 in
theorem ggX7_why_X7_isTarget : GoodIn wsX7_why wsX7_isTarget := goodIn_r _ [6, 7, 83, 84, 85, 86, 87, 88, 89, 90, 91, 92, 93, 94] (by decide +kernel) (by decide +kernel)
set_option maxRecDepth 20000 in
theorem gX7_why_X7_isTarget : GoodIn wsX7_why (wsV RX7 146 RX7 yX7_isTarget wsX7_isTarget) := goodIn_app (goodIn_of _ (by decide +kernel)) ggX7_why_X7_isTarget
set_option maxRecDepth 20000 in
theorem ggX7_why_X7_whyNot : GoodIn wsX7_why wsX7_whyNot := goodIn_r _ [11, 12, 7, 13, 14, 15, 5, 16, 17, 18, 19, 20, 21, 22, 23, 24, 25, 26, 27, 28, 29, 30, 31, 32, 33, 34, 35, 36, 37, 38, 39, 40, 41, 42, 43, 44, 45, 46, 47, 48, 49, 50, 51, 52, 53, 54, 55, 56, 57, 58, 59, 60, 61, 62, 63, 64, 65, 66, 67, 68, 69, 70, 71, 72, 73, 74, 75, 76, 77, 78, 79, 80, 81, 82, 83, 84, 85, 86, 87, 88, 89, 90, 91, 92, 93, 94] (by decide +kernel) (by decide +kernel)
set_option maxRecDepth 20000 in
theorem gX7_why_X7_whyNot : GoodIn wsX7_why (wsV RX7 149 RX7 yX7_whyNot wsX7_whyNot) := goodIn_app (goodIn_of _ (by decide +kernel)) ggX7_why_X7_whyNot
theorem dX7_why_0 : decode cX7_why 0 = .ok (.aload_n 0, 1) := by decide +kernel
theorem dX7_why_1 : decode cX7_why 1 = .ok (.iload_n 1, 1) := by decide +kernel
theorem dX7_why_2 : decode cX7_why 2 = .ok (.invokevirtual 146, 3) := by decide +kernel
theorem dX7_why_5 : decode cX7_why 5 = .ok (.ifCond .eq 11, 3) := by decide +kernel
theorem dX7_why_8 : decode cX7_why 8 = .ok (.aload_n 0, 1) := by decide +kernel
theorem dX7_why_9 : decode cX7_why 9 = .ok (.iload_n 1, 1) := by decide +kernel
theorem dX7_why_10 : decode cX7_why 10 = .ok (.invokevirtual 149, 3) := by decide +kernel
theorem dX7_why_13 : decode cX7_why 13 = .ok (.goto 5, 3) := by decide +kernel
theorem dX7_why_16 : decode cX7_why 16 = .ok (.ldc 96, 2) := by decide +kernel
theorem dX7_why_18 : decode cX7_why 18 = .ok (.ireturn, 1) := by decide +kernel
set_option maxRecDepth 20000 in
theorem ggX7_comesFirst_X7_of : GoodIn wsX7_comesFirst wsX7_of := goodIn_r _ [5, 6, 7, 8, 9, 10, 11, 12, 13, 14, 15, 16, 17, 18] (by decide +kernel) (by decide +kernel)
set_option maxRecDepth 20000 in
theorem gX7_comesFirst_X7_of : GoodIn wsX7_comesFirst (wsV RX7 104 RX7 yX7_of wsX7_of) := goodIn_app (goodIn_of _ (by decide +kernel)) ggX7_comesFirst_X7_of
theorem dX7_comesFirst_0 : decode cX7_comesFirst 0 = .ok (.aload_n 0, 1) := by decide +kernel
theorem dX7_comesFirst_1 : decode cX7_comesFirst 1 = .ok (.iload_n 1, 1) := by decide +kernel
theorem dX7_comesFirst_2 : decode cX7_comesFirst 2 = .ok (.iconst 5, 1) := by decide +kernel
theorem dX7_comesFirst_3 : decode cX7_comesFirst 3 = .ok (.invokevirtual 104, 3) := by decide +kernel
theorem dX7_comesFirst_6 : decode cX7_comesFirst 6 = .ok (.aload_n 0, 1) := by decide +kernel
theorem dX7_comesFirst_7 : decode cX7_comesFirst 7 = .ok (.iload_n 2, 1) := by decide +kernel
theorem dX7_comesFirst_8 : decode cX7_comesFirst 8 = .ok (.iconst 5, 1) := by decide +kernel
theorem dX7_comesFirst_9 : decode cX7_comesFirst 9 = .ok (.invokevirtual 104, 3) := by decide +kernel
theorem dX7_comesFirst_12 : decode cX7_comesFirst 12 = .ok (.if_icmp .eq 24, 3) := by decide +kernel
theorem dX7_comesFirst_15 : decode cX7_comesFirst 15 = .ok (.aload_n 0, 1) := by decide +kernel
theorem dX7_comesFirst_16 : decode cX7_comesFirst 16 = .ok (.iload_n 1, 1) := by decide +kernel
theorem dX7_comesFirst_17 : decode cX7_comesFirst 17 = .ok (.iconst 5, 1) := by decide +kernel
theorem dX7_comesFirst_18 : decode cX7_comesFirst 18 = .ok (.invokevirtual 104, 3) := by decide +kernel
theorem dX7_comesFirst_21 : decode cX7_comesFirst 21 = .ok (.aload_n 0, 1) := by decide +kernel
theorem dX7_comesFirst_22 : decode cX7_comesFirst 22 = .ok (.iload_n 2, 1) := by decide +kernel
theorem dX7_comesFirst_23 : decode cX7_comesFirst 23 = .ok (.iconst 5, 1) := by decide +kernel
theorem dX7_comesFirst_24 : decode cX7_comesFirst 24 = .ok (.invokevirtual 104, 3) := by decide +kernel
theorem dX7_comesFirst_27 : decode cX7_comesFirst 27 = .ok (.if_icmp .le 7, 3) := by decide +kernel
theorem dX7_comesFirst_30 : decode cX7_comesFirst 30 = .ok (.iconst 1, 1) := by decide +kernel
theorem dX7_comesFirst_31 : decode cX7_comesFirst 31 = .ok (.goto 4, 3) := by decide +kernel
theorem dX7_comesFirst_34 : decode cX7_comesFirst 34 = .ok (.iconst 0, 1) := by decide +kernel
theorem dX7_comesFirst_35 : decode cX7_comesFirst 35 = .ok (.ireturn, 1) := by decide +kernel
theorem dX7_comesFirst_36 : decode cX7_comesFirst 36 = .ok (.aload_n 0, 1) := by decide +kernel
theorem dX7_comesFirst_37 : decode cX7_comesFirst 37 = .ok (.iload_n 1, 1) := by decide +kernel
theorem dX7_comesFirst_38 : decode cX7_comesFirst 38 = .ok (.iconst 3, 1) := by decide +kernel
theorem dX7_comesFirst_39 : decode cX7_comesFirst 39 = .ok (.invokevirtual 104, 3) := by decide +kernel
theorem dX7_comesFirst_42 : decode cX7_comesFirst 42 = .ok (.aload_n 0, 1) := by decide +kernel
theorem dX7_comesFirst_43 : decode cX7_comesFirst 43 = .ok (.iload_n 2, 1) := by decide +kernel
theorem dX7_comesFirst_44 : decode cX7_comesFirst 44 = .ok (.iconst 3, 1) := by decide +kernel
theorem dX7_comesFirst_45 : decode cX7_comesFirst 45 = .ok (.invokevirtual 104, 3) := by decide +kernel
theorem dX7_comesFirst_48 : decode cX7_comesFirst 48 = .ok (.if_icmp .ge 7, 3) := by decide +kernel
theorem dX7_comesFirst_51 : decode cX7_comesFirst 51 = .ok (.iconst 1, 1) := by decide +kernel
theorem dX7_comesFirst_52 : decode cX7_comesFirst 52 = .ok (.goto 4, 3) := by decide +kernel
theorem dX7_comesFirst_55 : decode cX7_comesFirst 55 = .ok (.iconst 0, 1) := by decide +kernel
theorem dX7_comesFirst_56 : decode cX7_comesFirst 56 = .ok (.ireturn, 1) := by decide +kernel
set_option maxRecDepth 20000 in
theorem ggX7_nextOne_X7_whyNot : GoodIn wsX7_nextOne wsX7_whyNot := goodIn_r _ [7, 1, 2, 8, 9, 10, 6, 11, 12, 13, 14, 15, 16, 17, 18, 19, 20, 21, 22, 23, 24, 25, 26, 27, 28, 29, 30, 31, 32, 33, 34, 35, 36, 37, 38, 39, 40, 41, 42, 43, 44, 45, 46, 47, 48, 49, 50, 51, 52, 53, 54, 55, 56, 57, 58, 59, 60, 61, 62, 63, 64, 65, 66, 67, 68, 69, 70, 71, 72, 73, 74, 75, 76, 77, 82, 83, 84, 85, 86, 87, 88, 89, 90, 91, 92, 93] (by decide +kernel) (by decide +kernel)
set_option maxRecDepth 20000 in
theorem gX7_nextOne_X7_whyNot : GoodIn wsX7_nextOne (wsV RX7 149 RX7 yX7_whyNot wsX7_whyNot) := goodIn_app (goodIn_of _ (by decide +kernel)) ggX7_nextOne_X7_whyNot
set_option maxRecDepth 20000 in
theorem ggX7_nextOne_X7_comesFirst : GoodIn wsX7_nextOne wsX7_comesFirst := goodIn_r _ [81, 8, 9, 10, 6, 11, 2, 82, 83, 84, 85, 86, 87, 88, 89, 90, 91, 92, 93] (by decide +kernel) (by decide +kernel)
set_option maxRecDepth 20000 in
theorem gX7_nextOne_X7_comesFirst : GoodIn wsX7_nextOne (wsV RX7 152 RX7 yX7_comesFirst wsX7_comesFirst) := goodIn_app (goodIn_of _ (by decide +kernel)) ggX7_nextOne_X7_comesFirst
theorem dX7_nextOne_0 : decode cX7_nextOne 0 = .ok (.ldc 80, 2) := by decide +kernel
theorem dX7_nextOne_2 : decode cX7_nextOne 2 = .ok (.istore_n 1, 1) := by decide +kernel
theorem dX7_nextOne_3 : decode cX7_nextOne 3 = .ok (.iconst 0, 1) := by decide +kernel
theorem dX7_nextOne_4 : decode cX7_nextOne 4 = .ok (.istore_n 2, 1) := by decide +kernel
theorem dX7_nextOne_5 : decode cX7_nextOne 5 = .ok (.iload_n 2, 1) := by decide +kernel
theorem dX7_nextOne_6 : decode cX7_nextOne 6 = .ok (.aload_n 0, 1) := by decide +kernel
theorem dX7_nextOne_7 : decode cX7_nextOne 7 = .ok (.getfield 7, 3) := by decide +kernel
theorem dX7_nextOne_10 : decode cX7_nextOne 10 = .ok (.bipush 7, 2) := by decide +kernel
theorem dX7_nextOne_12 : decode cX7_nextOne 12 = .ok (.iaload, 1) := by decide +kernel
theorem dX7_nextOne_13 : decode cX7_nextOne 13 = .ok (.if_icmp .ge 38, 3) := by decide +kernel
theorem dX7_nextOne_16 : decode cX7_nextOne 16 = .ok (.aload_n 0, 1) := by decide +kernel
theorem dX7_nextOne_17 : decode cX7_nextOne 17 = .ok (.iload_n 2, 1) := by decide +kernel
theorem dX7_nextOne_18 : decode cX7_nextOne 18 = .ok (.invokevirtual 149, 3) := by decide +kernel
theorem dX7_nextOne_21 : decode cX7_nextOne 21 = .ok (.ifCond .ne 22, 3) := by decide +kernel
theorem dX7_nextOne_24 : decode cX7_nextOne 24 = .ok (.iload_n 1, 1) := by decide +kernel
theorem dX7_nextOne_25 : decode cX7_nextOne 25 = .ok (.ldc 80, 2) := by decide +kernel
theorem dX7_nextOne_27 : decode cX7_nextOne 27 = .ok (.if_icmp .eq 12, 3) := by decide +kernel
theorem dX7_nextOne_30 : decode cX7_nextOne 30 = .ok (.aload_n 0, 1) := by decide +kernel
theorem dX7_nextOne_31 : decode cX7_nextOne 31 = .ok (.iload_n 2, 1) := by decide +kernel
theorem dX7_nextOne_32 : decode cX7_nextOne 32 = .ok (.iload_n 1, 1) := by decide +kernel
theorem dX7_nextOne_33 : decode cX7_nextOne 33 = .ok (.invokevirtual 152, 3) := by decide +kernel
theorem dX7_nextOne_36 : decode cX7_nextOne 36 = .ok (.ifCond .eq 7, 3) := by decide +kernel
theorem dX7_nextOne_39 : decode cX7_nextOne 39 = .ok (.iload_n 2, 1) := by decide +kernel
theorem dX7_nextOne_40 : decode cX7_nextOne 40 = .ok (.goto 4, 3) := by decide +kernel
theorem dX7_nextOne_43 : decode cX7_nextOne 43 = .ok (.iload_n 1, 1) := by decide +kernel
theorem dX7_nextOne_44 : decode cX7_nextOne 44 = .ok (.istore_n 1, 1) := by decide +kernel
theorem dX7_nextOne_45 : decode cX7_nextOne 45 = .ok (.iinc 2 1, 3) := by decide +kernel
theorem dX7_nextOne_48 : decode cX7_nextOne 48 = .ok (.goto (-43), 3) := by decide +kernel
theorem dX7_nextOne_51 : decode cX7_nextOne 51 = .ok (.iload_n 1, 1) := by decide +kernel
theorem dX7_nextOne_52 : decode cX7_nextOne 52 = .ok (.ireturn, 1) := by decide +kernel
set_option maxRecDepth 20000 in
theorem ggX7_next_X7_nextOne : GoodIn wsX7_next wsX7_nextOne := goodIn_r _ [5, 6, 7, 8, 9, 10, 4, 11, 12, 13, 14, 15, 16, 17, 18, 19, 20, 21, 22, 23, 24, 25, 26, 27, 28, 29, 30, 31, 32, 33, 34, 35, 36, 37, 38, 39, 40, 41, 42, 43, 44, 45, 46, 47, 48, 49, 50, 51, 52, 53, 54, 55, 56, 57, 58, 59, 60, 61, 62, 63, 64, 65, 66, 67, 68, 69, 70, 71, 72, 73, 74, 75, 76, 77, 78, 79, 80, 81, 82, 83, 84, 85, 86, 87, 88, 89, 90, 91, 92, 93, 94, 95, 96, 97] (by decide +kernel) (by decide +kernel)
set_option maxRecDepth 20000 in
theorem gX7_next_X7_nextOne : GoodIn wsX7_next (wsV RX7 155 RX7 yX7_nextOne wsX7_nextOne) := goodIn_app (goodIn_of _ (by decide +kernel)) ggX7_next_X7_nextOne
theorem dX7_next_0 : decode cX7_next 0 = .ok (.aload_n 0, 1) := by decide +kernel
theorem dX7_next_1 : decode cX7_next 1 = .ok (.invokevirtual 155, 3) := by decide +kernel
theorem dX7_next_4 : decode cX7_next 4 = .ok (.ireturn, 1) := by decide +kernel
set_option maxRecDepth 20000 in
theorem ggX7_pushes_X7_of : GoodIn wsX7_pushes wsX7_of := goodIn_r _ [6, 1, 23, 24, 25, 26, 27, 28, 29, 30, 31, 32, 33, 34] (by decide +kernel) (by decide +kernel)
set_option maxRecDepth 20000 in
theorem gX7_pushes_X7_of : GoodIn wsX7_pushes (wsV RX7 104 RX7 yX7_of wsX7_of) := goodIn_app (goodIn_of _ (by decide +kernel)) ggX7_pushes_X7_of
set_option maxRecDepth 20000 in
theorem ggX7_pushes_X7_kindOfDay : GoodIn wsX7_pushes wsX7_kindOfDay := goodIn_r _ [10, 1, 11, 12, 13, 5, 14, 15, 16, 17, 18, 23, 24, 25, 26, 27, 28, 29, 30, 31, 32, 33, 34] (by decide +kernel) (by decide +kernel)
set_option maxRecDepth 20000 in
theorem gX7_pushes_X7_kindOfDay : GoodIn wsX7_pushes (wsV RX7 110 RX7 yX7_kindOfDay wsX7_kindOfDay) := goodIn_app (goodIn_of _ (by decide +kernel)) ggX7_pushes_X7_kindOfDay
set_option maxRecDepth 20000 in
theorem ggX7_pushes_X7_day : GoodIn wsX7_pushes wsX7_day := goodIn_r _ [18, 1, 23, 24, 25, 26, 27, 28, 29, 30, 31, 32, 33, 34] (by decide +kernel) (by decide +kernel)
set_option maxRecDepth 20000 in
theorem gX7_pushes_X7_day : GoodIn wsX7_pushes (wsV RX7 29 RX7 yX7_day wsX7_day) := goodIn_app (goodIn_of _ (by decide +kernel)) ggX7_pushes_X7_day
set_option maxRecDepth 20000 in
theorem ggX7_pushes_X7_puts : GoodIn wsX7_pushes wsX7_puts := goodIn_r _ [22, 1, 23, 24, 25, 26, 27, 28, 29, 30, 31, 32, 33, 34] (by decide +kernel) (by decide +kernel)
set_option maxRecDepth 20000 in
theorem gX7_pushes_X7_puts : GoodIn wsX7_pushes (wsV RX7 133 RX7 yX7_puts wsX7_puts) := goodIn_app (goodIn_of _ (by decide +kernel)) ggX7_pushes_X7_puts
theorem dX7_pushes_0 : decode cX7_pushes 0 = .ok (.aload_n 0, 1) := by decide +kernel
theorem dX7_pushes_1 : decode cX7_pushes 1 = .ok (.iload_n 1, 1) := by decide +kernel
theorem dX7_pushes_2 : decode cX7_pushes 2 = .ok (.bipush 8, 2) := by decide +kernel
theorem dX7_pushes_4 : decode cX7_pushes 4 = .ok (.invokevirtual 104, 3) := by decide +kernel
theorem dX7_pushes_7 : decode cX7_pushes 7 = .ok (.aload_n 0, 1) := by decide +kernel
theorem dX7_pushes_8 : decode cX7_pushes 8 = .ok (.getfield 7, 3) := by decide +kernel
theorem dX7_pushes_11 : decode cX7_pushes 11 = .ok (.iconst 4, 1) := by decide +kernel
theorem dX7_pushes_12 : decode cX7_pushes 12 = .ok (.iaload, 1) := by decide +kernel
theorem dX7_pushes_13 : decode cX7_pushes 13 = .ok (.if_icmp .ne 76, 3) := by decide +kernel
theorem dX7_pushes_16 : decode cX7_pushes 16 = .ok (.aload_n 0, 1) := by decide +kernel
theorem dX7_pushes_17 : decode cX7_pushes 17 = .ok (.iload_n 1, 1) := by decide +kernel
theorem dX7_pushes_18 : decode cX7_pushes 18 = .ok (.bipush 13, 2) := by decide +kernel
theorem dX7_pushes_20 : decode cX7_pushes 20 = .ok (.invokevirtual 104, 3) := by decide +kernel
theorem dX7_pushes_23 : decode cX7_pushes 23 = .ok (.ifCond .ne 66, 3) := by decide +kernel
theorem dX7_pushes_26 : decode cX7_pushes 26 = .ok (.aload_n 0, 1) := by decide +kernel
theorem dX7_pushes_27 : decode cX7_pushes 27 = .ok (.invokevirtual 110, 3) := by decide +kernel
theorem dX7_pushes_30 : decode cX7_pushes 30 = .ok (.iconst 1, 1) := by decide +kernel
theorem dX7_pushes_31 : decode cX7_pushes 31 = .ok (.if_icmp .ne 7, 3) := by decide +kernel
theorem dX7_pushes_34 : decode cX7_pushes 34 = .ok (.iconst 1, 1) := by decide +kernel
theorem dX7_pushes_35 : decode cX7_pushes 35 = .ok (.goto 4, 3) := by decide +kernel
theorem dX7_pushes_38 : decode cX7_pushes 38 = .ok (.iconst 0, 1) := by decide +kernel
theorem dX7_pushes_39 : decode cX7_pushes 39 = .ok (.istore_n 2, 1) := by decide +kernel
theorem dX7_pushes_40 : decode cX7_pushes 40 = .ok (.aload_n 0, 1) := by decide +kernel
theorem dX7_pushes_41 : decode cX7_pushes 41 = .ok (.getfield 7, 3) := by decide +kernel
theorem dX7_pushes_44 : decode cX7_pushes 44 = .ok (.bipush 43, 2) := by decide +kernel
theorem dX7_pushes_46 : decode cX7_pushes 46 = .ok (.iload_n 2, 1) := by decide +kernel
theorem dX7_pushes_47 : decode cX7_pushes 47 = .ok (.ifCond .ne 13, 3) := by decide +kernel
theorem dX7_pushes_50 : decode cX7_pushes 50 = .ok (.aload_n 0, 1) := by decide +kernel
theorem dX7_pushes_51 : decode cX7_pushes 51 = .ok (.getfield 7, 3) := by decide +kernel
theorem dX7_pushes_54 : decode cX7_pushes 54 = .ok (.bipush 43, 2) := by decide +kernel
theorem dX7_pushes_56 : decode cX7_pushes 56 = .ok (.iaload, 1) := by decide +kernel
theorem dX7_pushes_57 : decode cX7_pushes 57 = .ok (.goto 23, 3) := by decide +kernel
theorem dX7_pushes_60 : decode cX7_pushes 60 = .ok (.aload_n 0, 1) := by decide +kernel
theorem dX7_pushes_61 : decode cX7_pushes 61 = .ok (.invokevirtual 29, 3) := by decide +kernel
theorem dX7_pushes_64 : decode cX7_pushes 64 = .ok (.iconst 2, 1) := by decide +kernel
theorem dX7_pushes_65 : decode cX7_pushes 65 = .ok (.irem, 1) := by decide +kernel
theorem dX7_pushes_66 : decode cX7_pushes 66 = .ok (.ifCond .ne 7, 3) := by decide +kernel
theorem dX7_pushes_69 : decode cX7_pushes 69 = .ok (.iconst 0, 1) := by decide +kernel
theorem dX7_pushes_70 : decode cX7_pushes 70 = .ok (.goto 10, 3) := by decide +kernel
theorem dX7_pushes_73 : decode cX7_pushes 73 = .ok (.aload_n 0, 1) := by decide +kernel
theorem dX7_pushes_74 : decode cX7_pushes 74 = .ok (.getfield 7, 3) := by decide +kernel
theorem dX7_pushes_77 : decode cX7_pushes 77 = .ok (.bipush 39, 2) := by decide +kernel
theorem dX7_pushes_79 : decode cX7_pushes 79 = .ok (.iaload, 1) := by decide +kernel
theorem dX7_pushes_80 : decode cX7_pushes 80 = .ok (.iastore, 1) := by decide +kernel
theorem dX7_pushes_81 : decode cX7_pushes 81 = .ok (.aload_n 0, 1) := by decide +kernel
theorem dX7_pushes_82 : decode cX7_pushes 82 = .ok (.iload_n 1, 1) := by decide +kernel
theorem dX7_pushes_83 : decode cX7_pushes 83 = .ok (.bipush 13, 2) := by decide +kernel
theorem dX7_pushes_85 : decode cX7_pushes 85 = .ok (.iconst 1, 1) := by decide +kernel
theorem dX7_pushes_86 : decode cX7_pushes 86 = .ok (.invokevirtual 133, 3) := by decide +kernel
theorem dX7_pushes_89 : decode cX7_pushes 89 = .ok (.return_, 1) := by decide +kernel
set_option maxRecDepth 20000 in
theorem ggX7_begins_X7_of : GoodIn wsX7_begins wsX7_of := goodIn_r _ [6, 1, 90, 91, 92, 93, 94, 95, 96, 97, 98, 99, 100, 101] (by decide +kernel) (by decide +kernel)
set_option maxRecDepth 20000 in
theorem gX7_begins_X7_of : GoodIn wsX7_begins (wsV RX7 104 RX7 yX7_of wsX7_of) := goodIn_app (goodIn_of _ (by decide +kernel)) ggX7_begins_X7_of
set_option maxRecDepth 20000 in
theorem ggX7_begins_X7_placeOf : GoodIn wsX7_begins wsX7_placeOf := goodIn_r _ [10, 11, 12, 13, 14, 15, 5, 16, 17, 18, 19, 20, 21, 22, 23, 1, 24, 25, 26, 27, 28, 29, 30, 31, 32, 33, 34, 35, 36, 37, 38, 39, 40, 41, 42, 43, 44, 45, 46, 47, 48, 49, 50, 51, 52, 53, 90, 91, 92, 93, 94, 95, 96, 97, 98, 99, 100, 101] (by decide +kernel) (by decide +kernel)
set_option maxRecDepth 20000 in
theorem gX7_begins_X7_placeOf : GoodIn wsX7_begins (wsV RX7 123 RX7 yX7_placeOf wsX7_placeOf) := goodIn_app (goodIn_of _ (by decide +kernel)) ggX7_begins_X7_placeOf
set_option maxRecDepth 20000 in
theorem ggX7_begins_X7_slews : GoodIn wsX7_begins wsX7_slews := goodIn_r _ [57, 1, 58, 59, 60, 5, 61, 28, 29, 30, 31, 47, 48, 49, 50, 18, 19, 17, 20, 21, 22, 23, 24, 25, 26, 27, 51, 52, 53, 62, 63, 64, 65, 66, 67, 68, 69, 90, 91, 92, 93, 94, 95, 96, 97, 98, 99, 100, 101] (by decide +kernel) (by decide +kernel)
set_option maxRecDepth 20000 in
theorem gX7_begins_X7_slews : GoodIn wsX7_begins (wsV RX7 126 RX7 yX7_slews wsX7_slews) := goodIn_app (goodIn_of _ (by decide +kernel)) ggX7_begins_X7_slews
set_option maxRecDepth 20000 in
theorem ggX7_begins_X7_puts : GoodIn wsX7_begins wsX7_puts := goodIn_r _ [73, 1, 90, 91, 92, 93, 94, 95, 96, 97, 98, 99, 100, 101] (by decide +kernel) (by decide +kernel)
set_option maxRecDepth 20000 in
theorem gX7_begins_X7_puts : GoodIn wsX7_begins (wsV RX7 133 RX7 yX7_puts wsX7_puts) := goodIn_app (goodIn_of _ (by decide +kernel)) ggX7_begins_X7_puts
set_option maxRecDepth 20000 in
theorem ggX7_begins_X7_pushes : GoodIn wsX7_begins wsX7_pushes := goodIn_r _ [77, 1, 2, 3, 4, 5, 6, 78, 79, 80, 81, 82, 83, 84, 85, 86, 87, 88, 89, 70, 71, 72, 73, 90, 91, 92, 93, 94, 95, 96, 97, 98, 99, 100, 101] (by decide +kernel) (by decide +kernel)
set_option maxRecDepth 20000 in
theorem gX7_begins_X7_pushes : GoodIn wsX7_begins (wsV RX7 158 RX7 yX7_pushes wsX7_pushes) := goodIn_app (goodIn_of _ (by decide +kernel)) ggX7_begins_X7_pushes
theorem dX7_begins_0 : decode cX7_begins 0 = .ok (.aload_n 0, 1) := by decide +kernel
theorem dX7_begins_1 : decode cX7_begins 1 = .ok (.aload_n 0, 1) := by decide +kernel
theorem dX7_begins_2 : decode cX7_begins 2 = .ok (.iload_n 1, 1) := by decide +kernel
theorem dX7_begins_3 : decode cX7_begins 3 = .ok (.iconst 0, 1) := by decide +kernel
theorem dX7_begins_4 : decode cX7_begins 4 = .ok (.invokevirtual 104, 3) := by decide +kernel
theorem dX7_begins_7 : decode cX7_begins 7 = .ok (.invokevirtual 123, 3) := by decide +kernel
theorem dX7_begins_10 : decode cX7_begins 10 = .ok (.istore_n 2, 1) := by decide +kernel
theorem dX7_begins_11 : decode cX7_begins 11 = .ok (.aload_n 0, 1) := by decide +kernel
theorem dX7_begins_12 : decode cX7_begins 12 = .ok (.iload_n 2, 1) := by decide +kernel
theorem dX7_begins_13 : decode cX7_begins 13 = .ok (.aload_n 0, 1) := by decide +kernel
theorem dX7_begins_14 : decode cX7_begins 14 = .ok (.iload_n 1, 1) := by decide +kernel
theorem dX7_begins_15 : decode cX7_begins 15 = .ok (.iconst 1, 1) := by decide +kernel
theorem dX7_begins_16 : decode cX7_begins 16 = .ok (.invokevirtual 104, 3) := by decide +kernel
theorem dX7_begins_19 : decode cX7_begins 19 = .ok (.invokevirtual 126, 3) := by decide +kernel
theorem dX7_begins_22 : decode cX7_begins 22 = .ok (.istore_n 3, 1) := by decide +kernel
theorem dX7_begins_23 : decode cX7_begins 23 = .ok (.aload_n 0, 1) := by decide +kernel
theorem dX7_begins_24 : decode cX7_begins 24 = .ok (.iload_n 1, 1) := by decide +kernel
theorem dX7_begins_25 : decode cX7_begins 25 = .ok (.bipush 6, 2) := by decide +kernel
theorem dX7_begins_27 : decode cX7_begins 27 = .ok (.iconst 1, 1) := by decide +kernel
theorem dX7_begins_28 : decode cX7_begins 28 = .ok (.invokevirtual 133, 3) := by decide +kernel
theorem dX7_begins_31 : decode cX7_begins 31 = .ok (.aload_n 0, 1) := by decide +kernel
theorem dX7_begins_32 : decode cX7_begins 32 = .ok (.iload_n 1, 1) := by decide +kernel
theorem dX7_begins_33 : decode cX7_begins 33 = .ok (.bipush 7, 2) := by decide +kernel
theorem dX7_begins_35 : decode cX7_begins 35 = .ok (.aload_n 0, 1) := by decide +kernel
theorem dX7_begins_36 : decode cX7_begins 36 = .ok (.getfield 7, 3) := by decide +kernel
theorem dX7_begins_39 : decode cX7_begins 39 = .ok (.iconst 4, 1) := by decide +kernel
theorem dX7_begins_40 : decode cX7_begins 40 = .ok (.iaload, 1) := by decide +kernel
theorem dX7_begins_41 : decode cX7_begins 41 = .ok (.invokevirtual 133, 3) := by decide +kernel
theorem dX7_begins_44 : decode cX7_begins 44 = .ok (.aload_n 0, 1) := by decide +kernel
theorem dX7_begins_45 : decode cX7_begins 45 = .ok (.iload_n 1, 1) := by decide +kernel
theorem dX7_begins_46 : decode cX7_begins 46 = .ok (.bipush 8, 2) := by decide +kernel
theorem dX7_begins_48 : decode cX7_begins 48 = .ok (.aload_n 0, 1) := by decide +kernel
theorem dX7_begins_49 : decode cX7_begins 49 = .ok (.getfield 7, 3) := by decide +kernel
theorem dX7_begins_52 : decode cX7_begins 52 = .ok (.iconst 4, 1) := by decide +kernel
theorem dX7_begins_53 : decode cX7_begins 53 = .ok (.iaload, 1) := by decide +kernel
theorem dX7_begins_54 : decode cX7_begins 54 = .ok (.iload_n 3, 1) := by decide +kernel
theorem dX7_begins_55 : decode cX7_begins 55 = .ok (.iadd, 1) := by decide +kernel
theorem dX7_begins_56 : decode cX7_begins 56 = .ok (.invokevirtual 133, 3) := by decide +kernel
theorem dX7_begins_59 : decode cX7_begins 59 = .ok (.aload_n 0, 1) := by decide +kernel
theorem dX7_begins_60 : decode cX7_begins 60 = .ok (.iload_n 1, 1) := by decide +kernel
theorem dX7_begins_61 : decode cX7_begins 61 = .ok (.bipush 9, 2) := by decide +kernel
theorem dX7_begins_63 : decode cX7_begins 63 = .ok (.aload_n 0, 1) := by decide +kernel
theorem dX7_begins_64 : decode cX7_begins 64 = .ok (.getfield 7, 3) := by decide +kernel
theorem dX7_begins_67 : decode cX7_begins 67 = .ok (.iconst 4, 1) := by decide +kernel
theorem dX7_begins_68 : decode cX7_begins 68 = .ok (.iaload, 1) := by decide +kernel
theorem dX7_begins_69 : decode cX7_begins 69 = .ok (.iload_n 3, 1) := by decide +kernel
theorem dX7_begins_70 : decode cX7_begins 70 = .ok (.iadd, 1) := by decide +kernel
theorem dX7_begins_71 : decode cX7_begins 71 = .ok (.aload_n 0, 1) := by decide +kernel
theorem dX7_begins_72 : decode cX7_begins 72 = .ok (.iload_n 1, 1) := by decide +kernel
theorem dX7_begins_73 : decode cX7_begins 73 = .ok (.iconst 4, 1) := by decide +kernel
theorem dX7_begins_74 : decode cX7_begins 74 = .ok (.invokevirtual 104, 3) := by decide +kernel
theorem dX7_begins_77 : decode cX7_begins 77 = .ok (.iadd, 1) := by decide +kernel
theorem dX7_begins_78 : decode cX7_begins 78 = .ok (.invokevirtual 133, 3) := by decide +kernel
theorem dX7_begins_81 : decode cX7_begins 81 = .ok (.aload_n 0, 1) := by decide +kernel
theorem dX7_begins_82 : decode cX7_begins 82 = .ok (.iload_n 1, 1) := by decide +kernel
theorem dX7_begins_83 : decode cX7_begins 83 = .ok (.bipush 12, 2) := by decide +kernel
theorem dX7_begins_85 : decode cX7_begins 85 = .ok (.iload_n 2, 1) := by decide +kernel
theorem dX7_begins_86 : decode cX7_begins 86 = .ok (.invokevirtual 133, 3) := by decide +kernel
theorem dX7_begins_89 : decode cX7_begins 89 = .ok (.aload_n 0, 1) := by decide +kernel
theorem dX7_begins_90 : decode cX7_begins 90 = .ok (.iload_n 1, 1) := by decide +kernel
theorem dX7_begins_91 : decode cX7_begins 91 = .ok (.bipush 13, 2) := by decide +kernel
theorem dX7_begins_93 : decode cX7_begins 93 = .ok (.iconst 0, 1) := by decide +kernel
theorem dX7_begins_94 : decode cX7_begins 94 = .ok (.invokevirtual 133, 3) := by decide +kernel
theorem dX7_begins_97 : decode cX7_begins 97 = .ok (.aload_n 0, 1) := by decide +kernel
theorem dX7_begins_98 : decode cX7_begins 98 = .ok (.iload_n 1, 1) := by decide +kernel
theorem dX7_begins_99 : decode cX7_begins 99 = .ok (.invokevirtual 158, 3) := by decide +kernel
theorem dX7_begins_102 : decode cX7_begins 102 = .ok (.return_, 1) := by decide +kernel
set_option maxRecDepth 20000 in
theorem ggX7_holds_X7_underWay : GoodIn wsX7_holds wsX7_underWay := goodIn_r _ [7, 2, 1, 8, 9, 10, 6, 11, 20, 21, 22, 23, 24, 25, 26, 27, 28, 29, 30, 31] (by decide +kernel) (by decide +kernel)
set_option maxRecDepth 20000 in
theorem gX7_holds_X7_underWay : GoodIn wsX7_holds (wsV RX7 107 RX7 yX7_underWay wsX7_underWay) := goodIn_app (goodIn_of _ (by decide +kernel)) ggX7_holds_X7_underWay
set_option maxRecDepth 20000 in
theorem ggX7_holds_X7_puts : GoodIn wsX7_holds wsX7_puts := goodIn_r _ [15, 2, 20, 21, 22, 23, 24, 25, 26, 27, 28, 29, 30, 31] (by decide +kernel) (by decide +kernel)
set_option maxRecDepth 20000 in
theorem gX7_holds_X7_puts : GoodIn wsX7_holds (wsV RX7 133 RX7 yX7_puts wsX7_puts) := goodIn_app (goodIn_of _ (by decide +kernel)) ggX7_holds_X7_puts
set_option maxRecDepth 20000 in
theorem ggX7_holds_X7_of : GoodIn wsX7_holds wsX7_of := goodIn_r _ [11, 2, 20, 21, 22, 23, 24, 25, 26, 27, 28, 29, 30, 31] (by decide +kernel) (by decide +kernel)
set_option maxRecDepth 20000 in
theorem gX7_holds_X7_of : GoodIn wsX7_holds (wsV RX7 104 RX7 yX7_of wsX7_of) := goodIn_app (goodIn_of _ (by decide +kernel)) ggX7_holds_X7_of
set_option maxRecDepth 20000 in
theorem ggX7_holds_X7_goes : GoodIn wsX7_holds wsX7_goes := goodIn_r _ [19, 2, 20, 21, 22, 23, 24, 25, 26, 27, 28, 29, 30, 31] (by decide +kernel) (by decide +kernel)
set_option maxRecDepth 20000 in
theorem gX7_holds_X7_goes : GoodIn wsX7_holds (wsV RX7 84 RX7 yX7_goes wsX7_goes) := goodIn_app (goodIn_of _ (by decide +kernel)) ggX7_holds_X7_goes
theorem dX7_holds_0 : decode cX7_holds 0 = .ok (.aload_n 0, 1) := by decide +kernel
theorem dX7_holds_1 : decode cX7_holds 1 = .ok (.invokevirtual 107, 3) := by decide +kernel
theorem dX7_holds_4 : decode cX7_holds 4 = .ok (.istore_n 1, 1) := by decide +kernel
theorem dX7_holds_5 : decode cX7_holds 5 = .ok (.iload_n 1, 1) := by decide +kernel
theorem dX7_holds_6 : decode cX7_holds 6 = .ok (.ldc 80, 2) := by decide +kernel
theorem dX7_holds_8 : decode cX7_holds 8 = .ok (.if_icmp .eq 27, 3) := by decide +kernel
theorem dX7_holds_11 : decode cX7_holds 11 = .ok (.aload_n 0, 1) := by decide +kernel
theorem dX7_holds_12 : decode cX7_holds 12 = .ok (.iload_n 1, 1) := by decide +kernel
theorem dX7_holds_13 : decode cX7_holds 13 = .ok (.bipush 6, 2) := by decide +kernel
theorem dX7_holds_15 : decode cX7_holds 15 = .ok (.iconst 0, 1) := by decide +kernel
theorem dX7_holds_16 : decode cX7_holds 16 = .ok (.invokevirtual 133, 3) := by decide +kernel
theorem dX7_holds_19 : decode cX7_holds 19 = .ok (.aload_n 0, 1) := by decide +kernel
theorem dX7_holds_20 : decode cX7_holds 20 = .ok (.iload_n 1, 1) := by decide +kernel
theorem dX7_holds_21 : decode cX7_holds 21 = .ok (.bipush 11, 2) := by decide +kernel
theorem dX7_holds_23 : decode cX7_holds 23 = .ok (.aload_n 0, 1) := by decide +kernel
theorem dX7_holds_24 : decode cX7_holds 24 = .ok (.iload_n 1, 1) := by decide +kernel
theorem dX7_holds_25 : decode cX7_holds 25 = .ok (.bipush 11, 2) := by decide +kernel
theorem dX7_holds_27 : decode cX7_holds 27 = .ok (.invokevirtual 104, 3) := by decide +kernel
theorem dX7_holds_30 : decode cX7_holds 30 = .ok (.iconst 1, 1) := by decide +kernel
theorem dX7_holds_31 : decode cX7_holds 31 = .ok (.iadd, 1) := by decide +kernel
theorem dX7_holds_32 : decode cX7_holds 32 = .ok (.invokevirtual 133, 3) := by decide +kernel
theorem dX7_holds_35 : decode cX7_holds 35 = .ok (.aload_n 0, 1) := by decide +kernel
theorem dX7_holds_36 : decode cX7_holds 36 = .ok (.iconst 1, 1) := by decide +kernel
theorem dX7_holds_37 : decode cX7_holds 37 = .ok (.sipush 9000, 3) := by decide +kernel
theorem dX7_holds_40 : decode cX7_holds 40 = .ok (.invokevirtual 84, 3) := by decide +kernel
theorem dX7_holds_43 : decode cX7_holds 43 = .ok (.aload_n 0, 1) := by decide +kernel
theorem dX7_holds_44 : decode cX7_holds 44 = .ok (.getfield 7, 3) := by decide +kernel
theorem dX7_holds_47 : decode cX7_holds 47 = .ok (.bipush 6, 2) := by decide +kernel
theorem dX7_holds_49 : decode cX7_holds 49 = .ok (.dup2, 1) := by decide +kernel
theorem dX7_holds_50 : decode cX7_holds 50 = .ok (.iaload, 1) := by decide +kernel
theorem dX7_holds_51 : decode cX7_holds 51 = .ok (.iconst 1, 1) := by decide +kernel
theorem dX7_holds_52 : decode cX7_holds 52 = .ok (.iadd, 1) := by decide +kernel
theorem dX7_holds_53 : decode cX7_holds 53 = .ok (.iastore, 1) := by decide +kernel
theorem dX7_holds_54 : decode cX7_holds 54 = .ok (.return_, 1) := by decide +kernel
set_option maxRecDepth 20000 in
theorem ggX7_minute_X7_underWay : GoodIn wsX7_minute wsX7_underWay := goodIn_r _ [7, 2, 1, 8, 9, 10, 6, 11, 110, 111, 112, 113, 114, 115, 116, 117, 118, 119, 120, 121] (by decide +kernel) (by decide +kernel)
set_option maxRecDepth 20000 in
theorem gX7_minute_X7_underWay : GoodIn wsX7_minute (wsV RX7 107 RX7 yX7_underWay wsX7_underWay) := goodIn_app (goodIn_of _ (by decide +kernel)) ggX7_minute_X7_underWay
set_option maxRecDepth 20000 in
theorem ggX7_minute_X7_pushes : GoodIn wsX7_minute wsX7_pushes := goodIn_r _ [15, 2, 8, 9, 10, 6, 11, 16, 17, 18, 19, 20, 21, 22, 23, 24, 25, 26, 27, 28, 29, 30, 31, 110, 111, 112, 113, 114, 115, 116, 117, 118, 119, 120, 121] (by decide +kernel) (by decide +kernel)
set_option maxRecDepth 20000 in
theorem gX7_minute_X7_pushes : GoodIn wsX7_minute (wsV RX7 158 RX7 yX7_pushes wsX7_pushes) := goodIn_app (goodIn_of _ (by decide +kernel)) ggX7_minute_X7_pushes
set_option maxRecDepth 20000 in
theorem ggX7_minute_X7_of : GoodIn wsX7_minute wsX7_of := goodIn_r _ [11, 2, 110, 111, 112, 113, 114, 115, 116, 117, 118, 119, 120, 121] (by decide +kernel) (by decide +kernel)
set_option maxRecDepth 20000 in
theorem gX7_minute_X7_of : GoodIn wsX7_minute (wsV RX7 104 RX7 yX7_of wsX7_of) := goodIn_app (goodIn_of _ (by decide +kernel)) ggX7_minute_X7_of
set_option maxRecDepth 20000 in
theorem ggX7_minute_X7_puts : GoodIn wsX7_minute wsX7_puts := goodIn_r _ [31, 2, 110, 111, 112, 113, 114, 115, 116, 117, 118, 119, 120, 121] (by decide +kernel) (by decide +kernel)
set_option maxRecDepth 20000 in
theorem gX7_minute_X7_puts : GoodIn wsX7_minute (wsV RX7 133 RX7 yX7_puts wsX7_puts) := goodIn_app (goodIn_of _ (by decide +kernel)) ggX7_minute_X7_puts
set_option maxRecDepth 20000 in
theorem ggX7_minute_X7_stands : GoodIn wsX7_minute wsX7_stands := goodIn_r _ [35, 36, 37, 38, 6, 39, 2, 110, 111, 112, 113, 114, 115, 116, 117, 118, 119, 120, 121] (by decide +kernel) (by decide +kernel)
set_option maxRecDepth 20000 in
theorem gX7_minute_X7_stands : GoodIn wsX7_minute (wsV RX7 40 RX7 yX7_stands wsX7_stands) := goodIn_app (goodIn_of _ (by decide +kernel)) ggX7_minute_X7_stands
set_option maxRecDepth 20000 in
theorem ggX7_minute_X7_nextOne : GoodIn wsX7_minute wsX7_nextOne := goodIn_r _ [43, 1, 2, 44, 45, 46, 6, 47, 8, 9, 10, 11, 3, 4, 5, 7, 16, 17, 18, 19, 20, 21, 22, 23, 24, 25, 26, 27, 48, 49, 50, 51, 52, 53, 54, 55, 56, 57, 58, 32, 33, 34, 35, 36, 37, 38, 39, 59, 60, 61, 62, 63, 64, 65, 66, 67, 68, 69, 70, 71, 72, 73, 74, 75, 76, 77, 78, 79, 80, 81, 82, 83, 84, 85, 86, 87, 88, 89, 90, 91, 92, 93, 110, 111, 112, 113, 114, 115, 116, 117, 118, 119, 120, 121] (by decide +kernel) (by decide +kernel)
set_option maxRecDepth 20000 in
theorem gX7_minute_X7_nextOne : GoodIn wsX7_minute (wsV RX7 155 RX7 yX7_nextOne wsX7_nextOne) := goodIn_app (goodIn_of _ (by decide +kernel)) ggX7_minute_X7_nextOne
set_option maxRecDepth 20000 in
theorem ggX7_minute_X7_begins : GoodIn wsX7_minute wsX7_begins := goodIn_r _ [97, 2, 8, 9, 10, 6, 11, 66, 67, 68, 69, 70, 1, 48, 49, 50, 51, 52, 53, 54, 55, 56, 57, 58, 32, 33, 34, 35, 36, 37, 38, 39, 59, 60, 61, 62, 63, 64, 65, 71, 72, 73, 74, 75, 76, 77, 78, 79, 80, 81, 82, 83, 84, 85, 98, 99, 100, 101, 86, 87, 88, 89, 102, 103, 104, 105, 106, 107, 108, 109, 28, 29, 30, 31, 12, 13, 14, 15, 16, 17, 18, 19, 20, 21, 22, 23, 24, 25, 26, 27, 110, 111, 112, 113, 114, 115, 116, 117, 118, 119, 120, 121] (by decide +kernel) (by decide +kernel)
set_option maxRecDepth 20000 in
theorem gX7_minute_X7_begins : GoodIn wsX7_minute (wsV RX7 162 RX7 yX7_begins wsX7_begins) := goodIn_app (goodIn_of _ (by decide +kernel)) ggX7_minute_X7_begins
theorem dX7_minute_0 : decode cX7_minute 0 = .ok (.iconst 0, 1) := by decide +kernel
theorem dX7_minute_1 : decode cX7_minute 1 = .ok (.istore_n 1, 1) := by decide +kernel
theorem dX7_minute_2 : decode cX7_minute 2 = .ok (.aload_n 0, 1) := by decide +kernel
theorem dX7_minute_3 : decode cX7_minute 3 = .ok (.invokevirtual 107, 3) := by decide +kernel
theorem dX7_minute_6 : decode cX7_minute 6 = .ok (.istore_n 2, 1) := by decide +kernel
theorem dX7_minute_7 : decode cX7_minute 7 = .ok (.iload_n 2, 1) := by decide +kernel
theorem dX7_minute_8 : decode cX7_minute 8 = .ok (.ldc 80, 2) := by decide +kernel
theorem dX7_minute_10 : decode cX7_minute 10 = .ok (.if_icmp .eq 55, 3) := by decide +kernel
theorem dX7_minute_13 : decode cX7_minute 13 = .ok (.aload_n 0, 1) := by decide +kernel
theorem dX7_minute_14 : decode cX7_minute 14 = .ok (.iload_n 2, 1) := by decide +kernel
theorem dX7_minute_15 : decode cX7_minute 15 = .ok (.invokevirtual 158, 3) := by decide +kernel
theorem dX7_minute_18 : decode cX7_minute 18 = .ok (.aload_n 0, 1) := by decide +kernel
theorem dX7_minute_19 : decode cX7_minute 19 = .ok (.iload_n 2, 1) := by decide +kernel
theorem dX7_minute_20 : decode cX7_minute 20 = .ok (.bipush 9, 2) := by decide +kernel
theorem dX7_minute_22 : decode cX7_minute 22 = .ok (.invokevirtual 104, 3) := by decide +kernel
theorem dX7_minute_25 : decode cX7_minute 25 = .ok (.aload_n 0, 1) := by decide +kernel
theorem dX7_minute_26 : decode cX7_minute 26 = .ok (.getfield 7, 3) := by decide +kernel
theorem dX7_minute_29 : decode cX7_minute 29 = .ok (.iconst 4, 1) := by decide +kernel
theorem dX7_minute_30 : decode cX7_minute 30 = .ok (.iaload, 1) := by decide +kernel
theorem dX7_minute_31 : decode cX7_minute 31 = .ok (.if_icmp .gt 34, 3) := by decide +kernel
theorem dX7_minute_34 : decode cX7_minute 34 = .ok (.aload_n 0, 1) := by decide +kernel
theorem dX7_minute_35 : decode cX7_minute 35 = .ok (.iload_n 2, 1) := by decide +kernel
theorem dX7_minute_36 : decode cX7_minute 36 = .ok (.bipush 6, 2) := by decide +kernel
theorem dX7_minute_38 : decode cX7_minute 38 = .ok (.iconst 2, 1) := by decide +kernel
theorem dX7_minute_39 : decode cX7_minute 39 = .ok (.invokevirtual 133, 3) := by decide +kernel
theorem dX7_minute_42 : decode cX7_minute 42 = .ok (.aload_n 0, 1) := by decide +kernel
theorem dX7_minute_43 : decode cX7_minute 43 = .ok (.iload_n 2, 1) := by decide +kernel
theorem dX7_minute_44 : decode cX7_minute 44 = .ok (.bipush 10, 2) := by decide +kernel
theorem dX7_minute_46 : decode cX7_minute 46 = .ok (.aload_n 0, 1) := by decide +kernel
theorem dX7_minute_47 : decode cX7_minute 47 = .ok (.iconst 0, 1) := by decide +kernel
theorem dX7_minute_48 : decode cX7_minute 48 = .ok (.invokevirtual 40, 3) := by decide +kernel
theorem dX7_minute_51 : decode cX7_minute 51 = .ok (.aload_n 0, 1) := by decide +kernel
theorem dX7_minute_52 : decode cX7_minute 52 = .ok (.iload_n 2, 1) := by decide +kernel
theorem dX7_minute_53 : decode cX7_minute 53 = .ok (.bipush 12, 2) := by decide +kernel
theorem dX7_minute_55 : decode cX7_minute 55 = .ok (.invokevirtual 104, 3) := by decide +kernel
theorem dX7_minute_58 : decode cX7_minute 58 = .ok (.isub, 1) := by decide +kernel
theorem dX7_minute_59 : decode cX7_minute 59 = .ok (.invokevirtual 133, 3) := by decide +kernel
theorem dX7_minute_62 : decode cX7_minute 62 = .ok (.iinc 1 1, 3) := by decide +kernel
theorem dX7_minute_65 : decode cX7_minute 65 = .ok (.iconst 0, 1) := by decide +kernel
theorem dX7_minute_66 : decode cX7_minute 66 = .ok (.istore_n 3, 1) := by decide +kernel
theorem dX7_minute_67 : decode cX7_minute 67 = .ok (.iload_n 3, 1) := by decide +kernel
theorem dX7_minute_68 : decode cX7_minute 68 = .ok (.aload_n 0, 1) := by decide +kernel
theorem dX7_minute_69 : decode cX7_minute 69 = .ok (.getfield 7, 3) := by decide +kernel
theorem dX7_minute_72 : decode cX7_minute 72 = .ok (.bipush 7, 2) := by decide +kernel
theorem dX7_minute_74 : decode cX7_minute 74 = .ok (.iaload, 1) := by decide +kernel
theorem dX7_minute_75 : decode cX7_minute 75 = .ok (.if_icmp .ge 42, 3) := by decide +kernel
theorem dX7_minute_78 : decode cX7_minute 78 = .ok (.aload_n 0, 1) := by decide +kernel
theorem dX7_minute_79 : decode cX7_minute 79 = .ok (.iload_n 3, 1) := by decide +kernel
theorem dX7_minute_80 : decode cX7_minute 80 = .ok (.bipush 6, 2) := by decide +kernel
theorem dX7_minute_82 : decode cX7_minute 82 = .ok (.invokevirtual 104, 3) := by decide +kernel
theorem dX7_minute_85 : decode cX7_minute 85 = .ok (.ifCond .ne 26, 3) := by decide +kernel
theorem dX7_minute_88 : decode cX7_minute 88 = .ok (.aload_n 0, 1) := by decide +kernel
theorem dX7_minute_89 : decode cX7_minute 89 = .ok (.iload_n 3, 1) := by decide +kernel
theorem dX7_minute_90 : decode cX7_minute 90 = .ok (.iconst 3, 1) := by decide +kernel
theorem dX7_minute_91 : decode cX7_minute 91 = .ok (.invokevirtual 104, 3) := by decide +kernel
theorem dX7_minute_94 : decode cX7_minute 94 = .ok (.aload_n 0, 1) := by decide +kernel
theorem dX7_minute_95 : decode cX7_minute 95 = .ok (.getfield 7, 3) := by decide +kernel
theorem dX7_minute_98 : decode cX7_minute 98 = .ok (.iconst 4, 1) := by decide +kernel
theorem dX7_minute_99 : decode cX7_minute 99 = .ok (.iaload, 1) := by decide +kernel
theorem dX7_minute_100 : decode cX7_minute 100 = .ok (.if_icmp .gt 11, 3) := by decide +kernel
theorem dX7_minute_103 : decode cX7_minute 103 = .ok (.aload_n 0, 1) := by decide +kernel
theorem dX7_minute_104 : decode cX7_minute 104 = .ok (.iload_n 3, 1) := by decide +kernel
theorem dX7_minute_105 : decode cX7_minute 105 = .ok (.bipush 6, 2) := by decide +kernel
theorem dX7_minute_107 : decode cX7_minute 107 = .ok (.iconst 3, 1) := by decide +kernel
theorem dX7_minute_108 : decode cX7_minute 108 = .ok (.invokevirtual 133, 3) := by decide +kernel
theorem dX7_minute_111 : decode cX7_minute 111 = .ok (.iinc 3 1, 3) := by decide +kernel
theorem dX7_minute_114 : decode cX7_minute 114 = .ok (.goto (-47), 3) := by decide +kernel
theorem dX7_minute_117 : decode cX7_minute 117 = .ok (.aload_n 0, 1) := by decide +kernel
theorem dX7_minute_118 : decode cX7_minute 118 = .ok (.invokevirtual 155, 3) := by decide +kernel
theorem dX7_minute_121 : decode cX7_minute 121 = .ok (.istore_n 3, 1) := by decide +kernel
theorem dX7_minute_122 : decode cX7_minute 122 = .ok (.iload_n 3, 1) := by decide +kernel
theorem dX7_minute_123 : decode cX7_minute 123 = .ok (.ldc 80, 2) := by decide +kernel
theorem dX7_minute_125 : decode cX7_minute 125 = .ok (.if_icmp .eq 8, 3) := by decide +kernel
theorem dX7_minute_128 : decode cX7_minute 128 = .ok (.aload_n 0, 1) := by decide +kernel
theorem dX7_minute_129 : decode cX7_minute 129 = .ok (.iload_n 3, 1) := by decide +kernel
theorem dX7_minute_130 : decode cX7_minute 130 = .ok (.invokevirtual 162, 3) := by decide +kernel
theorem dX7_minute_133 : decode cX7_minute 133 = .ok (.iload_n 1, 1) := by decide +kernel
theorem dX7_minute_134 : decode cX7_minute 134 = .ok (.ireturn, 1) := by decide +kernel
set_option maxRecDepth 20000 in
theorem ggX7_runs_X7_minute : GoodIn wsX7_runs wsX7_minute := goodIn_r _ [6, 7, 1, 8, 9, 10, 5, 11, 12, 13, 14, 15, 16, 17, 18, 19, 20, 21, 22, 23, 24, 25, 26, 27, 28, 29, 30, 31, 32, 33, 34, 35, 36, 37, 38, 39, 40, 41, 42, 43, 44, 45, 46, 47, 48, 49, 50, 51, 52, 53, 54, 55, 56, 57, 58, 59, 60, 61, 62, 63, 64, 65, 66, 67, 68, 69, 70, 71, 72, 73, 74, 75, 76, 77, 78, 79, 80, 81, 82, 83, 84, 85, 86, 87, 88, 89, 90, 91, 92, 93, 94, 95, 96, 97, 98, 99, 100, 101, 102, 103, 104, 105, 106, 107, 108, 109, 110, 111, 112, 113, 118, 119, 120, 121, 122, 123, 124, 125, 126, 127, 128, 129] (by decide +kernel) (by decide +kernel)
set_option maxRecDepth 20000 in
theorem gX7_runs_X7_minute : GoodIn wsX7_runs (wsV RX7 165 RX7 yX7_minute wsX7_minute) := goodIn_app (goodIn_of _ (by decide +kernel)) ggX7_runs_X7_minute
set_option maxRecDepth 20000 in
theorem ggX7_runs_X7_kindOfDay : GoodIn wsX7_runs wsX7_kindOfDay := goodIn_r _ [23, 1, 24, 25, 26, 5, 27, 28, 29, 30, 31, 118, 119, 120, 121, 122, 123, 124, 125, 126, 127, 128, 129] (by decide +kernel) (by decide +kernel)
set_option maxRecDepth 20000 in
theorem gX7_runs_X7_kindOfDay : GoodIn wsX7_runs (wsV RX7 110 RX7 yX7_kindOfDay wsX7_kindOfDay) := goodIn_app (goodIn_of _ (by decide +kernel)) ggX7_runs_X7_kindOfDay
set_option maxRecDepth 20000 in
theorem ggX7_runs_X7_holds : GoodIn wsX7_runs wsX7_holds := goodIn_r _ [117, 7, 1, 8, 9, 10, 5, 11, 12, 13, 14, 15, 32, 33, 34, 35, 110, 111, 112, 113, 118, 119, 120, 121, 122, 123, 124, 125, 126, 127, 128, 129] (by decide +kernel) (by decide +kernel)
set_option maxRecDepth 20000 in
theorem gX7_runs_X7_holds : GoodIn wsX7_runs (wsV RX7 168 RX7 yX7_holds wsX7_holds) := goodIn_app (goodIn_of _ (by decide +kernel)) ggX7_runs_X7_holds
theorem dX7_runs_0 : decode cX7_runs 0 = .ok (.aload_n 0, 1) := by decide +kernel
theorem dX7_runs_1 : decode cX7_runs 1 = .ok (.invokevirtual 165, 3) := by decide +kernel
theorem dX7_runs_4 : decode cX7_runs 4 = .ok (.istore_n 2, 1) := by decide +kernel
theorem dX7_runs_5 : decode cX7_runs 5 = .ok (.iconst 0, 1) := by decide +kernel
theorem dX7_runs_6 : decode cX7_runs 6 = .ok (.istore_n 3, 1) := by decide +kernel
theorem dX7_runs_7 : decode cX7_runs 7 = .ok (.iload_n 3, 1) := by decide +kernel
theorem dX7_runs_8 : decode cX7_runs 8 = .ok (.iload_n 1, 1) := by decide +kernel
theorem dX7_runs_9 : decode cX7_runs 9 = .ok (.if_icmp .ge 50, 3) := by decide +kernel
theorem dX7_runs_12 : decode cX7_runs 12 = .ok (.aload_n 0, 1) := by decide +kernel
theorem dX7_runs_13 : decode cX7_runs 13 = .ok (.getfield 7, 3) := by decide +kernel
theorem dX7_runs_16 : decode cX7_runs 16 = .ok (.iconst 4, 1) := by decide +kernel
theorem dX7_runs_17 : decode cX7_runs 17 = .ok (.dup2, 1) := by decide +kernel
theorem dX7_runs_18 : decode cX7_runs 18 = .ok (.iaload, 1) := by decide +kernel
theorem dX7_runs_19 : decode cX7_runs 19 = .ok (.iconst 1, 1) := by decide +kernel
theorem dX7_runs_20 : decode cX7_runs 20 = .ok (.iadd, 1) := by decide +kernel
theorem dX7_runs_21 : decode cX7_runs 21 = .ok (.iastore, 1) := by decide +kernel
theorem dX7_runs_22 : decode cX7_runs 22 = .ok (.aload_n 0, 1) := by decide +kernel
theorem dX7_runs_23 : decode cX7_runs 23 = .ok (.getfield 7, 3) := by decide +kernel
theorem dX7_runs_26 : decode cX7_runs 26 = .ok (.iconst 4, 1) := by decide +kernel
theorem dX7_runs_27 : decode cX7_runs 27 = .ok (.iaload, 1) := by decide +kernel
theorem dX7_runs_28 : decode cX7_runs 28 = .ok (.sipush 1440, 3) := by decide +kernel
theorem dX7_runs_31 : decode cX7_runs 31 = .ok (.irem, 1) := by decide +kernel
theorem dX7_runs_32 : decode cX7_runs 32 = .ok (.ifCond .ne 14, 3) := by decide +kernel
theorem dX7_runs_35 : decode cX7_runs 35 = .ok (.aload_n 0, 1) := by decide +kernel
theorem dX7_runs_36 : decode cX7_runs 36 = .ok (.invokevirtual 110, 3) := by decide +kernel
theorem dX7_runs_39 : decode cX7_runs 39 = .ok (.ifCond .ne 7, 3) := by decide +kernel
theorem dX7_runs_42 : decode cX7_runs 42 = .ok (.aload_n 0, 1) := by decide +kernel
theorem dX7_runs_43 : decode cX7_runs 43 = .ok (.invokevirtual 168, 3) := by decide +kernel
theorem dX7_runs_46 : decode cX7_runs 46 = .ok (.iload_n 2, 1) := by decide +kernel
theorem dX7_runs_47 : decode cX7_runs 47 = .ok (.aload_n 0, 1) := by decide +kernel
theorem dX7_runs_48 : decode cX7_runs 48 = .ok (.invokevirtual 165, 3) := by decide +kernel
theorem dX7_runs_51 : decode cX7_runs 51 = .ok (.iadd, 1) := by decide +kernel
theorem dX7_runs_52 : decode cX7_runs 52 = .ok (.istore_n 2, 1) := by decide +kernel
theorem dX7_runs_53 : decode cX7_runs 53 = .ok (.iinc 3 1, 3) := by decide +kernel
theorem dX7_runs_56 : decode cX7_runs 56 = .ok (.goto (-49), 3) := by decide +kernel
theorem dX7_runs_59 : decode cX7_runs 59 = .ok (.iload_n 2, 1) := by decide +kernel
theorem dX7_runs_60 : decode cX7_runs 60 = .ok (.ireturn, 1) := by decide +kernel
set_option maxRecDepth 20000 in
theorem ggX7_run_X7_in : GoodIn wsX7_run wsX7_in := goodIn_r _ [8] (by decide +kernel) (by decide +kernel)
set_option maxRecDepth 20000 in
theorem gX7_run_X7_in : GoodIn wsX7_run (va_wsS RX7 54 yX7_in wsX7_in) := goodIn_app (goodIn_of _ (by decide +kernel)) ggX7_run_X7_in
set_option maxRecDepth 20000 in
theorem ggX7_run_X7_records : GoodIn wsX7_run wsX7_records := goodIn_r _ [12, 13, 14, 2, 131, 132, 133, 134, 135, 136, 137, 138, 139, 140, 141, 142] (by decide +kernel) (by decide +kernel)
set_option maxRecDepth 20000 in
theorem gX7_run_X7_records : GoodIn wsX7_run (wsV RX7 97 RX7 yX7_records wsX7_records) := goodIn_app (goodIn_of _ (by decide +kernel)) ggX7_run_X7_records
set_option maxRecDepth 20000 in
theorem ggX7_run_X7_runs : GoodIn wsX7_run wsX7_runs := goodIn_r _ [18, 2, 19, 20, 21, 7, 22, 23, 24, 25, 26, 27, 28, 29, 30, 31, 32, 33, 34, 35, 36, 37, 38, 39, 40, 41, 42, 43, 44, 45, 46, 47, 48, 49, 50, 51, 52, 53, 54, 55, 56, 57, 58, 59, 60, 61, 62, 63, 64, 65, 66, 67, 68, 69, 70, 71, 72, 73, 74, 75, 76, 77, 78, 79, 80, 81, 82, 5, 6, 8, 83, 84, 85, 86, 87, 88, 89, 90, 91, 92, 93, 94, 95, 96, 97, 98, 99, 100, 101, 102, 103, 104, 105, 106, 107, 108, 109, 110, 111, 112, 113, 114, 115, 116, 117, 118, 119, 120, 121, 122, 123, 124, 125, 126, 127, 128, 129, 130, 131, 132, 133, 134, 135, 136, 137, 138, 139, 140, 141, 142] (by decide +kernel) (by decide +kernel)
set_option maxRecDepth 20000 in
theorem gX7_run_X7_runs : GoodIn wsX7_run (wsV RX7 171 RX7 yX7_runs wsX7_runs) := goodIn_app (goodIn_of _ (by decide +kernel)) ggX7_run_X7_runs
theorem dX7_run_0 : decode cX7_run 0 = .ok (.iload_n 1, 1) := by decide +kernel
theorem dX7_run_1 : decode cX7_run 1 = .ok (.iconst 0, 1) := by decide +kernel
theorem dX7_run_2 : decode cX7_run 2 = .ok (.sipush 2000, 3) := by decide +kernel
theorem dX7_run_5 : decode cX7_run 5 = .ok (.invokestatic 54, 3) := by decide +kernel
theorem dX7_run_8 : decode cX7_run 8 = .ok (.ifCond .ne 6, 3) := by decide +kernel
theorem dX7_run_11 : decode cX7_run 11 = .ok (.ldc 96, 2) := by decide +kernel
theorem dX7_run_13 : decode cX7_run 13 = .ok (.ireturn, 1) := by decide +kernel
theorem dX7_run_14 : decode cX7_run 14 = .ok (.aload_n 0, 1) := by decide +kernel
theorem dX7_run_15 : decode cX7_run 15 = .ok (.getfield 7, 3) := by decide +kernel
theorem dX7_run_18 : decode cX7_run 18 = .ok (.iconst 4, 1) := by decide +kernel
theorem dX7_run_19 : decode cX7_run 19 = .ok (.iaload, 1) := by decide +kernel
theorem dX7_run_20 : decode cX7_run 20 = .ok (.iload_n 1, 1) := by decide +kernel
theorem dX7_run_21 : decode cX7_run 21 = .ok (.iadd, 1) := by decide +kernel
theorem dX7_run_22 : decode cX7_run 22 = .ok (.ldc 129, 2) := by decide +kernel
theorem dX7_run_24 : decode cX7_run 24 = .ok (.if_icmp .le 6, 3) := by decide +kernel
theorem dX7_run_27 : decode cX7_run 27 = .ok (.ldc 141, 2) := by decide +kernel
theorem dX7_run_29 : decode cX7_run 29 = .ok (.ireturn, 1) := by decide +kernel
theorem dX7_run_30 : decode cX7_run 30 = .ok (.aload_n 0, 1) := by decide +kernel
theorem dX7_run_31 : decode cX7_run 31 = .ok (.invokevirtual 97, 3) := by decide +kernel
theorem dX7_run_34 : decode cX7_run 34 = .ok (.aload_n 0, 1) := by decide +kernel
theorem dX7_run_35 : decode cX7_run 35 = .ok (.iload_n 1, 1) := by decide +kernel
theorem dX7_run_36 : decode cX7_run 36 = .ok (.invokevirtual 171, 3) := by decide +kernel
theorem dX7_run_39 : decode cX7_run 39 = .ok (.ireturn, 1) := by decide +kernel
set_option maxRecDepth 20000 in
theorem ggX7_ifRun_X7_in : GoodIn wsX7_ifRun wsX7_in := goodIn_r _ [9] (by decide +kernel) (by decide +kernel)
set_option maxRecDepth 20000 in
theorem gX7_ifRun_X7_in : GoodIn wsX7_ifRun (va_wsS RX7 54 yX7_in wsX7_in) := goodIn_app (goodIn_of _ (by decide +kernel)) ggX7_ifRun_X7_in
set_option maxRecDepth 20000 in
theorem ggX7_ifRun_X7_copies : GoodIn wsX7_ifRun wsX7_copies := goodIn_r _ [13] (by decide +kernel) (by decide +kernel)
set_option maxRecDepth 20000 in
theorem gX7_ifRun_X7_copies : GoodIn wsX7_ifRun (wsV RX7 174 RX7 yX7_copies wsX7_copies) := goodIn_app (goodIn_of _ (by decide +kernel)) ggX7_ifRun_X7_copies
set_option maxRecDepth 20000 in
theorem ggX7_ifRun_X7_runs : GoodIn wsX7_ifRun wsX7_runs := goodIn_r _ [17, 2, 18, 19, 20, 8, 21, 22, 23, 24, 25, 26, 27, 28, 29, 30, 31, 32, 33, 34, 35, 36, 37, 38, 39, 40, 41, 42, 43, 44, 45, 46, 47, 48, 49, 50, 51, 52, 53, 54, 55, 56, 57, 58, 59, 60, 61, 62, 63, 64, 65, 66, 67, 68, 69, 70, 71, 72, 73, 74, 75, 76, 77, 78, 79, 80, 81, 6, 7, 9, 82, 83, 84, 85, 86, 87, 88, 89, 90, 91, 92, 93, 94, 95, 96, 97, 98, 99, 100, 101, 102, 103, 104, 105, 106, 107, 108, 109, 110, 111, 112, 113, 114, 115, 116, 117, 118, 119, 120, 121, 122, 123, 124, 125, 126, 127, 128, 129, 134, 135, 136, 137, 138, 139, 140, 141, 142, 143, 144, 145] (by decide +kernel) (by decide +kernel)
set_option maxRecDepth 20000 in
theorem gX7_ifRun_X7_runs : GoodIn wsX7_ifRun (wsV RX7 171 RX7 yX7_runs wsX7_runs) := goodIn_app (goodIn_of _ (by decide +kernel)) ggX7_ifRun_X7_runs
set_option maxRecDepth 20000 in
theorem ggX7_ifRun_X7_manyIn : GoodIn wsX7_ifRun wsX7_manyIn := goodIn_r _ [133, 2, 27, 28, 29, 8, 30, 134, 135, 136, 137, 138, 139, 140, 141, 142, 143, 144, 145] (by decide +kernel) (by decide +kernel)
set_option maxRecDepth 20000 in
theorem gX7_ifRun_X7_manyIn : GoodIn wsX7_ifRun (wsV RX7 113 RX7 yX7_manyIn wsX7_manyIn) := goodIn_app (goodIn_of _ (by decide +kernel)) ggX7_ifRun_X7_manyIn
theorem dX7_ifRun_0 : decode cX7_ifRun 0 = .ok (.iload_n 1, 1) := by decide +kernel
theorem dX7_ifRun_1 : decode cX7_ifRun 1 = .ok (.iconst 0, 1) := by decide +kernel
theorem dX7_ifRun_2 : decode cX7_ifRun 2 = .ok (.sipush 2000, 3) := by decide +kernel
theorem dX7_ifRun_5 : decode cX7_ifRun 5 = .ok (.invokestatic 54, 3) := by decide +kernel
theorem dX7_ifRun_8 : decode cX7_ifRun 8 = .ok (.ifCond .ne 6, 3) := by decide +kernel
theorem dX7_ifRun_11 : decode cX7_ifRun 11 = .ok (.ldc 96, 2) := by decide +kernel
theorem dX7_ifRun_13 : decode cX7_ifRun 13 = .ok (.ireturn, 1) := by decide +kernel
theorem dX7_ifRun_14 : decode cX7_ifRun 14 = .ok (.aload_n 0, 1) := by decide +kernel
theorem dX7_ifRun_15 : decode cX7_ifRun 15 = .ok (.getfield 7, 3) := by decide +kernel
theorem dX7_ifRun_18 : decode cX7_ifRun 18 = .ok (.iconst 4, 1) := by decide +kernel
theorem dX7_ifRun_19 : decode cX7_ifRun 19 = .ok (.iaload, 1) := by decide +kernel
theorem dX7_ifRun_20 : decode cX7_ifRun 20 = .ok (.iload_n 1, 1) := by decide +kernel
theorem dX7_ifRun_21 : decode cX7_ifRun 21 = .ok (.iadd, 1) := by decide +kernel
theorem dX7_ifRun_22 : decode cX7_ifRun 22 = .ok (.ldc 129, 2) := by decide +kernel
theorem dX7_ifRun_24 : decode cX7_ifRun 24 = .ok (.if_icmp .le 6, 3) := by decide +kernel
theorem dX7_ifRun_27 : decode cX7_ifRun 27 = .ok (.ldc 141, 2) := by decide +kernel
theorem dX7_ifRun_29 : decode cX7_ifRun 29 = .ok (.ireturn, 1) := by decide +kernel
theorem dX7_ifRun_30 : decode cX7_ifRun 30 = .ok (.aload_n 0, 1) := by decide +kernel
theorem dX7_ifRun_31 : decode cX7_ifRun 31 = .ok (.aload_n 0, 1) := by decide +kernel
theorem dX7_ifRun_32 : decode cX7_ifRun 32 = .ok (.getfield 16, 3) := by decide +kernel
theorem dX7_ifRun_35 : decode cX7_ifRun 35 = .ok (.aload_n 0, 1) := by decide +kernel
theorem dX7_ifRun_36 : decode cX7_ifRun 36 = .ok (.getfield 7, 3) := by decide +kernel
theorem dX7_ifRun_39 : decode cX7_ifRun 39 = .ok (.invokevirtual 174, 3) := by decide +kernel
theorem dX7_ifRun_42 : decode cX7_ifRun 42 = .ok (.aload_n 0, 1) := by decide +kernel
theorem dX7_ifRun_43 : decode cX7_ifRun 43 = .ok (.iload_n 1, 1) := by decide +kernel
theorem dX7_ifRun_44 : decode cX7_ifRun 44 = .ok (.invokevirtual 171, 3) := by decide +kernel
theorem dX7_ifRun_47 : decode cX7_ifRun 47 = .ok (.pop, 1) := by decide +kernel
theorem dX7_ifRun_48 : decode cX7_ifRun 48 = .ok (.aload_n 0, 1) := by decide +kernel
theorem dX7_ifRun_49 : decode cX7_ifRun 49 = .ok (.iconst 2, 1) := by decide +kernel
theorem dX7_ifRun_50 : decode cX7_ifRun 50 = .ok (.invokevirtual 113, 3) := by decide +kernel
theorem dX7_ifRun_53 : decode cX7_ifRun 53 = .ok (.istore_n 2, 1) := by decide +kernel
theorem dX7_ifRun_54 : decode cX7_ifRun 54 = .ok (.aload_n 0, 1) := by decide +kernel
theorem dX7_ifRun_55 : decode cX7_ifRun 55 = .ok (.aload_n 0, 1) := by decide +kernel
theorem dX7_ifRun_56 : decode cX7_ifRun 56 = .ok (.getfield 7, 3) := by decide +kernel
theorem dX7_ifRun_59 : decode cX7_ifRun 59 = .ok (.aload_n 0, 1) := by decide +kernel
theorem dX7_ifRun_60 : decode cX7_ifRun 60 = .ok (.getfield 16, 3) := by decide +kernel
theorem dX7_ifRun_63 : decode cX7_ifRun 63 = .ok (.invokevirtual 174, 3) := by decide +kernel
theorem dX7_ifRun_66 : decode cX7_ifRun 66 = .ok (.iload_n 2, 1) := by decide +kernel
theorem dX7_ifRun_67 : decode cX7_ifRun 67 = .ok (.ireturn, 1) := by decide +kernel
theorem dX7_undo_0 : decode cX7_undo 0 = .ok (.aload_n 0, 1) := by decide +kernel
theorem dX7_undo_1 : decode cX7_undo 1 = .ok (.getfield 25, 3) := by decide +kernel
theorem dX7_undo_4 : decode cX7_undo 4 = .ok (.ifCond .ne 6, 3) := by decide +kernel
theorem dX7_undo_7 : decode cX7_undo 7 = .ok (.ldc 103, 2) := by decide +kernel
theorem dX7_undo_9 : decode cX7_undo 9 = .ok (.ireturn, 1) := by decide +kernel
theorem dX7_undo_10 : decode cX7_undo 10 = .ok (.aload_n 0, 1) := by decide +kernel
theorem dX7_undo_11 : decode cX7_undo 11 = .ok (.dup, 1) := by decide +kernel
theorem dX7_undo_12 : decode cX7_undo 12 = .ok (.getfield 25, 3) := by decide +kernel
theorem dX7_undo_15 : decode cX7_undo 15 = .ok (.iconst 1, 1) := by decide +kernel
theorem dX7_undo_16 : decode cX7_undo 16 = .ok (.isub, 1) := by decide +kernel
theorem dX7_undo_17 : decode cX7_undo 17 = .ok (.putfield 25, 3) := by decide +kernel
theorem dX7_undo_20 : decode cX7_undo 20 = .ok (.iconst 0, 1) := by decide +kernel
theorem dX7_undo_21 : decode cX7_undo 21 = .ok (.istore_n 1, 1) := by decide +kernel
theorem dX7_undo_22 : decode cX7_undo 22 = .ok (.iload_n 1, 1) := by decide +kernel
theorem dX7_undo_23 : decode cX7_undo 23 = .ok (.sipush 193, 3) := by decide +kernel
theorem dX7_undo_26 : decode cX7_undo 26 = .ok (.if_icmp .ge 30, 3) := by decide +kernel
theorem dX7_undo_29 : decode cX7_undo 29 = .ok (.aload_n 0, 1) := by decide +kernel
theorem dX7_undo_30 : decode cX7_undo 30 = .ok (.getfield 7, 3) := by decide +kernel
theorem dX7_undo_33 : decode cX7_undo 33 = .ok (.iload_n 1, 1) := by decide +kernel
theorem dX7_undo_34 : decode cX7_undo 34 = .ok (.aload_n 0, 1) := by decide +kernel
theorem dX7_undo_35 : decode cX7_undo 35 = .ok (.getfield 13, 3) := by decide +kernel
theorem dX7_undo_38 : decode cX7_undo 38 = .ok (.sipush 193, 3) := by decide +kernel
theorem dX7_undo_41 : decode cX7_undo 41 = .ok (.aload_n 0, 1) := by decide +kernel
theorem dX7_undo_42 : decode cX7_undo 42 = .ok (.getfield 25, 3) := by decide +kernel
theorem dX7_undo_45 : decode cX7_undo 45 = .ok (.imul, 1) := by decide +kernel
theorem dX7_undo_46 : decode cX7_undo 46 = .ok (.iload_n 1, 1) := by decide +kernel
theorem dX7_undo_47 : decode cX7_undo 47 = .ok (.iadd, 1) := by decide +kernel
theorem dX7_undo_48 : decode cX7_undo 48 = .ok (.iaload, 1) := by decide +kernel
theorem dX7_undo_49 : decode cX7_undo 49 = .ok (.iastore, 1) := by decide +kernel
theorem dX7_undo_50 : decode cX7_undo 50 = .ok (.iinc 1 1, 3) := by decide +kernel
theorem dX7_undo_53 : decode cX7_undo 53 = .ok (.goto (-31), 3) := by decide +kernel
theorem dX7_undo_56 : decode cX7_undo 56 = .ok (.aload_n 0, 1) := by decide +kernel
theorem dX7_undo_57 : decode cX7_undo 57 = .ok (.getfield 25, 3) := by decide +kernel
theorem dX7_undo_60 : decode cX7_undo 60 = .ok (.ireturn, 1) := by decide +kernel
set_option maxRecDepth 20000 in
theorem ggX7_type_X7_in : GoodIn wsX7_type wsX7_in := goodIn_r _ [8] (by decide +kernel) (by decide +kernel)
set_option maxRecDepth 20000 in
theorem gX7_type_X7_in : GoodIn wsX7_type (va_wsS RX7 54 yX7_in wsX7_in) := goodIn_app (goodIn_of _ (by decide +kernel)) ggX7_type_X7_in
theorem dX7_type_0 : decode cX7_type 0 = .ok (.iload_n 1, 1) := by decide +kernel
theorem dX7_type_1 : decode cX7_type 1 = .ok (.bipush 32, 2) := by decide +kernel
theorem dX7_type_3 : decode cX7_type 3 = .ok (.bipush 126, 2) := by decide +kernel
theorem dX7_type_5 : decode cX7_type 5 = .ok (.invokestatic 54, 3) := by decide +kernel
theorem dX7_type_8 : decode cX7_type 8 = .ok (.ifCond .ne 6, 3) := by decide +kernel
theorem dX7_type_11 : decode cX7_type 11 = .ok (.ldc 96, 2) := by decide +kernel
theorem dX7_type_13 : decode cX7_type 13 = .ok (.ireturn, 1) := by decide +kernel
theorem dX7_type_14 : decode cX7_type 14 = .ok (.aload_n 0, 1) := by decide +kernel
theorem dX7_type_15 : decode cX7_type 15 = .ok (.getfield 119, 3) := by decide +kernel
theorem dX7_type_18 : decode cX7_type 18 = .ok (.bipush 100, 2) := by decide +kernel
theorem dX7_type_20 : decode cX7_type 20 = .ok (.if_icmp .ne 6, 3) := by decide +kernel
theorem dX7_type_23 : decode cX7_type 23 = .ok (.ldc 141, 2) := by decide +kernel
theorem dX7_type_25 : decode cX7_type 25 = .ok (.ireturn, 1) := by decide +kernel
theorem dX7_type_26 : decode cX7_type 26 = .ok (.aload_n 0, 1) := by decide +kernel
theorem dX7_type_27 : decode cX7_type 27 = .ok (.getfield 19, 3) := by decide +kernel
theorem dX7_type_30 : decode cX7_type 30 = .ok (.aload_n 0, 1) := by decide +kernel
theorem dX7_type_31 : decode cX7_type 31 = .ok (.getfield 119, 3) := by decide +kernel
theorem dX7_type_34 : decode cX7_type 34 = .ok (.iload_n 1, 1) := by decide +kernel
theorem dX7_type_35 : decode cX7_type 35 = .ok (.iastore, 1) := by decide +kernel
theorem dX7_type_36 : decode cX7_type 36 = .ok (.aload_n 0, 1) := by decide +kernel
theorem dX7_type_37 : decode cX7_type 37 = .ok (.dup, 1) := by decide +kernel
theorem dX7_type_38 : decode cX7_type 38 = .ok (.getfield 119, 3) := by decide +kernel
theorem dX7_type_41 : decode cX7_type 41 = .ok (.iconst 1, 1) := by decide +kernel
theorem dX7_type_42 : decode cX7_type 42 = .ok (.iadd, 1) := by decide +kernel
theorem dX7_type_43 : decode cX7_type 43 = .ok (.putfield 119, 3) := by decide +kernel
theorem dX7_type_46 : decode cX7_type 46 = .ok (.aload_n 0, 1) := by decide +kernel
theorem dX7_type_47 : decode cX7_type 47 = .ok (.getfield 119, 3) := by decide +kernel
theorem dX7_type_50 : decode cX7_type 50 = .ok (.ireturn, 1) := by decide +kernel
theorem dX7_clearText_0 : decode cX7_clearText 0 = .ok (.aload_n 0, 1) := by decide +kernel
theorem dX7_clearText_1 : decode cX7_clearText 1 = .ok (.getfield 119, 3) := by decide +kernel
theorem dX7_clearText_4 : decode cX7_clearText 4 = .ok (.istore_n 1, 1) := by decide +kernel
theorem dX7_clearText_5 : decode cX7_clearText 5 = .ok (.aload_n 0, 1) := by decide +kernel
theorem dX7_clearText_6 : decode cX7_clearText 6 = .ok (.iconst 0, 1) := by decide +kernel
theorem dX7_clearText_7 : decode cX7_clearText 7 = .ok (.putfield 119, 3) := by decide +kernel
theorem dX7_clearText_10 : decode cX7_clearText 10 = .ok (.iload_n 1, 1) := by decide +kernel
theorem dX7_clearText_11 : decode cX7_clearText 11 = .ok (.ireturn, 1) := by decide +kernel
set_option maxRecDepth 20000 in
theorem ggX7_isPart_X7_in : GoodIn wsX7_isPart wsX7_in := goodIn_r _ [8] (by decide +kernel) (by decide +kernel)
set_option maxRecDepth 20000 in
theorem gX7_isPart_X7_in : GoodIn wsX7_isPart (va_wsS RX7 54 yX7_in wsX7_in) := goodIn_app (goodIn_of _ (by decide +kernel)) ggX7_isPart_X7_in
theorem dX7_isPart_0 : decode cX7_isPart 0 = .ok (.aload_n 0, 1) := by decide +kernel
theorem dX7_isPart_1 : decode cX7_isPart 1 = .ok (.getfield 178, 3) := by decide +kernel
theorem dX7_isPart_4 : decode cX7_isPart 4 = .ok (.aload_n 0, 1) := by decide +kernel
theorem dX7_isPart_5 : decode cX7_isPart 5 = .ok (.getfield 119, 3) := by decide +kernel
theorem dX7_isPart_8 : decode cX7_isPart 8 = .ok (.if_icmp .eq 16, 3) := by decide +kernel
theorem dX7_isPart_11 : decode cX7_isPart 11 = .ok (.aload_n 0, 1) := by decide +kernel
theorem dX7_isPart_12 : decode cX7_isPart 12 = .ok (.getfield 19, 3) := by decide +kernel
theorem dX7_isPart_15 : decode cX7_isPart 15 = .ok (.aload_n 0, 1) := by decide +kernel
theorem dX7_isPart_16 : decode cX7_isPart 16 = .ok (.getfield 178, 3) := by decide +kernel
theorem dX7_isPart_19 : decode cX7_isPart 19 = .ok (.iaload, 1) := by decide +kernel
theorem dX7_isPart_20 : decode cX7_isPart 20 = .ok (.iload_n 1, 1) := by decide +kernel
theorem dX7_isPart_21 : decode cX7_isPart 21 = .ok (.if_icmp .eq 5, 3) := by decide +kernel
theorem dX7_isPart_24 : decode cX7_isPart 24 = .ok (.iconst 0, 1) := by decide +kernel
theorem dX7_isPart_25 : decode cX7_isPart 25 = .ok (.ireturn, 1) := by decide +kernel
theorem dX7_isPart_26 : decode cX7_isPart 26 = .ok (.aload_n 0, 1) := by decide +kernel
theorem dX7_isPart_27 : decode cX7_isPart 27 = .ok (.dup, 1) := by decide +kernel
theorem dX7_isPart_28 : decode cX7_isPart 28 = .ok (.getfield 178, 3) := by decide +kernel
theorem dX7_isPart_31 : decode cX7_isPart 31 = .ok (.iconst 1, 1) := by decide +kernel
theorem dX7_isPart_32 : decode cX7_isPart 32 = .ok (.iadd, 1) := by decide +kernel
theorem dX7_isPart_33 : decode cX7_isPart 33 = .ok (.putfield 178, 3) := by decide +kernel
theorem dX7_isPart_36 : decode cX7_isPart 36 = .ok (.aload_n 0, 1) := by decide +kernel
theorem dX7_isPart_37 : decode cX7_isPart 37 = .ok (.getfield 178, 3) := by decide +kernel
theorem dX7_isPart_40 : decode cX7_isPart 40 = .ok (.istore_n 3, 1) := by decide +kernel
theorem dX7_isPart_41 : decode cX7_isPart 41 = .ok (.iconst 0, 1) := by decide +kernel
theorem dX7_isPart_42 : decode cX7_isPart 42 = .ok (.istore 4, 2) := by decide +kernel
theorem dX7_isPart_44 : decode cX7_isPart 44 = .ok (.aload_n 0, 1) := by decide +kernel
theorem dX7_isPart_45 : decode cX7_isPart 45 = .ok (.getfield 178, 3) := by decide +kernel
theorem dX7_isPart_48 : decode cX7_isPart 48 = .ok (.aload_n 0, 1) := by decide +kernel
theorem dX7_isPart_49 : decode cX7_isPart 49 = .ok (.getfield 119, 3) := by decide +kernel
theorem dX7_isPart_52 : decode cX7_isPart 52 = .ok (.if_icmp .ge 65, 3) := by decide +kernel
theorem dX7_isPart_55 : decode cX7_isPart 55 = .ok (.aload_n 0, 1) := by decide +kernel
theorem dX7_isPart_56 : decode cX7_isPart 56 = .ok (.getfield 178, 3) := by decide +kernel
theorem dX7_isPart_59 : decode cX7_isPart 59 = .ok (.iload_n 3, 1) := by decide +kernel
theorem dX7_isPart_60 : decode cX7_isPart 60 = .ok (.isub, 1) := by decide +kernel
theorem dX7_isPart_61 : decode cX7_isPart 61 = .ok (.iconst 5, 1) := by decide +kernel
theorem dX7_isPart_62 : decode cX7_isPart 62 = .ok (.if_icmp .ge 55, 3) := by decide +kernel
theorem dX7_isPart_65 : decode cX7_isPart 65 = .ok (.aload_n 0, 1) := by decide +kernel
theorem dX7_isPart_66 : decode cX7_isPart 66 = .ok (.getfield 19, 3) := by decide +kernel
theorem dX7_isPart_69 : decode cX7_isPart 69 = .ok (.aload_n 0, 1) := by decide +kernel
theorem dX7_isPart_70 : decode cX7_isPart 70 = .ok (.getfield 178, 3) := by decide +kernel
theorem dX7_isPart_73 : decode cX7_isPart 73 = .ok (.iaload, 1) := by decide +kernel
theorem dX7_isPart_74 : decode cX7_isPart 74 = .ok (.bipush 48, 2) := by decide +kernel
theorem dX7_isPart_76 : decode cX7_isPart 76 = .ok (.bipush 57, 2) := by decide +kernel
theorem dX7_isPart_78 : decode cX7_isPart 78 = .ok (.invokestatic 54, 3) := by decide +kernel
theorem dX7_isPart_81 : decode cX7_isPart 81 = .ok (.ifCond .eq 36, 3) := by decide +kernel
theorem dX7_isPart_84 : decode cX7_isPart 84 = .ok (.bipush 10, 2) := by decide +kernel
theorem dX7_isPart_86 : decode cX7_isPart 86 = .ok (.iload 4, 2) := by decide +kernel
theorem dX7_isPart_88 : decode cX7_isPart 88 = .ok (.imul, 1) := by decide +kernel
theorem dX7_isPart_89 : decode cX7_isPart 89 = .ok (.aload_n 0, 1) := by decide +kernel
theorem dX7_isPart_90 : decode cX7_isPart 90 = .ok (.getfield 19, 3) := by decide +kernel
theorem dX7_isPart_93 : decode cX7_isPart 93 = .ok (.aload_n 0, 1) := by decide +kernel
theorem dX7_isPart_94 : decode cX7_isPart 94 = .ok (.getfield 178, 3) := by decide +kernel
theorem dX7_isPart_97 : decode cX7_isPart 97 = .ok (.iaload, 1) := by decide +kernel
theorem dX7_isPart_98 : decode cX7_isPart 98 = .ok (.iadd, 1) := by decide +kernel
theorem dX7_isPart_99 : decode cX7_isPart 99 = .ok (.bipush 48, 2) := by decide +kernel
theorem dX7_isPart_101 : decode cX7_isPart 101 = .ok (.isub, 1) := by decide +kernel
theorem dX7_isPart_102 : decode cX7_isPart 102 = .ok (.istore 4, 2) := by decide +kernel
theorem dX7_isPart_104 : decode cX7_isPart 104 = .ok (.aload_n 0, 1) := by decide +kernel
theorem dX7_isPart_105 : decode cX7_isPart 105 = .ok (.dup, 1) := by decide +kernel
theorem dX7_isPart_106 : decode cX7_isPart 106 = .ok (.getfield 178, 3) := by decide +kernel
theorem dX7_isPart_109 : decode cX7_isPart 109 = .ok (.iconst 1, 1) := by decide +kernel
theorem dX7_isPart_110 : decode cX7_isPart 110 = .ok (.iadd, 1) := by decide +kernel
theorem dX7_isPart_111 : decode cX7_isPart 111 = .ok (.putfield 178, 3) := by decide +kernel
theorem dX7_isPart_114 : decode cX7_isPart 114 = .ok (.goto (-70), 3) := by decide +kernel
theorem dX7_isPart_117 : decode cX7_isPart 117 = .ok (.aload_n 0, 1) := by decide +kernel
theorem dX7_isPart_118 : decode cX7_isPart 118 = .ok (.getfield 22, 3) := by decide +kernel
theorem dX7_isPart_121 : decode cX7_isPart 121 = .ok (.iload_n 2, 1) := by decide +kernel
theorem dX7_isPart_122 : decode cX7_isPart 122 = .ok (.iload 4, 2) := by decide +kernel
theorem dX7_isPart_124 : decode cX7_isPart 124 = .ok (.iastore, 1) := by decide +kernel
theorem dX7_isPart_125 : decode cX7_isPart 125 = .ok (.aload_n 0, 1) := by decide +kernel
theorem dX7_isPart_126 : decode cX7_isPart 126 = .ok (.getfield 178, 3) := by decide +kernel
theorem dX7_isPart_129 : decode cX7_isPart 129 = .ok (.iload_n 3, 1) := by decide +kernel
theorem dX7_isPart_130 : decode cX7_isPart 130 = .ok (.if_icmp .le 7, 3) := by decide +kernel
theorem dX7_isPart_133 : decode cX7_isPart 133 = .ok (.iconst 1, 1) := by decide +kernel
theorem dX7_isPart_134 : decode cX7_isPart 134 = .ok (.goto 4, 3) := by decide +kernel
theorem dX7_isPart_137 : decode cX7_isPart 137 = .ok (.iconst 0, 1) := by decide +kernel
theorem dX7_isPart_138 : decode cX7_isPart 138 = .ok (.ireturn, 1) := by decide +kernel
set_option maxRecDepth 20000 in
theorem ggX7_reason_X7_isPart : GoodIn wsX7_reason wsX7_isPart := goodIn_r _ [9, 1, 2, 3, 4, 10, 11, 8, 12, 21, 22, 23, 24, 25, 26, 27, 28, 29, 30, 31, 32] (by decide +kernel) (by decide +kernel)
set_option maxRecDepth 20000 in
theorem gX7_reason_X7_isPart : GoodIn wsX7_reason (wsV RX7 181 RX7 yX7_isPart wsX7_isPart) := goodIn_app (goodIn_of _ (by decide +kernel)) ggX7_reason_X7_isPart
set_option maxRecDepth 20000 in
theorem ggX7_reason_X7_isGood : GoodIn wsX7_reason wsX7_isGood := goodIn_r _ [15, 16, 10, 11, 8, 12, 17, 18, 19, 20] (by decide +kernel) (by decide +kernel)
set_option maxRecDepth 20000 in
theorem gX7_reason_X7_isGood : GoodIn wsX7_reason (va_wsS RX7 137 yX7_isGood wsX7_isGood) := goodIn_app (goodIn_of _ (by decide +kernel)) ggX7_reason_X7_isGood
theorem dX7_reason_0 : decode cX7_reason 0 = .ok (.aload_n 0, 1) := by decide +kernel
theorem dX7_reason_1 : decode cX7_reason 1 = .ok (.bipush 97, 2) := by decide +kernel
theorem dX7_reason_3 : decode cX7_reason 3 = .ok (.iconst 0, 1) := by decide +kernel
theorem dX7_reason_4 : decode cX7_reason 4 = .ok (.invokevirtual 181, 3) := by decide +kernel
theorem dX7_reason_7 : decode cX7_reason 7 = .ok (.ifCond .eq 47, 3) := by decide +kernel
theorem dX7_reason_10 : decode cX7_reason 10 = .ok (.aload_n 0, 1) := by decide +kernel
theorem dX7_reason_11 : decode cX7_reason 11 = .ok (.bipush 101, 2) := by decide +kernel
theorem dX7_reason_13 : decode cX7_reason 13 = .ok (.iconst 1, 1) := by decide +kernel
theorem dX7_reason_14 : decode cX7_reason 14 = .ok (.invokevirtual 181, 3) := by decide +kernel
theorem dX7_reason_17 : decode cX7_reason 17 = .ok (.ifCond .eq 37, 3) := by decide +kernel
theorem dX7_reason_20 : decode cX7_reason 20 = .ok (.aload_n 0, 1) := by decide +kernel
theorem dX7_reason_21 : decode cX7_reason 21 = .ok (.bipush 102, 2) := by decide +kernel
theorem dX7_reason_23 : decode cX7_reason 23 = .ok (.iconst 2, 1) := by decide +kernel
theorem dX7_reason_24 : decode cX7_reason 24 = .ok (.invokevirtual 181, 3) := by decide +kernel
theorem dX7_reason_27 : decode cX7_reason 27 = .ok (.ifCond .eq 27, 3) := by decide +kernel
theorem dX7_reason_30 : decode cX7_reason 30 = .ok (.aload_n 0, 1) := by decide +kernel
theorem dX7_reason_31 : decode cX7_reason 31 = .ok (.bipush 116, 2) := by decide +kernel
theorem dX7_reason_33 : decode cX7_reason 33 = .ok (.iconst 3, 1) := by decide +kernel
theorem dX7_reason_34 : decode cX7_reason 34 = .ok (.invokevirtual 181, 3) := by decide +kernel
theorem dX7_reason_37 : decode cX7_reason 37 = .ok (.ifCond .eq 17, 3) := by decide +kernel
theorem dX7_reason_40 : decode cX7_reason 40 = .ok (.aload_n 0, 1) := by decide +kernel
theorem dX7_reason_41 : decode cX7_reason 41 = .ok (.bipush 100, 2) := by decide +kernel
theorem dX7_reason_43 : decode cX7_reason 43 = .ok (.iconst 4, 1) := by decide +kernel
theorem dX7_reason_44 : decode cX7_reason 44 = .ok (.invokevirtual 181, 3) := by decide +kernel
theorem dX7_reason_47 : decode cX7_reason 47 = .ok (.ifCond .eq 7, 3) := by decide +kernel
theorem dX7_reason_50 : decode cX7_reason 50 = .ok (.iconst 1, 1) := by decide +kernel
theorem dX7_reason_51 : decode cX7_reason 51 = .ok (.goto 4, 3) := by decide +kernel
theorem dX7_reason_54 : decode cX7_reason 54 = .ok (.iconst 0, 1) := by decide +kernel
theorem dX7_reason_55 : decode cX7_reason 55 = .ok (.istore_n 2, 1) := by decide +kernel
theorem dX7_reason_56 : decode cX7_reason 56 = .ok (.iload_n 2, 1) := by decide +kernel
theorem dX7_reason_57 : decode cX7_reason 57 = .ok (.ifCond .eq 32, 3) := by decide +kernel
theorem dX7_reason_60 : decode cX7_reason 60 = .ok (.aload_n 0, 1) := by decide +kernel
theorem dX7_reason_61 : decode cX7_reason 61 = .ok (.getfield 178, 3) := by decide +kernel
theorem dX7_reason_64 : decode cX7_reason 64 = .ok (.aload_n 0, 1) := by decide +kernel
theorem dX7_reason_65 : decode cX7_reason 65 = .ok (.getfield 119, 3) := by decide +kernel
theorem dX7_reason_68 : decode cX7_reason 68 = .ok (.if_icmp .ge 21, 3) := by decide +kernel
theorem dX7_reason_71 : decode cX7_reason 71 = .ok (.aload_n 0, 1) := by decide +kernel
theorem dX7_reason_72 : decode cX7_reason 72 = .ok (.getfield 19, 3) := by decide +kernel
theorem dX7_reason_75 : decode cX7_reason 75 = .ok (.aload_n 0, 1) := by decide +kernel
theorem dX7_reason_76 : decode cX7_reason 76 = .ok (.getfield 178, 3) := by decide +kernel
theorem dX7_reason_79 : decode cX7_reason 79 = .ok (.iaload, 1) := by decide +kernel
theorem dX7_reason_80 : decode cX7_reason 80 = .ok (.bipush 112, 2) := by decide +kernel
theorem dX7_reason_82 : decode cX7_reason 82 = .ok (.if_icmp .ne 7, 3) := by decide +kernel
theorem dX7_reason_85 : decode cX7_reason 85 = .ok (.iconst 1, 1) := by decide +kernel
theorem dX7_reason_86 : decode cX7_reason 86 = .ok (.goto 4, 3) := by decide +kernel
theorem dX7_reason_89 : decode cX7_reason 89 = .ok (.iconst 0, 1) := by decide +kernel
theorem dX7_reason_90 : decode cX7_reason 90 = .ok (.istore_n 3, 1) := by decide +kernel
theorem dX7_reason_91 : decode cX7_reason 91 = .ok (.aload_n 0, 1) := by decide +kernel
theorem dX7_reason_92 : decode cX7_reason 92 = .ok (.getfield 22, 3) := by decide +kernel
theorem dX7_reason_95 : decode cX7_reason 95 = .ok (.iconst 5, 1) := by decide +kernel
theorem dX7_reason_96 : decode cX7_reason 96 = .ok (.iconst 0, 1) := by decide +kernel
theorem dX7_reason_97 : decode cX7_reason 97 = .ok (.iastore, 1) := by decide +kernel
theorem dX7_reason_98 : decode cX7_reason 98 = .ok (.iload_n 2, 1) := by decide +kernel
theorem dX7_reason_99 : decode cX7_reason 99 = .ok (.ifCond .eq 46, 3) := by decide +kernel
theorem dX7_reason_102 : decode cX7_reason 102 = .ok (.iload_n 3, 1) := by decide +kernel
theorem dX7_reason_103 : decode cX7_reason 103 = .ok (.ifCond .eq 13, 3) := by decide +kernel
theorem dX7_reason_106 : decode cX7_reason 106 = .ok (.aload_n 0, 1) := by decide +kernel
theorem dX7_reason_107 : decode cX7_reason 107 = .ok (.bipush 112, 2) := by decide +kernel
theorem dX7_reason_109 : decode cX7_reason 109 = .ok (.iconst 5, 1) := by decide +kernel
theorem dX7_reason_110 : decode cX7_reason 110 = .ok (.invokevirtual 181, 3) := by decide +kernel
theorem dX7_reason_113 : decode cX7_reason 113 = .ok (.ifCond .eq 32, 3) := by decide +kernel
theorem dX7_reason_116 : decode cX7_reason 116 = .ok (.aload_n 0, 1) := by decide +kernel
theorem dX7_reason_117 : decode cX7_reason 117 = .ok (.getfield 178, 3) := by decide +kernel
theorem dX7_reason_120 : decode cX7_reason 120 = .ok (.aload_n 0, 1) := by decide +kernel
theorem dX7_reason_121 : decode cX7_reason 121 = .ok (.getfield 119, 3) := by decide +kernel
theorem dX7_reason_124 : decode cX7_reason 124 = .ok (.if_icmp .ge 21, 3) := by decide +kernel
theorem dX7_reason_127 : decode cX7_reason 127 = .ok (.aload_n 0, 1) := by decide +kernel
theorem dX7_reason_128 : decode cX7_reason 128 = .ok (.getfield 19, 3) := by decide +kernel
theorem dX7_reason_131 : decode cX7_reason 131 = .ok (.aload_n 0, 1) := by decide +kernel
theorem dX7_reason_132 : decode cX7_reason 132 = .ok (.getfield 178, 3) := by decide +kernel
theorem dX7_reason_135 : decode cX7_reason 135 = .ok (.iaload, 1) := by decide +kernel
theorem dX7_reason_136 : decode cX7_reason 136 = .ok (.bipush 59, 2) := by decide +kernel
theorem dX7_reason_138 : decode cX7_reason 138 = .ok (.if_icmp .ne 7, 3) := by decide +kernel
theorem dX7_reason_141 : decode cX7_reason 141 = .ok (.iconst 1, 1) := by decide +kernel
theorem dX7_reason_142 : decode cX7_reason 142 = .ok (.goto 4, 3) := by decide +kernel
theorem dX7_reason_145 : decode cX7_reason 145 = .ok (.iconst 0, 1) := by decide +kernel
theorem dX7_reason_146 : decode cX7_reason 146 = .ok (.istore_n 2, 1) := by decide +kernel
theorem dX7_reason_147 : decode cX7_reason 147 = .ok (.iload_n 2, 1) := by decide +kernel
theorem dX7_reason_148 : decode cX7_reason 148 = .ok (.ifCond .ne 5, 3) := by decide +kernel
theorem dX7_reason_151 : decode cX7_reason 151 = .ok (.iconst 1, 1) := by decide +kernel
theorem dX7_reason_152 : decode cX7_reason 152 = .ok (.ireturn, 1) := by decide +kernel
theorem dX7_reason_153 : decode cX7_reason 153 = .ok (.aload_n 0, 1) := by decide +kernel
theorem dX7_reason_154 : decode cX7_reason 154 = .ok (.dup, 1) := by decide +kernel
theorem dX7_reason_155 : decode cX7_reason 155 = .ok (.getfield 178, 3) := by decide +kernel
theorem dX7_reason_158 : decode cX7_reason 158 = .ok (.iconst 1, 1) := by decide +kernel
theorem dX7_reason_159 : decode cX7_reason 159 = .ok (.iadd, 1) := by decide +kernel
theorem dX7_reason_160 : decode cX7_reason 160 = .ok (.putfield 178, 3) := by decide +kernel
theorem dX7_reason_163 : decode cX7_reason 163 = .ok (.aload_n 0, 1) := by decide +kernel
theorem dX7_reason_164 : decode cX7_reason 164 = .ok (.getfield 22, 3) := by decide +kernel
theorem dX7_reason_167 : decode cX7_reason 167 = .ok (.iconst 0, 1) := by decide +kernel
theorem dX7_reason_168 : decode cX7_reason 168 = .ok (.iaload, 1) := by decide +kernel
theorem dX7_reason_169 : decode cX7_reason 169 = .ok (.aload_n 0, 1) := by decide +kernel
theorem dX7_reason_170 : decode cX7_reason 170 = .ok (.getfield 22, 3) := by decide +kernel
theorem dX7_reason_173 : decode cX7_reason 173 = .ok (.iconst 1, 1) := by decide +kernel
theorem dX7_reason_174 : decode cX7_reason 174 = .ok (.iaload, 1) := by decide +kernel
theorem dX7_reason_175 : decode cX7_reason 175 = .ok (.aload_n 0, 1) := by decide +kernel
theorem dX7_reason_176 : decode cX7_reason 176 = .ok (.getfield 22, 3) := by decide +kernel
theorem dX7_reason_179 : decode cX7_reason 179 = .ok (.iconst 2, 1) := by decide +kernel
theorem dX7_reason_180 : decode cX7_reason 180 = .ok (.iaload, 1) := by decide +kernel
theorem dX7_reason_181 : decode cX7_reason 181 = .ok (.aload_n 0, 1) := by decide +kernel
theorem dX7_reason_182 : decode cX7_reason 182 = .ok (.getfield 22, 3) := by decide +kernel
theorem dX7_reason_185 : decode cX7_reason 185 = .ok (.iconst 3, 1) := by decide +kernel
theorem dX7_reason_186 : decode cX7_reason 186 = .ok (.iaload, 1) := by decide +kernel
theorem dX7_reason_187 : decode cX7_reason 187 = .ok (.aload_n 0, 1) := by decide +kernel
theorem dX7_reason_188 : decode cX7_reason 188 = .ok (.getfield 22, 3) := by decide +kernel
theorem dX7_reason_191 : decode cX7_reason 191 = .ok (.iconst 4, 1) := by decide +kernel
theorem dX7_reason_192 : decode cX7_reason 192 = .ok (.iaload, 1) := by decide +kernel
theorem dX7_reason_193 : decode cX7_reason 193 = .ok (.aload_n 0, 1) := by decide +kernel
theorem dX7_reason_194 : decode cX7_reason 194 = .ok (.getfield 22, 3) := by decide +kernel
theorem dX7_reason_197 : decode cX7_reason 197 = .ok (.iconst 5, 1) := by decide +kernel
theorem dX7_reason_198 : decode cX7_reason 198 = .ok (.iaload, 1) := by decide +kernel
theorem dX7_reason_199 : decode cX7_reason 199 = .ok (.invokestatic 137, 3) := by decide +kernel
theorem dX7_reason_202 : decode cX7_reason 202 = .ok (.ifCond .ne 5, 3) := by decide +kernel
theorem dX7_reason_205 : decode cX7_reason 205 = .ok (.iconst 2, 1) := by decide +kernel
theorem dX7_reason_206 : decode cX7_reason 206 = .ok (.ireturn, 1) := by decide +kernel
theorem dX7_reason_207 : decode cX7_reason 207 = .ok (.iload_n 1, 1) := by decide +kernel
theorem dX7_reason_208 : decode cX7_reason 208 = .ok (.ifCond .ne 7, 3) := by decide +kernel
theorem dX7_reason_211 : decode cX7_reason 211 = .ok (.iconst 3, 1) := by decide +kernel
theorem dX7_reason_212 : decode cX7_reason 212 = .ok (.goto 4, 3) := by decide +kernel
theorem dX7_reason_215 : decode cX7_reason 215 = .ok (.iconst 0, 1) := by decide +kernel
theorem dX7_reason_216 : decode cX7_reason 216 = .ok (.ireturn, 1) := by decide +kernel
set_option maxRecDepth 20000 in
theorem ggX7_faultAt_X7_reason : GoodIn wsX7_faultAt wsX7_reason := goodIn_r _ [10, 2, 3, 11, 12, 13, 14, 15, 9, 16, 17, 18, 19, 20, 21, 22, 23, 24, 25, 26, 27, 28, 29, 30, 31, 32, 33, 34, 35, 36, 37, 38, 39] (by decide +kernel) (by decide +kernel)
set_option maxRecDepth 20000 in
theorem gX7_faultAt_X7_reason : GoodIn wsX7_faultAt (wsV RX7 184 RX7 yX7_reason wsX7_reason) := goodIn_app (goodIn_of _ (by decide +kernel)) ggX7_faultAt_X7_reason
theorem dX7_faultAt_0 : decode cX7_faultAt 0 = .ok (.bipush 10, 2) := by decide +kernel
theorem dX7_faultAt_2 : decode cX7_faultAt 2 = .ok (.aload_n 0, 1) := by decide +kernel
theorem dX7_faultAt_3 : decode cX7_faultAt 3 = .ok (.getfield 7, 3) := by decide +kernel
theorem dX7_faultAt_6 : decode cX7_faultAt 6 = .ok (.bipush 7, 2) := by decide +kernel
theorem dX7_faultAt_8 : decode cX7_faultAt 8 = .ok (.iaload, 1) := by decide +kernel
theorem dX7_faultAt_9 : decode cX7_faultAt 9 = .ok (.isub, 1) := by decide +kernel
theorem dX7_faultAt_10 : decode cX7_faultAt 10 = .ok (.istore_n 1, 1) := by decide +kernel
theorem dX7_faultAt_11 : decode cX7_faultAt 11 = .ok (.aload_n 0, 1) := by decide +kernel
theorem dX7_faultAt_12 : decode cX7_faultAt 12 = .ok (.iconst 0, 1) := by decide +kernel
theorem dX7_faultAt_13 : decode cX7_faultAt 13 = .ok (.putfield 178, 3) := by decide +kernel
theorem dX7_faultAt_16 : decode cX7_faultAt 16 = .ok (.aload_n 0, 1) := by decide +kernel
theorem dX7_faultAt_17 : decode cX7_faultAt 17 = .ok (.getfield 178, 3) := by decide +kernel
theorem dX7_faultAt_20 : decode cX7_faultAt 20 = .ok (.aload_n 0, 1) := by decide +kernel
theorem dX7_faultAt_21 : decode cX7_faultAt 21 = .ok (.getfield 119, 3) := by decide +kernel
theorem dX7_faultAt_24 : decode cX7_faultAt 24 = .ok (.if_icmp .ge 32, 3) := by decide +kernel
theorem dX7_faultAt_27 : decode cX7_faultAt 27 = .ok (.aload_n 0, 1) := by decide +kernel
theorem dX7_faultAt_28 : decode cX7_faultAt 28 = .ok (.getfield 178, 3) := by decide +kernel
theorem dX7_faultAt_31 : decode cX7_faultAt 31 = .ok (.istore_n 2, 1) := by decide +kernel
theorem dX7_faultAt_32 : decode cX7_faultAt 32 = .ok (.aload_n 0, 1) := by decide +kernel
theorem dX7_faultAt_33 : decode cX7_faultAt 33 = .ok (.aload_n 0, 1) := by decide +kernel
theorem dX7_faultAt_34 : decode cX7_faultAt 34 = .ok (.iload_n 1, 1) := by decide +kernel
theorem dX7_faultAt_35 : decode cX7_faultAt 35 = .ok (.invokevirtual 184, 3) := by decide +kernel
theorem dX7_faultAt_38 : decode cX7_faultAt 38 = .ok (.putfield 187, 3) := by decide +kernel
theorem dX7_faultAt_41 : decode cX7_faultAt 41 = .ok (.aload_n 0, 1) := by decide +kernel
theorem dX7_faultAt_42 : decode cX7_faultAt 42 = .ok (.getfield 187, 3) := by decide +kernel
theorem dX7_faultAt_45 : decode cX7_faultAt 45 = .ok (.ifCond .le 5, 3) := by decide +kernel
theorem dX7_faultAt_48 : decode cX7_faultAt 48 = .ok (.iload_n 2, 1) := by decide +kernel
theorem dX7_faultAt_49 : decode cX7_faultAt 49 = .ok (.ireturn, 1) := by decide +kernel
theorem dX7_faultAt_50 : decode cX7_faultAt 50 = .ok (.iinc 1 (-1), 3) := by decide +kernel
theorem dX7_faultAt_53 : decode cX7_faultAt 53 = .ok (.goto (-37), 3) := by decide +kernel
theorem dX7_faultAt_56 : decode cX7_faultAt 56 = .ok (.ldc 80, 2) := by decide +kernel
theorem dX7_faultAt_58 : decode cX7_faultAt 58 = .ok (.ireturn, 1) := by decide +kernel
set_option maxRecDepth 20000 in
theorem ggX7_fault_X7_in : GoodIn wsX7_fault wsX7_in := goodIn_r _ [7] (by decide +kernel) (by decide +kernel)
set_option maxRecDepth 20000 in
theorem gX7_fault_X7_in : GoodIn wsX7_fault (va_wsS RX7 54 yX7_in wsX7_in) := goodIn_app (goodIn_of _ (by decide +kernel)) ggX7_fault_X7_in
set_option maxRecDepth 20000 in
theorem ggX7_fault_X7_faultAt : GoodIn wsX7_fault wsX7_faultAt := goodIn_r _ [11, 12, 13, 14, 3, 2, 15, 16, 17, 6, 18, 19, 20, 21, 22, 23, 24, 4, 5, 7, 25, 26, 27, 28, 29, 30, 31, 32, 33, 34, 35, 36, 37, 38, 39, 40, 41, 42, 43, 44] (by decide +kernel) (by decide +kernel)
set_option maxRecDepth 20000 in
theorem gX7_fault_X7_faultAt : GoodIn wsX7_fault (wsV RX7 190 RX7 yX7_faultAt wsX7_faultAt) := goodIn_app (goodIn_of _ (by decide +kernel)) ggX7_fault_X7_faultAt
theorem dX7_fault_0 : decode cX7_fault 0 = .ok (.iload_n 1, 1) := by decide +kernel
theorem dX7_fault_1 : decode cX7_fault 1 = .ok (.iconst 0, 1) := by decide +kernel
theorem dX7_fault_2 : decode cX7_fault 2 = .ok (.iconst 1, 1) := by decide +kernel
theorem dX7_fault_3 : decode cX7_fault 3 = .ok (.invokestatic 54, 3) := by decide +kernel
theorem dX7_fault_6 : decode cX7_fault 6 = .ok (.ifCond .ne 6, 3) := by decide +kernel
theorem dX7_fault_9 : decode cX7_fault 9 = .ok (.ldc 96, 2) := by decide +kernel
theorem dX7_fault_11 : decode cX7_fault 11 = .ok (.ireturn, 1) := by decide +kernel
theorem dX7_fault_12 : decode cX7_fault 12 = .ok (.aload_n 0, 1) := by decide +kernel
theorem dX7_fault_13 : decode cX7_fault 13 = .ok (.invokevirtual 190, 3) := by decide +kernel
theorem dX7_fault_16 : decode cX7_fault 16 = .ok (.istore_n 2, 1) := by decide +kernel
theorem dX7_fault_17 : decode cX7_fault 17 = .ok (.iload_n 2, 1) := by decide +kernel
theorem dX7_fault_18 : decode cX7_fault 18 = .ok (.ldc 80, 2) := by decide +kernel
theorem dX7_fault_20 : decode cX7_fault 20 = .ok (.if_icmp .eq 7, 3) := by decide +kernel
theorem dX7_fault_23 : decode cX7_fault 23 = .ok (.iload_n 1, 1) := by decide +kernel
theorem dX7_fault_24 : decode cX7_fault 24 = .ok (.ifCond .ne 7, 3) := by decide +kernel
theorem dX7_fault_27 : decode cX7_fault 27 = .ok (.iload_n 2, 1) := by decide +kernel
theorem dX7_fault_28 : decode cX7_fault 28 = .ok (.goto 7, 3) := by decide +kernel
theorem dX7_fault_31 : decode cX7_fault 31 = .ok (.aload_n 0, 1) := by decide +kernel
theorem dX7_fault_32 : decode cX7_fault 32 = .ok (.getfield 187, 3) := by decide +kernel
theorem dX7_fault_35 : decode cX7_fault 35 = .ok (.ireturn, 1) := by decide +kernel
set_option maxRecDepth 20000 in
theorem ggX7_enter_X7_faultAt : GoodIn wsX7_enter wsX7_faultAt := goodIn_r _ [10, 11, 3, 4, 12, 1, 13, 14, 15, 9, 16, 17, 5, 18, 19, 20, 21, 22, 23, 24, 25, 26, 27, 28, 29, 30, 31, 32, 47, 48, 49, 50, 51, 52, 53, 54, 55, 56, 57, 58] (by decide +kernel) (by decide +kernel)
set_option maxRecDepth 20000 in
theorem gX7_enter_X7_faultAt : GoodIn wsX7_enter (wsV RX7 190 RX7 yX7_faultAt wsX7_faultAt) := goodIn_app (goodIn_of _ (by decide +kernel)) ggX7_enter_X7_faultAt
set_option maxRecDepth 20000 in
theorem ggX7_enter_X7_records : GoodIn wsX7_enter wsX7_records := goodIn_r _ [36, 37, 38, 11, 47, 48, 49, 50, 51, 52, 53, 54, 55, 56, 57, 58] (by decide +kernel) (by decide +kernel)
set_option maxRecDepth 20000 in
theorem gX7_enter_X7_records : GoodIn wsX7_enter (wsV RX7 97 RX7 yX7_records wsX7_records) := goodIn_app (goodIn_of _ (by decide +kernel)) ggX7_enter_X7_records
set_option maxRecDepth 20000 in
theorem ggX7_enter_X7_reason : GoodIn wsX7_enter wsX7_reason := goodIn_r _ [16, 3, 4, 17, 5, 18, 19, 20, 9, 21, 22, 23, 24, 25, 26, 27, 28, 29, 30, 31, 32, 47, 48, 49, 50, 51, 52, 53, 54, 55, 56, 57, 58] (by decide +kernel) (by decide +kernel)
set_option maxRecDepth 20000 in
theorem gX7_enter_X7_reason : GoodIn wsX7_enter (wsV RX7 184 RX7 yX7_reason wsX7_reason) := goodIn_app (goodIn_of _ (by decide +kernel)) ggX7_enter_X7_reason
set_option maxRecDepth 20000 in
theorem ggX7_enter_X7_adds : GoodIn wsX7_enter wsX7_adds := goodIn_r _ [42, 11, 43, 44, 45, 9, 46, 47, 48, 49, 50, 51, 52, 53, 54, 55, 56, 57, 58] (by decide +kernel) (by decide +kernel)
set_option maxRecDepth 20000 in
theorem gX7_enter_X7_adds : GoodIn wsX7_enter (wsV RX7 142 RX7 yX7_adds wsX7_adds) := goodIn_app (goodIn_of _ (by decide +kernel)) ggX7_enter_X7_adds
theorem dX7_enter_0 : decode cX7_enter 0 = .ok (.aload_n 0, 1) := by decide +kernel
theorem dX7_enter_1 : decode cX7_enter 1 = .ok (.invokevirtual 190, 3) := by decide +kernel
theorem dX7_enter_4 : decode cX7_enter 4 = .ok (.ldc 80, 2) := by decide +kernel
theorem dX7_enter_6 : decode cX7_enter 6 = .ok (.if_icmp .eq 6, 3) := by decide +kernel
theorem dX7_enter_9 : decode cX7_enter 9 = .ok (.ldc 103, 2) := by decide +kernel
theorem dX7_enter_11 : decode cX7_enter 11 = .ok (.ireturn, 1) := by decide +kernel
theorem dX7_enter_12 : decode cX7_enter 12 = .ok (.aload_n 0, 1) := by decide +kernel
theorem dX7_enter_13 : decode cX7_enter 13 = .ok (.invokevirtual 97, 3) := by decide +kernel
theorem dX7_enter_16 : decode cX7_enter 16 = .ok (.aload_n 0, 1) := by decide +kernel
theorem dX7_enter_17 : decode cX7_enter 17 = .ok (.iconst 0, 1) := by decide +kernel
theorem dX7_enter_18 : decode cX7_enter 18 = .ok (.putfield 178, 3) := by decide +kernel
theorem dX7_enter_21 : decode cX7_enter 21 = .ok (.iconst 0, 1) := by decide +kernel
theorem dX7_enter_22 : decode cX7_enter 22 = .ok (.istore_n 1, 1) := by decide +kernel
theorem dX7_enter_23 : decode cX7_enter 23 = .ok (.aload_n 0, 1) := by decide +kernel
theorem dX7_enter_24 : decode cX7_enter 24 = .ok (.getfield 178, 3) := by decide +kernel
theorem dX7_enter_27 : decode cX7_enter 27 = .ok (.aload_n 0, 1) := by decide +kernel
theorem dX7_enter_28 : decode cX7_enter 28 = .ok (.getfield 119, 3) := by decide +kernel
theorem dX7_enter_31 : decode cX7_enter 31 = .ok (.if_icmp .ge 65, 3) := by decide +kernel
theorem dX7_enter_34 : decode cX7_enter 34 = .ok (.aload_n 0, 1) := by decide +kernel
theorem dX7_enter_35 : decode cX7_enter 35 = .ok (.bipush 10, 2) := by decide +kernel
theorem dX7_enter_37 : decode cX7_enter 37 = .ok (.invokevirtual 184, 3) := by decide +kernel
theorem dX7_enter_40 : decode cX7_enter 40 = .ok (.istore_n 2, 1) := by decide +kernel
theorem dX7_enter_41 : decode cX7_enter 41 = .ok (.aload_n 0, 1) := by decide +kernel
theorem dX7_enter_42 : decode cX7_enter 42 = .ok (.aload_n 0, 1) := by decide +kernel
theorem dX7_enter_43 : decode cX7_enter 43 = .ok (.getfield 22, 3) := by decide +kernel
theorem dX7_enter_46 : decode cX7_enter 46 = .ok (.iconst 0, 1) := by decide +kernel
theorem dX7_enter_47 : decode cX7_enter 47 = .ok (.iaload, 1) := by decide +kernel
theorem dX7_enter_48 : decode cX7_enter 48 = .ok (.aload_n 0, 1) := by decide +kernel
theorem dX7_enter_49 : decode cX7_enter 49 = .ok (.getfield 22, 3) := by decide +kernel
theorem dX7_enter_52 : decode cX7_enter 52 = .ok (.iconst 1, 1) := by decide +kernel
theorem dX7_enter_53 : decode cX7_enter 53 = .ok (.iaload, 1) := by decide +kernel
theorem dX7_enter_54 : decode cX7_enter 54 = .ok (.aload_n 0, 1) := by decide +kernel
theorem dX7_enter_55 : decode cX7_enter 55 = .ok (.getfield 22, 3) := by decide +kernel
theorem dX7_enter_58 : decode cX7_enter 58 = .ok (.iconst 2, 1) := by decide +kernel
theorem dX7_enter_59 : decode cX7_enter 59 = .ok (.iaload, 1) := by decide +kernel
theorem dX7_enter_60 : decode cX7_enter 60 = .ok (.aload_n 0, 1) := by decide +kernel
theorem dX7_enter_61 : decode cX7_enter 61 = .ok (.getfield 22, 3) := by decide +kernel
theorem dX7_enter_64 : decode cX7_enter 64 = .ok (.iconst 3, 1) := by decide +kernel
theorem dX7_enter_65 : decode cX7_enter 65 = .ok (.iaload, 1) := by decide +kernel
theorem dX7_enter_66 : decode cX7_enter 66 = .ok (.aload_n 0, 1) := by decide +kernel
theorem dX7_enter_67 : decode cX7_enter 67 = .ok (.getfield 22, 3) := by decide +kernel
theorem dX7_enter_70 : decode cX7_enter 70 = .ok (.iconst 4, 1) := by decide +kernel
theorem dX7_enter_71 : decode cX7_enter 71 = .ok (.iaload, 1) := by decide +kernel
theorem dX7_enter_72 : decode cX7_enter 72 = .ok (.aload_n 0, 1) := by decide +kernel
theorem dX7_enter_73 : decode cX7_enter 73 = .ok (.getfield 22, 3) := by decide +kernel
theorem dX7_enter_76 : decode cX7_enter 76 = .ok (.iconst 5, 1) := by decide +kernel
theorem dX7_enter_77 : decode cX7_enter 77 = .ok (.iaload, 1) := by decide +kernel
theorem dX7_enter_78 : decode cX7_enter 78 = .ok (.invokevirtual 142, 3) := by decide +kernel
theorem dX7_enter_81 : decode cX7_enter 81 = .ok (.iload_n 1, 1) := by decide +kernel
theorem dX7_enter_82 : decode cX7_enter 82 = .ok (.iload_n 2, 1) := by decide +kernel
theorem dX7_enter_83 : decode cX7_enter 83 = .ok (.ifCond .ne 7, 3) := by decide +kernel
theorem dX7_enter_86 : decode cX7_enter 86 = .ok (.iconst 1, 1) := by decide +kernel
theorem dX7_enter_87 : decode cX7_enter 87 = .ok (.goto 4, 3) := by decide +kernel
theorem dX7_enter_90 : decode cX7_enter 90 = .ok (.iconst 0, 1) := by decide +kernel
theorem dX7_enter_91 : decode cX7_enter 91 = .ok (.iadd, 1) := by decide +kernel
theorem dX7_enter_92 : decode cX7_enter 92 = .ok (.istore_n 1, 1) := by decide +kernel
theorem dX7_enter_93 : decode cX7_enter 93 = .ok (.goto (-70), 3) := by decide +kernel
theorem dX7_enter_96 : decode cX7_enter 96 = .ok (.iload_n 1, 1) := by decide +kernel
theorem dX7_enter_97 : decode cX7_enter 97 = .ok (.ireturn, 1) := by decide +kernel
theorem dJ9_floorMod_7cf53_0 : decode cJ9_floorMod_7cf53 0 = .ok (.iload_n 0, 1) := by decide +kernel
theorem dJ9_floorMod_7cf53_1 : decode cJ9_floorMod_7cf53 1 = .ok (.iload_n 1, 1) := by decide +kernel
theorem dJ9_floorMod_7cf53_2 : decode cJ9_floorMod_7cf53 2 = .ok (.irem, 1) := by decide +kernel
theorem dJ9_floorMod_7cf53_3 : decode cJ9_floorMod_7cf53 3 = .ok (.istore_n 2, 1) := by decide +kernel
theorem dJ9_floorMod_7cf53_4 : decode cJ9_floorMod_7cf53 4 = .ok (.iload_n 0, 1) := by decide +kernel
theorem dJ9_floorMod_7cf53_5 : decode cJ9_floorMod_7cf53 5 = .ok (.iload_n 1, 1) := by decide +kernel
theorem dJ9_floorMod_7cf53_6 : decode cJ9_floorMod_7cf53 6 = .ok (.ixor, 1) := by decide +kernel
theorem dJ9_floorMod_7cf53_7 : decode cJ9_floorMod_7cf53 7 = .ok (.ifCond .ge 11, 3) := by decide +kernel
theorem dJ9_floorMod_7cf53_10 : decode cJ9_floorMod_7cf53 10 = .ok (.iload_n 2, 1) := by decide +kernel
theorem dJ9_floorMod_7cf53_11 : decode cJ9_floorMod_7cf53 11 = .ok (.ifCond .eq 7, 3) := by decide +kernel
theorem dJ9_floorMod_7cf53_14 : decode cJ9_floorMod_7cf53 14 = .ok (.iload_n 2, 1) := by decide +kernel
theorem dJ9_floorMod_7cf53_15 : decode cJ9_floorMod_7cf53 15 = .ok (.iload_n 1, 1) := by decide +kernel
theorem dJ9_floorMod_7cf53_16 : decode cJ9_floorMod_7cf53 16 = .ok (.iadd, 1) := by decide +kernel
theorem dJ9_floorMod_7cf53_17 : decode cJ9_floorMod_7cf53 17 = .ok (.ireturn, 1) := by decide +kernel
theorem dJ9_floorMod_7cf53_18 : decode cJ9_floorMod_7cf53 18 = .ok (.iload_n 2, 1) := by decide +kernel
theorem dJ9_floorMod_7cf53_19 : decode cJ9_floorMod_7cf53 19 = .ok (.ireturn, 1) := by decide +kernel
theorem dJ9_abs_0f7a4_0 : decode cJ9_abs_0f7a4 0 = .ok (.iload_n 0, 1) := by decide +kernel
theorem dJ9_abs_0f7a4_1 : decode cJ9_abs_0f7a4 1 = .ok (.ifCond .ge 8, 3) := by decide +kernel
theorem dJ9_abs_0f7a4_4 : decode cJ9_abs_0f7a4 4 = .ok (.iload_n 0, 1) := by decide +kernel
theorem dJ9_abs_0f7a4_5 : decode cJ9_abs_0f7a4 5 = .ok (.ineg, 1) := by decide +kernel
theorem dJ9_abs_0f7a4_6 : decode cJ9_abs_0f7a4 6 = .ok (.goto 4, 3) := by decide +kernel
theorem dJ9_abs_0f7a4_9 : decode cJ9_abs_0f7a4 9 = .ok (.iload_n 0, 1) := by decide +kernel
theorem dJ9_abs_0f7a4_10 : decode cJ9_abs_0f7a4 10 = .ok (.ireturn, 1) := by decide +kernel
theorem dJ9_max_7cf53_0 : decode cJ9_max_7cf53 0 = .ok (.iload_n 0, 1) := by decide +kernel
theorem dJ9_max_7cf53_1 : decode cJ9_max_7cf53 1 = .ok (.iload_n 1, 1) := by decide +kernel
theorem dJ9_max_7cf53_2 : decode cJ9_max_7cf53 2 = .ok (.if_icmp .lt 7, 3) := by decide +kernel
theorem dJ9_max_7cf53_5 : decode cJ9_max_7cf53 5 = .ok (.iload_n 0, 1) := by decide +kernel
theorem dJ9_max_7cf53_6 : decode cJ9_max_7cf53 6 = .ok (.goto 4, 3) := by decide +kernel
theorem dJ9_max_7cf53_9 : decode cJ9_max_7cf53 9 = .ok (.iload_n 1, 1) := by decide +kernel
theorem dJ9_max_7cf53_10 : decode cJ9_max_7cf53 10 = .ok (.ireturn, 1) := by decide +kernel
theorem dJ9_min_7cf53_0 : decode cJ9_min_7cf53 0 = .ok (.iload_n 0, 1) := by decide +kernel
theorem dJ9_min_7cf53_1 : decode cJ9_min_7cf53 1 = .ok (.iload_n 1, 1) := by decide +kernel
theorem dJ9_min_7cf53_2 : decode cJ9_min_7cf53 2 = .ok (.if_icmp .gt 7, 3) := by decide +kernel
theorem dJ9_min_7cf53_5 : decode cJ9_min_7cf53 5 = .ok (.iload_n 0, 1) := by decide +kernel
theorem dJ9_min_7cf53_6 : decode cJ9_min_7cf53 6 = .ok (.goto 4, 3) := by decide +kernel
theorem dJ9_min_7cf53_9 : decode cJ9_min_7cf53 9 = .ok (.iload_n 1, 1) := by decide +kernel
theorem dJ9_min_7cf53_10 : decode cJ9_min_7cf53 10 = .ok (.ireturn, 1) := by decide +kernel

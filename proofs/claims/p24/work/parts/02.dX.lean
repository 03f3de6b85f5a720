theorem dX0_init_0 : decode cX0_init 0 = .ok (.aload_n 0, 1) := by decide +kernel
theorem dX0_init_1 : decode cX0_init 1 = .ok (.invokespecial 3, 3) := by decide +kernel
theorem dX0_init_4 : decode cX0_init 4 = .ok (.aload_n 0, 1) := by decide +kernel
theorem dX0_init_5 : decode cX0_init 5 = .ok (.iload_n 1, 1) := by decide +kernel
theorem dX0_init_6 : decode cX0_init 6 = .ok (.putfield 9, 3) := by decide +kernel
theorem dX0_init_9 : decode cX0_init 9 = .ok (.aload_n 0, 1) := by decide +kernel
theorem dX0_init_10 : decode cX0_init 10 = .ok (.iload_n 2, 1) := by decide +kernel
theorem dX0_init_11 : decode cX0_init 11 = .ok (.putfield 15, 3) := by decide +kernel
theorem dX0_init_14 : decode cX0_init 14 = .ok (.aload_n 0, 1) := by decide +kernel
theorem dX0_init_15 : decode cX0_init 15 = .ok (.iload_n 3, 1) := by decide +kernel
theorem dX0_init_16 : decode cX0_init 16 = .ok (.putfield 18, 3) := by decide +kernel
theorem dX0_init_19 : decode cX0_init 19 = .ok (.aload_n 0, 1) := by decide +kernel
theorem dX0_init_20 : decode cX0_init 20 = .ok (.iload_n 3, 1) := by decide +kernel
theorem dX0_init_21 : decode cX0_init 21 = .ok (.putfield 21, 3) := by decide +kernel
theorem dX0_init_24 : decode cX0_init 24 = .ok (.aload_n 0, 1) := by decide +kernel
theorem dX0_init_25 : decode cX0_init 25 = .ok (.iload 4, 2) := by decide +kernel
theorem dX0_init_27 : decode cX0_init 27 = .ok (.putfield 24, 3) := by decide +kernel
theorem dX0_init_30 : decode cX0_init 30 = .ok (.aload_n 0, 1) := by decide +kernel
theorem dX0_init_31 : decode cX0_init 31 = .ok (.iload 5, 2) := by decide +kernel
theorem dX0_init_33 : decode cX0_init 33 = .ok (.putfield 27, 3) := by decide +kernel
theorem dX0_init_36 : decode cX0_init 36 = .ok (.return_, 1) := by decide +kernel
theorem dX0_copyFrom_0 : decode cX0_copyFrom 0 = .ok (.aload_n 0, 1) := by decide +kernel
theorem dX0_copyFrom_1 : decode cX0_copyFrom 1 = .ok (.aload_n 1, 1) := by decide +kernel
theorem dX0_copyFrom_2 : decode cX0_copyFrom 2 = .ok (.getfield 24, 3) := by decide +kernel
theorem dX0_copyFrom_5 : decode cX0_copyFrom 5 = .ok (.putfield 24, 3) := by decide +kernel
theorem dX0_copyFrom_8 : decode cX0_copyFrom 8 = .ok (.aload_n 0, 1) := by decide +kernel
theorem dX0_copyFrom_9 : decode cX0_copyFrom 9 = .ok (.aload_n 1, 1) := by decide +kernel
theorem dX0_copyFrom_10 : decode cX0_copyFrom 10 = .ok (.getfield 30, 3) := by decide +kernel
theorem dX0_copyFrom_13 : decode cX0_copyFrom 13 = .ok (.putfield 30, 3) := by decide +kernel
theorem dX0_copyFrom_16 : decode cX0_copyFrom 16 = .ok (.aload_n 0, 1) := by decide +kernel
theorem dX0_copyFrom_17 : decode cX0_copyFrom 17 = .ok (.aload_n 1, 1) := by decide +kernel
theorem dX0_copyFrom_18 : decode cX0_copyFrom 18 = .ok (.getfield 27, 3) := by decide +kernel
theorem dX0_copyFrom_21 : decode cX0_copyFrom 21 = .ok (.putfield 27, 3) := by decide +kernel
theorem dX0_copyFrom_24 : decode cX0_copyFrom 24 = .ok (.aload_n 0, 1) := by decide +kernel
theorem dX0_copyFrom_25 : decode cX0_copyFrom 25 = .ok (.aload_n 1, 1) := by decide +kernel
theorem dX0_copyFrom_26 : decode cX0_copyFrom 26 = .ok (.getfield 21, 3) := by decide +kernel
theorem dX0_copyFrom_29 : decode cX0_copyFrom 29 = .ok (.putfield 21, 3) := by decide +kernel
theorem dX0_copyFrom_32 : decode cX0_copyFrom 32 = .ok (.aload_n 0, 1) := by decide +kernel
theorem dX0_copyFrom_33 : decode cX0_copyFrom 33 = .ok (.aload_n 1, 1) := by decide +kernel
theorem dX0_copyFrom_34 : decode cX0_copyFrom 34 = .ok (.getfield 33, 3) := by decide +kernel
theorem dX0_copyFrom_37 : decode cX0_copyFrom 37 = .ok (.putfield 33, 3) := by decide +kernel
theorem dX0_copyFrom_40 : decode cX0_copyFrom 40 = .ok (.aload_n 0, 1) := by decide +kernel
theorem dX0_copyFrom_41 : decode cX0_copyFrom 41 = .ok (.aload_n 1, 1) := by decide +kernel
theorem dX0_copyFrom_42 : decode cX0_copyFrom 42 = .ok (.getfield 36, 3) := by decide +kernel
theorem dX0_copyFrom_45 : decode cX0_copyFrom 45 = .ok (.putfield 36, 3) := by decide +kernel
theorem dX0_copyFrom_48 : decode cX0_copyFrom 48 = .ok (.aload_n 0, 1) := by decide +kernel
theorem dX0_copyFrom_49 : decode cX0_copyFrom 49 = .ok (.aload_n 1, 1) := by decide +kernel
theorem dX0_copyFrom_50 : decode cX0_copyFrom 50 = .ok (.getfield 39, 3) := by decide +kernel
theorem dX0_copyFrom_53 : decode cX0_copyFrom 53 = .ok (.putfield 39, 3) := by decide +kernel
theorem dX0_copyFrom_56 : decode cX0_copyFrom 56 = .ok (.return_, 1) := by decide +kernel
theorem dX0_dish_0 : decode cX0_dish 0 = .ok (.aload_n 0, 1) := by decide +kernel
theorem dX0_dish_1 : decode cX0_dish 1 = .ok (.getfield 21, 3) := by decide +kernel
theorem dX0_dish_4 : decode cX0_dish 4 = .ok (.aload_n 0, 1) := by decide +kernel
theorem dX0_dish_5 : decode cX0_dish 5 = .ok (.getfield 33, 3) := by decide +kernel
theorem dX0_dish_8 : decode cX0_dish 8 = .ok (.isub, 1) := by decide +kernel
theorem dX0_dish_9 : decode cX0_dish 9 = .ok (.ireturn, 1) := by decide +kernel
theorem dX0_reaches_0 : decode cX0_reaches 0 = .ok (.iload_n 1, 1) := by decide +kernel
theorem dX0_reaches_1 : decode cX0_reaches 1 = .ok (.aload_n 0, 1) := by decide +kernel
theorem dX0_reaches_2 : decode cX0_reaches 2 = .ok (.getfield 9, 3) := by decide +kernel
theorem dX0_reaches_5 : decode cX0_reaches 5 = .ok (.if_icmp .lt 15, 3) := by decide +kernel
theorem dX0_reaches_8 : decode cX0_reaches 8 = .ok (.iload_n 1, 1) := by decide +kernel
theorem dX0_reaches_9 : decode cX0_reaches 9 = .ok (.aload_n 0, 1) := by decide +kernel
theorem dX0_reaches_10 : decode cX0_reaches 10 = .ok (.getfield 15, 3) := by decide +kernel
theorem dX0_reaches_13 : decode cX0_reaches 13 = .ok (.if_icmp .gt 7, 3) := by decide +kernel
theorem dX0_reaches_16 : decode cX0_reaches 16 = .ok (.iconst 1, 1) := by decide +kernel
theorem dX0_reaches_17 : decode cX0_reaches 17 = .ok (.goto 4, 3) := by decide +kernel
theorem dX0_reaches_20 : decode cX0_reaches 20 = .ok (.iconst 0, 1) := by decide +kernel
theorem dX0_reaches_21 : decode cX0_reaches 21 = .ok (.ireturn, 1) := by decide +kernel
set_option maxRecDepth 20000 in
theorem ggX0_change_X0_tell : GoodIn wsX0_change wsX0_tell := goodIn_r _ [13, 1, 7, 8, 14, 2, 15, 16, 17, 18, 19, 20, 21, 12, 22, 23, 24, 25, 26, 27, 28, 29, 30, 31, 32] (by decide +kernel) (by decide +kernel)
set_option maxRecDepth 20000 in
theorem gX0_change_X0_tell : GoodIn wsX0_change (wsV RX0 42 RX0 yX0_tell wsX0_tell) := goodIn_app (goodIn_of _ (by decide +kernel)) ggX0_change_X0_tell
theorem dX0_change_0 : decode cX0_change 0 = .ok (.aload_n 0, 1) := by decide +kernel
theorem dX0_change_1 : decode cX0_change 1 = .ok (.iload_n 1, 1) := by decide +kernel
theorem dX0_change_2 : decode cX0_change 2 = .ok (.invokevirtual 42, 3) := by decide +kernel
theorem dX0_change_5 : decode cX0_change 5 = .ok (.istore_n 3, 1) := by decide +kernel
theorem dX0_change_6 : decode cX0_change 6 = .ok (.iload_n 1, 1) := by decide +kernel
theorem dX0_change_7 : decode cX0_change 7 = .ok (.tableswitch 64 0 2 #[25, 48, 56], 25) := by decide +kernel
theorem dX0_change_32 : decode cX0_change 32 = .ok (.aload_n 0, 1) := by decide +kernel
theorem dX0_change_33 : decode cX0_change 33 = .ok (.iload_n 2, 1) := by decide +kernel
theorem dX0_change_34 : decode cX0_change 34 = .ok (.putfield 24, 3) := by decide +kernel
theorem dX0_change_37 : decode cX0_change 37 = .ok (.aload_n 0, 1) := by decide +kernel
theorem dX0_change_38 : decode cX0_change 38 = .ok (.aload_n 0, 1) := by decide +kernel
theorem dX0_change_39 : decode cX0_change 39 = .ok (.getfield 33, 3) := by decide +kernel
theorem dX0_change_42 : decode cX0_change 42 = .ok (.aload_n 0, 1) := by decide +kernel
theorem dX0_change_43 : decode cX0_change 43 = .ok (.getfield 24, 3) := by decide +kernel
theorem dX0_change_46 : decode cX0_change 46 = .ok (.invokestatic 46, 3) := by decide +kernel
theorem dX0_change_49 : decode cX0_change 49 = .ok (.putfield 33, 3) := by decide +kernel
theorem dX0_change_52 : decode cX0_change 52 = .ok (.goto 19, 3) := by decide +kernel
theorem dX0_change_55 : decode cX0_change 55 = .ok (.aload_n 0, 1) := by decide +kernel
theorem dX0_change_56 : decode cX0_change 56 = .ok (.iload_n 2, 1) := by decide +kernel
theorem dX0_change_57 : decode cX0_change 57 = .ok (.putfield 30, 3) := by decide +kernel
theorem dX0_change_60 : decode cX0_change 60 = .ok (.goto 11, 3) := by decide +kernel
theorem dX0_change_63 : decode cX0_change 63 = .ok (.aload_n 0, 1) := by decide +kernel
theorem dX0_change_64 : decode cX0_change 64 = .ok (.iload_n 2, 1) := by decide +kernel
theorem dX0_change_65 : decode cX0_change 65 = .ok (.putfield 27, 3) := by decide +kernel
theorem dX0_change_68 : decode cX0_change 68 = .ok (.goto 3, 3) := by decide +kernel
theorem dX0_change_71 : decode cX0_change 71 = .ok (.iload_n 3, 1) := by decide +kernel
theorem dX0_change_72 : decode cX0_change 72 = .ok (.ireturn, 1) := by decide +kernel
theorem dX0_moveTo_0 : decode cX0_moveTo 0 = .ok (.iload_n 1, 1) := by decide +kernel
theorem dX0_moveTo_1 : decode cX0_moveTo 1 = .ok (.aload_n 0, 1) := by decide +kernel
theorem dX0_moveTo_2 : decode cX0_moveTo 2 = .ok (.getfield 21, 3) := by decide +kernel
theorem dX0_moveTo_5 : decode cX0_moveTo 5 = .ok (.isub, 1) := by decide +kernel
theorem dX0_moveTo_6 : decode cX0_moveTo 6 = .ok (.istore_n 2, 1) := by decide +kernel
theorem dX0_moveTo_7 : decode cX0_moveTo 7 = .ok (.aload_n 0, 1) := by decide +kernel
theorem dX0_moveTo_8 : decode cX0_moveTo 8 = .ok (.iload_n 1, 1) := by decide +kernel
theorem dX0_moveTo_9 : decode cX0_moveTo 9 = .ok (.putfield 21, 3) := by decide +kernel
theorem dX0_moveTo_12 : decode cX0_moveTo 12 = .ok (.iload_n 2, 1) := by decide +kernel
theorem dX0_moveTo_13 : decode cX0_moveTo 13 = .ok (.ifCond .lt 33, 3) := by decide +kernel
theorem dX0_moveTo_16 : decode cX0_moveTo 16 = .ok (.aload_n 0, 1) := by decide +kernel
theorem dX0_moveTo_17 : decode cX0_moveTo 17 = .ok (.dup, 1) := by decide +kernel
theorem dX0_moveTo_18 : decode cX0_moveTo 18 = .ok (.getfield 36, 3) := by decide +kernel
theorem dX0_moveTo_21 : decode cX0_moveTo 21 = .ok (.iload_n 2, 1) := by decide +kernel
theorem dX0_moveTo_22 : decode cX0_moveTo 22 = .ok (.iadd, 1) := by decide +kernel
theorem dX0_moveTo_23 : decode cX0_moveTo 23 = .ok (.putfield 36, 3) := by decide +kernel
theorem dX0_moveTo_26 : decode cX0_moveTo 26 = .ok (.aload_n 0, 1) := by decide +kernel
theorem dX0_moveTo_27 : decode cX0_moveTo 27 = .ok (.aload_n 0, 1) := by decide +kernel
theorem dX0_moveTo_28 : decode cX0_moveTo 28 = .ok (.getfield 33, 3) := by decide +kernel
theorem dX0_moveTo_31 : decode cX0_moveTo 31 = .ok (.iload_n 2, 1) := by decide +kernel
theorem dX0_moveTo_32 : decode cX0_moveTo 32 = .ok (.iadd, 1) := by decide +kernel
theorem dX0_moveTo_33 : decode cX0_moveTo 33 = .ok (.aload_n 0, 1) := by decide +kernel
theorem dX0_moveTo_34 : decode cX0_moveTo 34 = .ok (.getfield 24, 3) := by decide +kernel
theorem dX0_moveTo_37 : decode cX0_moveTo 37 = .ok (.invokestatic 46, 3) := by decide +kernel
theorem dX0_moveTo_40 : decode cX0_moveTo 40 = .ok (.putfield 33, 3) := by decide +kernel
theorem dX0_moveTo_43 : decode cX0_moveTo 43 = .ok (.goto 27, 3) := by decide +kernel
theorem dX0_moveTo_46 : decode cX0_moveTo 46 = .ok (.aload_n 0, 1) := by decide +kernel
theorem dX0_moveTo_47 : decode cX0_moveTo 47 = .ok (.dup, 1) := by decide +kernel
theorem dX0_moveTo_48 : decode cX0_moveTo 48 = .ok (.getfield 39, 3) := by decide +kernel
theorem dX0_moveTo_51 : decode cX0_moveTo 51 = .ok (.iload_n 2, 1) := by decide +kernel
theorem dX0_moveTo_52 : decode cX0_moveTo 52 = .ok (.isub, 1) := by decide +kernel
theorem dX0_moveTo_53 : decode cX0_moveTo 53 = .ok (.putfield 39, 3) := by decide +kernel
theorem dX0_moveTo_56 : decode cX0_moveTo 56 = .ok (.aload_n 0, 1) := by decide +kernel
theorem dX0_moveTo_57 : decode cX0_moveTo 57 = .ok (.aload_n 0, 1) := by decide +kernel
theorem dX0_moveTo_58 : decode cX0_moveTo 58 = .ok (.getfield 33, 3) := by decide +kernel
theorem dX0_moveTo_61 : decode cX0_moveTo 61 = .ok (.iload_n 2, 1) := by decide +kernel
theorem dX0_moveTo_62 : decode cX0_moveTo 62 = .ok (.iadd, 1) := by decide +kernel
theorem dX0_moveTo_63 : decode cX0_moveTo 63 = .ok (.iconst 0, 1) := by decide +kernel
theorem dX0_moveTo_64 : decode cX0_moveTo 64 = .ok (.invokestatic 52, 3) := by decide +kernel
theorem dX0_moveTo_67 : decode cX0_moveTo 67 = .ok (.putfield 33, 3) := by decide +kernel
theorem dX0_moveTo_70 : decode cX0_moveTo 70 = .ok (.return_, 1) := by decide +kernel
set_option maxRecDepth 20000 in
theorem ggX0_follow_X0_moveTo : GoodIn wsX0_follow wsX0_moveTo := goodIn_r _ [7, 8, 9, 10, 11, 12, 13, 14, 15, 16, 17, 18, 19, 27, 28, 29, 30, 31, 32, 33, 34, 35, 36] (by decide +kernel) (by decide +kernel)
set_option maxRecDepth 20000 in
theorem gX0_follow_X0_moveTo : GoodIn wsX0_follow (wsV RX0 60 RX0 yX0_moveTo wsX0_moveTo) := goodIn_app (goodIn_of _ (by decide +kernel)) ggX0_follow_X0_moveTo
theorem dX0_follow_0 : decode cX0_follow 0 = .ok (.aload_n 0, 1) := by decide +kernel
theorem dX0_follow_1 : decode cX0_follow 1 = .ok (.aload_n 1, 1) := by decide +kernel
theorem dX0_follow_2 : decode cX0_follow 2 = .ok (.getfield 55, 3) := by decide +kernel
theorem dX0_follow_5 : decode cX0_follow 5 = .ok (.invokevirtual 60, 3) := by decide +kernel
theorem dX0_follow_8 : decode cX0_follow 8 = .ok (.aload_n 0, 1) := by decide +kernel
theorem dX0_follow_9 : decode cX0_follow 9 = .ok (.aload_n 1, 1) := by decide +kernel
theorem dX0_follow_10 : decode cX0_follow 10 = .ok (.getfield 64, 3) := by decide +kernel
theorem dX0_follow_13 : decode cX0_follow 13 = .ok (.invokevirtual 60, 3) := by decide +kernel
theorem dX0_follow_16 : decode cX0_follow 16 = .ok (.return_, 1) := by decide +kernel
set_option maxRecDepth 20000 in
theorem ggX0_tell_X0_dish : GoodIn wsX0_tell wsX0_dish := goodIn_r _ [14, 4, 5, 15, 16, 17, 18, 19, 20, 21, 22, 23, 24] (by decide +kernel) (by decide +kernel)
set_option maxRecDepth 20000 in
theorem gX0_tell_X0_dish : GoodIn wsX0_tell (wsV RX0 67 RX0 yX0_dish wsX0_dish) := goodIn_app (goodIn_of _ (by decide +kernel)) ggX0_tell_X0_dish
theorem dX0_tell_0 : decode cX0_tell 0 = .ok (.iload_n 1, 1) := by decide +kernel
theorem dX0_tell_1 : decode cX0_tell 1 = .ok (.tableswitch 106 0 8 #[51, 56, 61, 66, 71, 76, 81, 86, 91], 51) := by decide +kernel
theorem dX0_tell_52 : decode cX0_tell 52 = .ok (.aload_n 0, 1) := by decide +kernel
theorem dX0_tell_53 : decode cX0_tell 53 = .ok (.getfield 24, 3) := by decide +kernel
theorem dX0_tell_56 : decode cX0_tell 56 = .ok (.ireturn, 1) := by decide +kernel
theorem dX0_tell_57 : decode cX0_tell 57 = .ok (.aload_n 0, 1) := by decide +kernel
theorem dX0_tell_58 : decode cX0_tell 58 = .ok (.getfield 30, 3) := by decide +kernel
theorem dX0_tell_61 : decode cX0_tell 61 = .ok (.ireturn, 1) := by decide +kernel
theorem dX0_tell_62 : decode cX0_tell 62 = .ok (.aload_n 0, 1) := by decide +kernel
theorem dX0_tell_63 : decode cX0_tell 63 = .ok (.getfield 27, 3) := by decide +kernel
theorem dX0_tell_66 : decode cX0_tell 66 = .ok (.ireturn, 1) := by decide +kernel
theorem dX0_tell_67 : decode cX0_tell 67 = .ok (.aload_n 0, 1) := by decide +kernel
theorem dX0_tell_68 : decode cX0_tell 68 = .ok (.getfield 21, 3) := by decide +kernel
theorem dX0_tell_71 : decode cX0_tell 71 = .ok (.ireturn, 1) := by decide +kernel
theorem dX0_tell_72 : decode cX0_tell 72 = .ok (.aload_n 0, 1) := by decide +kernel
theorem dX0_tell_73 : decode cX0_tell 73 = .ok (.getfield 33, 3) := by decide +kernel
theorem dX0_tell_76 : decode cX0_tell 76 = .ok (.ireturn, 1) := by decide +kernel
theorem dX0_tell_77 : decode cX0_tell 77 = .ok (.aload_n 0, 1) := by decide +kernel
theorem dX0_tell_78 : decode cX0_tell 78 = .ok (.invokevirtual 67, 3) := by decide +kernel
theorem dX0_tell_81 : decode cX0_tell 81 = .ok (.ireturn, 1) := by decide +kernel
theorem dX0_tell_82 : decode cX0_tell 82 = .ok (.aload_n 0, 1) := by decide +kernel
theorem dX0_tell_83 : decode cX0_tell 83 = .ok (.getfield 36, 3) := by decide +kernel
theorem dX0_tell_86 : decode cX0_tell 86 = .ok (.ireturn, 1) := by decide +kernel
theorem dX0_tell_87 : decode cX0_tell 87 = .ok (.aload_n 0, 1) := by decide +kernel
theorem dX0_tell_88 : decode cX0_tell 88 = .ok (.getfield 39, 3) := by decide +kernel
theorem dX0_tell_91 : decode cX0_tell 91 = .ok (.ireturn, 1) := by decide +kernel
theorem dX0_tell_92 : decode cX0_tell 92 = .ok (.aload_n 0, 1) := by decide +kernel
theorem dX0_tell_93 : decode cX0_tell 93 = .ok (.getfield 18, 3) := by decide +kernel
theorem dX0_tell_96 : decode cX0_tell 96 = .ok (.aload_n 0, 1) := by decide +kernel
theorem dX0_tell_97 : decode cX0_tell 97 = .ok (.getfield 36, 3) := by decide +kernel
theorem dX0_tell_100 : decode cX0_tell 100 = .ok (.iadd, 1) := by decide +kernel
theorem dX0_tell_101 : decode cX0_tell 101 = .ok (.aload_n 0, 1) := by decide +kernel
theorem dX0_tell_102 : decode cX0_tell 102 = .ok (.getfield 39, 3) := by decide +kernel
theorem dX0_tell_105 : decode cX0_tell 105 = .ok (.isub, 1) := by decide +kernel
theorem dX0_tell_106 : decode cX0_tell 106 = .ok (.ireturn, 1) := by decide +kernel
theorem dX0_tell_107 : decode cX0_tell 107 = .ok (.ldc 71, 2) := by decide +kernel
theorem dX0_tell_109 : decode cX0_tell 109 = .ok (.ireturn, 1) := by decide +kernel
set_option maxRecDepth 20000 in
theorem ggX1_init_X2_init : GoodIn wsX1_init wsX2_init := goodIn_r _ [10, 11, 2, 3, 12, 13, 14, 15, 16, 17, 18, 19, 20, 21, 22, 23, 24, 25, 26, 27, 28, 29, 30, 31, 32, 33, 34, 35, 36, 37, 38, 39, 40, 41, 42, 43, 44, 45, 46, 49, 50, 51, 52, 53, 54, 55, 56, 57, 58, 59, 60, 61, 62, 63, 64, 65, 66, 67, 68, 69, 70, 71, 72, 73, 74, 75, 76, 77, 78, 79, 80, 81, 82, 83, 84, 85, 86, 87, 88, 89, 90] (by decide +kernel) (by decide +kernel)
set_option maxRecDepth 20000 in
theorem gX1_init_X2_init : GoodIn wsX1_init (wsX2_init) := ggX1_init_X2_init
theorem dX1_init_0 : decode cX1_init 0 = .ok (.aload_n 0, 1) := by decide +kernel
theorem dX1_init_1 : decode cX1_init 1 = .ok (.invokespecial 3, 3) := by decide +kernel
theorem dX1_init_4 : decode cX1_init 4 = .ok (.aload_n 0, 1) := by decide +kernel
theorem dX1_init_5 : decode cX1_init 5 = .ok (.iconst 5, 1) := by decide +kernel
theorem dX1_init_6 : decode cX1_init 6 = .ok (.anewarray 9, 3) := by decide +kernel
theorem dX1_init_9 : decode cX1_init 9 = .ok (.putfield 11, 3) := by decide +kernel
theorem dX1_init_12 : decode cX1_init 12 = .ok (.iconst 0, 1) := by decide +kernel
theorem dX1_init_13 : decode cX1_init 13 = .ok (.istore_n 1, 1) := by decide +kernel
theorem dX1_init_14 : decode cX1_init 14 = .ok (.iload_n 1, 1) := by decide +kernel
theorem dX1_init_15 : decode cX1_init 15 = .ok (.aload_n 0, 1) := by decide +kernel
theorem dX1_init_16 : decode cX1_init 16 = .ok (.getfield 11, 3) := by decide +kernel
theorem dX1_init_19 : decode cX1_init 19 = .ok (.arraylength, 1) := by decide +kernel
theorem dX1_init_20 : decode cX1_init 20 = .ok (.if_icmp .ge 22, 3) := by decide +kernel
theorem dX1_init_23 : decode cX1_init 23 = .ok (.aload_n 0, 1) := by decide +kernel
theorem dX1_init_24 : decode cX1_init 24 = .ok (.getfield 11, 3) := by decide +kernel
theorem dX1_init_27 : decode cX1_init 27 = .ok (.iload_n 1, 1) := by decide +kernel
theorem dX1_init_28 : decode cX1_init 28 = .ok (.new 9, 3) := by decide +kernel
theorem dX1_init_31 : decode cX1_init 31 = .ok (.dup, 1) := by decide +kernel
theorem dX1_init_32 : decode cX1_init 32 = .ok (.invokespecial 17, 3) := by decide +kernel
theorem dX1_init_35 : decode cX1_init 35 = .ok (.aastore, 1) := by decide +kernel
theorem dX1_init_36 : decode cX1_init 36 = .ok (.iinc 1 1, 3) := by decide +kernel
theorem dX1_init_39 : decode cX1_init 39 = .ok (.goto (-25), 3) := by decide +kernel
theorem dX1_init_42 : decode cX1_init 42 = .ok (.return_, 1) := by decide +kernel
set_option maxRecDepth 20000 in
theorem ggX1_record_X1_dropOldest : GoodIn wsX1_record wsX1_dropOldest := goodIn_r _ [7, 2, 1, 56, 57] (by decide +kernel) (by decide +kernel)
set_option maxRecDepth 20000 in
theorem gX1_record_X1_dropOldest : GoodIn wsX1_record (wsV RX1 22 RX1 yX1_dropOldest wsX1_dropOldest) := goodIn_app (goodIn_of _ (by decide +kernel)) ggX1_record_X1_dropOldest
set_option maxRecDepth 20000 in
theorem ggX1_record_X2_copyFrom : GoodIn wsX1_record wsX2_copyFrom := goodIn_r _ [12, 13, 14, 15, 16, 17, 18, 19, 20, 21, 22, 23, 24, 25, 26, 27, 28, 29, 30, 31, 32, 33, 34, 35, 36, 37, 38, 39, 40, 41, 42, 43, 44, 45, 46, 47, 48, 49, 50, 51, 52, 53, 54, 55, 58, 59, 60, 61, 62, 63, 64, 65, 66, 67, 68, 69, 70, 71, 72, 73, 74, 75, 76, 77, 78, 79, 80, 81, 82, 83, 84, 85, 86, 87, 88, 89, 90, 91, 92] (by decide +kernel) (by decide +kernel)
set_option maxRecDepth 20000 in
theorem gX1_record_X2_copyFrom : GoodIn wsX1_record (wsV RX1 25 RX2 yX2_copyFrom wsX2_copyFrom) := goodIn_app (goodIn_of _ (by decide +kernel)) ggX1_record_X2_copyFrom
theorem dX1_record_0 : decode cX1_record 0 = .ok (.aload_n 0, 1) := by decide +kernel
theorem dX1_record_1 : decode cX1_record 1 = .ok (.getfield 18, 3) := by decide +kernel
theorem dX1_record_4 : decode cX1_record 4 = .ok (.aload_n 0, 1) := by decide +kernel
theorem dX1_record_5 : decode cX1_record 5 = .ok (.getfield 11, 3) := by decide +kernel
theorem dX1_record_8 : decode cX1_record 8 = .ok (.arraylength, 1) := by decide +kernel
theorem dX1_record_9 : decode cX1_record 9 = .ok (.if_icmp .lt 7, 3) := by decide +kernel
theorem dX1_record_12 : decode cX1_record 12 = .ok (.aload_n 0, 1) := by decide +kernel
theorem dX1_record_13 : decode cX1_record 13 = .ok (.invokevirtual 22, 3) := by decide +kernel
theorem dX1_record_16 : decode cX1_record 16 = .ok (.aload_n 0, 1) := by decide +kernel
theorem dX1_record_17 : decode cX1_record 17 = .ok (.getfield 11, 3) := by decide +kernel
theorem dX1_record_20 : decode cX1_record 20 = .ok (.aload_n 0, 1) := by decide +kernel
theorem dX1_record_21 : decode cX1_record 21 = .ok (.getfield 18, 3) := by decide +kernel
theorem dX1_record_24 : decode cX1_record 24 = .ok (.aaload, 1) := by decide +kernel
theorem dX1_record_25 : decode cX1_record 25 = .ok (.aload_n 1, 1) := by decide +kernel
theorem dX1_record_26 : decode cX1_record 26 = .ok (.invokevirtual 25, 3) := by decide +kernel
theorem dX1_record_29 : decode cX1_record 29 = .ok (.aload_n 0, 1) := by decide +kernel
theorem dX1_record_30 : decode cX1_record 30 = .ok (.dup, 1) := by decide +kernel
theorem dX1_record_31 : decode cX1_record 31 = .ok (.getfield 18, 3) := by decide +kernel
theorem dX1_record_34 : decode cX1_record 34 = .ok (.iconst 1, 1) := by decide +kernel
theorem dX1_record_35 : decode cX1_record 35 = .ok (.iadd, 1) := by decide +kernel
theorem dX1_record_36 : decode cX1_record 36 = .ok (.putfield 18, 3) := by decide +kernel
theorem dX1_record_39 : decode cX1_record 39 = .ok (.return_, 1) := by decide +kernel
theorem dX1_dropOldest_0 : decode cX1_dropOldest 0 = .ok (.aload_n 0, 1) := by decide +kernel
theorem dX1_dropOldest_1 : decode cX1_dropOldest 1 = .ok (.getfield 11, 3) := by decide +kernel
theorem dX1_dropOldest_4 : decode cX1_dropOldest 4 = .ok (.iconst 0, 1) := by decide +kernel
theorem dX1_dropOldest_5 : decode cX1_dropOldest 5 = .ok (.aaload, 1) := by decide +kernel
theorem dX1_dropOldest_6 : decode cX1_dropOldest 6 = .ok (.astore_n 1, 1) := by decide +kernel
theorem dX1_dropOldest_7 : decode cX1_dropOldest 7 = .ok (.iconst 0, 1) := by decide +kernel
theorem dX1_dropOldest_8 : decode cX1_dropOldest 8 = .ok (.istore_n 2, 1) := by decide +kernel
theorem dX1_dropOldest_9 : decode cX1_dropOldest 9 = .ok (.iload_n 2, 1) := by decide +kernel
theorem dX1_dropOldest_10 : decode cX1_dropOldest 10 = .ok (.aload_n 0, 1) := by decide +kernel
theorem dX1_dropOldest_11 : decode cX1_dropOldest 11 = .ok (.getfield 11, 3) := by decide +kernel
theorem dX1_dropOldest_14 : decode cX1_dropOldest 14 = .ok (.arraylength, 1) := by decide +kernel
theorem dX1_dropOldest_15 : decode cX1_dropOldest 15 = .ok (.iconst 1, 1) := by decide +kernel
theorem dX1_dropOldest_16 : decode cX1_dropOldest 16 = .ok (.isub, 1) := by decide +kernel
theorem dX1_dropOldest_17 : decode cX1_dropOldest 17 = .ok (.if_icmp .ge 23, 3) := by decide +kernel
theorem dX1_dropOldest_20 : decode cX1_dropOldest 20 = .ok (.aload_n 0, 1) := by decide +kernel
theorem dX1_dropOldest_21 : decode cX1_dropOldest 21 = .ok (.getfield 11, 3) := by decide +kernel
theorem dX1_dropOldest_24 : decode cX1_dropOldest 24 = .ok (.iload_n 2, 1) := by decide +kernel
theorem dX1_dropOldest_25 : decode cX1_dropOldest 25 = .ok (.aload_n 0, 1) := by decide +kernel
theorem dX1_dropOldest_26 : decode cX1_dropOldest 26 = .ok (.getfield 11, 3) := by decide +kernel
theorem dX1_dropOldest_29 : decode cX1_dropOldest 29 = .ok (.iload_n 2, 1) := by decide +kernel
theorem dX1_dropOldest_30 : decode cX1_dropOldest 30 = .ok (.iconst 1, 1) := by decide +kernel
theorem dX1_dropOldest_31 : decode cX1_dropOldest 31 = .ok (.iadd, 1) := by decide +kernel
theorem dX1_dropOldest_32 : decode cX1_dropOldest 32 = .ok (.aaload, 1) := by decide +kernel
theorem dX1_dropOldest_33 : decode cX1_dropOldest 33 = .ok (.aastore, 1) := by decide +kernel
theorem dX1_dropOldest_34 : decode cX1_dropOldest 34 = .ok (.iinc 2 1, 3) := by decide +kernel
theorem dX1_dropOldest_37 : decode cX1_dropOldest 37 = .ok (.goto (-28), 3) := by decide +kernel
theorem dX1_dropOldest_40 : decode cX1_dropOldest 40 = .ok (.aload_n 0, 1) := by decide +kernel
theorem dX1_dropOldest_41 : decode cX1_dropOldest 41 = .ok (.getfield 11, 3) := by decide +kernel
theorem dX1_dropOldest_44 : decode cX1_dropOldest 44 = .ok (.aload_n 0, 1) := by decide +kernel
theorem dX1_dropOldest_45 : decode cX1_dropOldest 45 = .ok (.getfield 11, 3) := by decide +kernel
theorem dX1_dropOldest_48 : decode cX1_dropOldest 48 = .ok (.arraylength, 1) := by decide +kernel
theorem dX1_dropOldest_49 : decode cX1_dropOldest 49 = .ok (.iconst 1, 1) := by decide +kernel
theorem dX1_dropOldest_50 : decode cX1_dropOldest 50 = .ok (.isub, 1) := by decide +kernel
theorem dX1_dropOldest_51 : decode cX1_dropOldest 51 = .ok (.aload_n 1, 1) := by decide +kernel
theorem dX1_dropOldest_52 : decode cX1_dropOldest 52 = .ok (.aastore, 1) := by decide +kernel
theorem dX1_dropOldest_53 : decode cX1_dropOldest 53 = .ok (.aload_n 0, 1) := by decide +kernel
theorem dX1_dropOldest_54 : decode cX1_dropOldest 54 = .ok (.aload_n 0, 1) := by decide +kernel
theorem dX1_dropOldest_55 : decode cX1_dropOldest 55 = .ok (.getfield 11, 3) := by decide +kernel
theorem dX1_dropOldest_58 : decode cX1_dropOldest 58 = .ok (.arraylength, 1) := by decide +kernel
theorem dX1_dropOldest_59 : decode cX1_dropOldest 59 = .ok (.iconst 1, 1) := by decide +kernel
theorem dX1_dropOldest_60 : decode cX1_dropOldest 60 = .ok (.isub, 1) := by decide +kernel
theorem dX1_dropOldest_61 : decode cX1_dropOldest 61 = .ok (.putfield 18, 3) := by decide +kernel
theorem dX1_dropOldest_64 : decode cX1_dropOldest 64 = .ok (.return_, 1) := by decide +kernel
set_option maxRecDepth 20000 in
theorem ggX2_init_X0_init : GoodIn wsX2_init wsX0_init := goodIn_r _ [24, 25, 2, 3, 26, 27, 28, 29, 30, 31, 50, 51, 52, 53, 54, 55, 56, 57, 58, 59] (by decide +kernel) (by decide +kernel)
set_option maxRecDepth 20000 in
theorem gX2_init_X0_init : GoodIn wsX2_init (wsX0_init) := ggX2_init_X0_init
set_option maxRecDepth 20000 in
theorem ggX2_init_X5_init : GoodIn wsX2_init wsX5_init := goodIn_r _ [33, 34, 2, 3] (by decide +kernel) (by decide +kernel)
set_option maxRecDepth 20000 in
theorem gX2_init_X5_init_n38 : GoodIn wsX2_init (wsX5_init) := ggX2_init_X5_init
set_option maxRecDepth 20000 in
theorem ggX2_init_X3_init : GoodIn wsX2_init wsX3_init := goodIn_r _ [36, 37, 2, 3, 38, 67, 68, 69, 70, 71, 72, 73, 74, 75, 76, 77, 78, 79, 80] (by decide +kernel) (by decide +kernel)
set_option maxRecDepth 20000 in
theorem gX2_init_X3_init_n49 : GoodIn wsX2_init (wsX3_init) := ggX2_init_X3_init
theorem dX2_init_0 : decode cX2_init 0 = .ok (.aload_n 0, 1) := by decide +kernel
theorem dX2_init_1 : decode cX2_init 1 = .ok (.invokespecial 3, 3) := by decide +kernel
theorem dX2_init_4 : decode cX2_init 4 = .ok (.aload_n 0, 1) := by decide +kernel
theorem dX2_init_5 : decode cX2_init 5 = .ok (.iconst 4, 1) := by decide +kernel
theorem dX2_init_6 : decode cX2_init 6 = .ok (.newarray .int, 2) := by decide +kernel
theorem dX2_init_8 : decode cX2_init 8 = .ok (.dup, 1) := by decide +kernel
theorem dX2_init_9 : decode cX2_init 9 = .ok (.iconst 0, 1) := by decide +kernel
theorem dX2_init_10 : decode cX2_init 10 = .ok (.bipush 100, 2) := by decide +kernel
theorem dX2_init_12 : decode cX2_init 12 = .ok (.iastore, 1) := by decide +kernel
theorem dX2_init_13 : decode cX2_init 13 = .ok (.dup, 1) := by decide +kernel
theorem dX2_init_14 : decode cX2_init 14 = .ok (.iconst 1, 1) := by decide +kernel
theorem dX2_init_15 : decode cX2_init 15 = .ok (.sipush 18000, 3) := by decide +kernel
theorem dX2_init_18 : decode cX2_init 18 = .ok (.iastore, 1) := by decide +kernel
theorem dX2_init_19 : decode cX2_init 19 = .ok (.dup, 1) := by decide +kernel
theorem dX2_init_20 : decode cX2_init 20 = .ok (.iconst 2, 1) := by decide +kernel
theorem dX2_init_21 : decode cX2_init 21 = .ok (.bipush 30, 2) := by decide +kernel
theorem dX2_init_23 : decode cX2_init 23 = .ok (.iastore, 1) := by decide +kernel
theorem dX2_init_24 : decode cX2_init 24 = .ok (.dup, 1) := by decide +kernel
theorem dX2_init_25 : decode cX2_init 25 = .ok (.iconst 3, 1) := by decide +kernel
theorem dX2_init_26 : decode cX2_init 26 = .ok (.bipush 60, 2) := by decide +kernel
theorem dX2_init_28 : decode cX2_init 28 = .ok (.iastore, 1) := by decide +kernel
theorem dX2_init_29 : decode cX2_init 29 = .ok (.putfield 9, 3) := by decide +kernel
theorem dX2_init_32 : decode cX2_init 32 = .ok (.aload_n 0, 1) := by decide +kernel
theorem dX2_init_33 : decode cX2_init 33 = .ok (.bipush 31, 2) := by decide +kernel
theorem dX2_init_35 : decode cX2_init 35 = .ok (.newarray .int, 2) := by decide +kernel
theorem dX2_init_37 : decode cX2_init 37 = .ok (.putfield 15, 3) := by decide +kernel
theorem dX2_init_40 : decode cX2_init 40 = .ok (.aload_n 0, 1) := by decide +kernel
theorem dX2_init_41 : decode cX2_init 41 = .ok (.new 18, 3) := by decide +kernel
theorem dX2_init_44 : decode cX2_init 44 = .ok (.dup, 1) := by decide +kernel
theorem dX2_init_45 : decode cX2_init 45 = .ok (.sipush (-27000), 3) := by decide +kernel
theorem dX2_init_48 : decode cX2_init 48 = .ok (.sipush 27000, 3) := by decide +kernel
theorem dX2_init_51 : decode cX2_init 51 = .ok (.iconst 0, 1) := by decide +kernel
theorem dX2_init_52 : decode cX2_init 52 = .ok (.bipush 40, 2) := by decide +kernel
theorem dX2_init_54 : decode cX2_init 54 = .ok (.sipush 600, 3) := by decide +kernel
theorem dX2_init_57 : decode cX2_init 57 = .ok (.invokespecial 20, 3) := by decide +kernel
theorem dX2_init_60 : decode cX2_init 60 = .ok (.putfield 23, 3) := by decide +kernel
theorem dX2_init_63 : decode cX2_init 63 = .ok (.aload_n 0, 1) := by decide +kernel
theorem dX2_init_64 : decode cX2_init 64 = .ok (.new 18, 3) := by decide +kernel
theorem dX2_init_67 : decode cX2_init 67 = .ok (.dup, 1) := by decide +kernel
theorem dX2_init_68 : decode cX2_init 68 = .ok (.sipush 500, 3) := by decide +kernel
theorem dX2_init_71 : decode cX2_init 71 = .ok (.sipush 9000, 3) := by decide +kernel
theorem dX2_init_74 : decode cX2_init 74 = .ok (.sipush 9000, 3) := by decide +kernel
theorem dX2_init_77 : decode cX2_init 77 = .ok (.bipush 20, 2) := by decide +kernel
theorem dX2_init_79 : decode cX2_init 79 = .ok (.sipush 300, 3) := by decide +kernel
theorem dX2_init_82 : decode cX2_init 82 = .ok (.invokespecial 20, 3) := by decide +kernel
theorem dX2_init_85 : decode cX2_init 85 = .ok (.putfield 27, 3) := by decide +kernel
theorem dX2_init_88 : decode cX2_init 88 = .ok (.aload_n 0, 1) := by decide +kernel
theorem dX2_init_89 : decode cX2_init 89 = .ok (.bipush 10, 2) := by decide +kernel
theorem dX2_init_91 : decode cX2_init 91 = .ok (.anewarray 30, 3) := by decide +kernel
theorem dX2_init_94 : decode cX2_init 94 = .ok (.putfield 32, 3) := by decide +kernel
theorem dX2_init_97 : decode cX2_init 97 = .ok (.aload_n 0, 1) := by decide +kernel
theorem dX2_init_98 : decode cX2_init 98 = .ok (.new 36, 3) := by decide +kernel
theorem dX2_init_101 : decode cX2_init 101 = .ok (.dup, 1) := by decide +kernel
theorem dX2_init_102 : decode cX2_init 102 = .ok (.invokespecial 38, 3) := by decide +kernel
theorem dX2_init_105 : decode cX2_init 105 = .ok (.putfield 39, 3) := by decide +kernel
theorem dX2_init_108 : decode cX2_init 108 = .ok (.aload_n 0, 1) := by decide +kernel
theorem dX2_init_109 : decode cX2_init 109 = .ok (.new 36, 3) := by decide +kernel
theorem dX2_init_112 : decode cX2_init 112 = .ok (.dup, 1) := by decide +kernel
theorem dX2_init_113 : decode cX2_init 113 = .ok (.invokespecial 38, 3) := by decide +kernel
theorem dX2_init_116 : decode cX2_init 116 = .ok (.putfield 43, 3) := by decide +kernel
theorem dX2_init_119 : decode cX2_init 119 = .ok (.aload_n 0, 1) := by decide +kernel
theorem dX2_init_120 : decode cX2_init 120 = .ok (.new 36, 3) := by decide +kernel
theorem dX2_init_123 : decode cX2_init 123 = .ok (.dup, 1) := by decide +kernel
theorem dX2_init_124 : decode cX2_init 124 = .ok (.invokespecial 38, 3) := by decide +kernel
theorem dX2_init_127 : decode cX2_init 127 = .ok (.putfield 46, 3) := by decide +kernel
theorem dX2_init_130 : decode cX2_init 130 = .ok (.iconst 0, 1) := by decide +kernel
theorem dX2_init_131 : decode cX2_init 131 = .ok (.istore_n 1, 1) := by decide +kernel
theorem dX2_init_132 : decode cX2_init 132 = .ok (.iload_n 1, 1) := by decide +kernel
theorem dX2_init_133 : decode cX2_init 133 = .ok (.aload_n 0, 1) := by decide +kernel
theorem dX2_init_134 : decode cX2_init 134 = .ok (.getfield 32, 3) := by decide +kernel
theorem dX2_init_137 : decode cX2_init 137 = .ok (.arraylength, 1) := by decide +kernel
theorem dX2_init_138 : decode cX2_init 138 = .ok (.if_icmp .ge 22, 3) := by decide +kernel
theorem dX2_init_141 : decode cX2_init 141 = .ok (.aload_n 0, 1) := by decide +kernel
theorem dX2_init_142 : decode cX2_init 142 = .ok (.getfield 32, 3) := by decide +kernel
theorem dX2_init_145 : decode cX2_init 145 = .ok (.iload_n 1, 1) := by decide +kernel
theorem dX2_init_146 : decode cX2_init 146 = .ok (.new 30, 3) := by decide +kernel
theorem dX2_init_149 : decode cX2_init 149 = .ok (.dup, 1) := by decide +kernel
theorem dX2_init_150 : decode cX2_init 150 = .ok (.invokespecial 49, 3) := by decide +kernel
theorem dX2_init_153 : decode cX2_init 153 = .ok (.aastore, 1) := by decide +kernel
theorem dX2_init_154 : decode cX2_init 154 = .ok (.iinc 1 1, 3) := by decide +kernel
theorem dX2_init_157 : decode cX2_init 157 = .ok (.goto (-25), 3) := by decide +kernel
theorem dX2_init_160 : decode cX2_init 160 = .ok (.return_, 1) := by decide +kernel
set_option maxRecDepth 20000 in
theorem ggX2_copyFrom_X0_copyFrom : GoodIn wsX2_copyFrom wsX0_copyFrom := goodIn_r _ [17, 18, 19, 20, 21, 22, 23, 24, 55, 56, 57, 58, 59, 60, 61, 62, 63, 64] (by decide +kernel) (by decide +kernel)
set_option maxRecDepth 20000 in
theorem gX2_copyFrom_X0_copyFrom : GoodIn wsX2_copyFrom (wsV RX2 66 RX0 yX0_copyFrom wsX0_copyFrom) := goodIn_app (goodIn_of _ (by decide +kernel)) ggX2_copyFrom_X0_copyFrom
set_option maxRecDepth 20000 in
theorem ggX2_copyFrom_X3_copyFrom : GoodIn wsX2_copyFrom wsX3_copyFrom := goodIn_r _ [29, 30, 31, 32, 33, 34, 35, 36, 37, 38, 39, 40, 41, 42, 43, 65, 66, 67, 68, 69, 70, 71, 72, 73, 74, 75, 76, 77, 78] (by decide +kernel) (by decide +kernel)
set_option maxRecDepth 20000 in
theorem gX2_copyFrom_X3_copyFrom : GoodIn wsX2_copyFrom (wsV RX2 70 RX3 yX3_copyFrom wsX3_copyFrom) := goodIn_app (goodIn_of _ (by decide +kernel)) ggX2_copyFrom_X3_copyFrom
theorem dX2_copyFrom_0 : decode cX2_copyFrom 0 = .ok (.aload_n 0, 1) := by decide +kernel
theorem dX2_copyFrom_1 : decode cX2_copyFrom 1 = .ok (.aload_n 1, 1) := by decide +kernel
theorem dX2_copyFrom_2 : decode cX2_copyFrom 2 = .ok (.getfield 50, 3) := by decide +kernel
theorem dX2_copyFrom_5 : decode cX2_copyFrom 5 = .ok (.putfield 50, 3) := by decide +kernel
theorem dX2_copyFrom_8 : decode cX2_copyFrom 8 = .ok (.aload_n 0, 1) := by decide +kernel
theorem dX2_copyFrom_9 : decode cX2_copyFrom 9 = .ok (.aload_n 1, 1) := by decide +kernel
theorem dX2_copyFrom_10 : decode cX2_copyFrom 10 = .ok (.getfield 54, 3) := by decide +kernel
theorem dX2_copyFrom_13 : decode cX2_copyFrom 13 = .ok (.putfield 54, 3) := by decide +kernel
theorem dX2_copyFrom_16 : decode cX2_copyFrom 16 = .ok (.aload_n 0, 1) := by decide +kernel
theorem dX2_copyFrom_17 : decode cX2_copyFrom 17 = .ok (.aload_n 1, 1) := by decide +kernel
theorem dX2_copyFrom_18 : decode cX2_copyFrom 18 = .ok (.getfield 57, 3) := by decide +kernel
theorem dX2_copyFrom_21 : decode cX2_copyFrom 21 = .ok (.putfield 57, 3) := by decide +kernel
theorem dX2_copyFrom_24 : decode cX2_copyFrom 24 = .ok (.aload_n 1, 1) := by decide +kernel
theorem dX2_copyFrom_25 : decode cX2_copyFrom 25 = .ok (.getfield 9, 3) := by decide +kernel
theorem dX2_copyFrom_28 : decode cX2_copyFrom 28 = .ok (.iconst 0, 1) := by decide +kernel
theorem dX2_copyFrom_29 : decode cX2_copyFrom 29 = .ok (.aload_n 0, 1) := by decide +kernel
theorem dX2_copyFrom_30 : decode cX2_copyFrom 30 = .ok (.getfield 9, 3) := by decide +kernel
theorem dX2_copyFrom_33 : decode cX2_copyFrom 33 = .ok (.iconst 0, 1) := by decide +kernel
theorem dX2_copyFrom_34 : decode cX2_copyFrom 34 = .ok (.aload_n 0, 1) := by decide +kernel
theorem dX2_copyFrom_35 : decode cX2_copyFrom 35 = .ok (.getfield 9, 3) := by decide +kernel
theorem dX2_copyFrom_38 : decode cX2_copyFrom 38 = .ok (.arraylength, 1) := by decide +kernel
theorem dX2_copyFrom_39 : decode cX2_copyFrom 39 = .ok (.invokestatic 60, 3) := by decide +kernel
theorem dX2_copyFrom_42 : decode cX2_copyFrom 42 = .ok (.aload_n 1, 1) := by decide +kernel
theorem dX2_copyFrom_43 : decode cX2_copyFrom 43 = .ok (.getfield 15, 3) := by decide +kernel
theorem dX2_copyFrom_46 : decode cX2_copyFrom 46 = .ok (.iconst 0, 1) := by decide +kernel
theorem dX2_copyFrom_47 : decode cX2_copyFrom 47 = .ok (.aload_n 0, 1) := by decide +kernel
theorem dX2_copyFrom_48 : decode cX2_copyFrom 48 = .ok (.getfield 15, 3) := by decide +kernel
theorem dX2_copyFrom_51 : decode cX2_copyFrom 51 = .ok (.iconst 0, 1) := by decide +kernel
theorem dX2_copyFrom_52 : decode cX2_copyFrom 52 = .ok (.aload_n 0, 1) := by decide +kernel
theorem dX2_copyFrom_53 : decode cX2_copyFrom 53 = .ok (.getfield 15, 3) := by decide +kernel
theorem dX2_copyFrom_56 : decode cX2_copyFrom 56 = .ok (.arraylength, 1) := by decide +kernel
theorem dX2_copyFrom_57 : decode cX2_copyFrom 57 = .ok (.invokestatic 60, 3) := by decide +kernel
theorem dX2_copyFrom_60 : decode cX2_copyFrom 60 = .ok (.aload_n 0, 1) := by decide +kernel
theorem dX2_copyFrom_61 : decode cX2_copyFrom 61 = .ok (.getfield 23, 3) := by decide +kernel
theorem dX2_copyFrom_64 : decode cX2_copyFrom 64 = .ok (.aload_n 1, 1) := by decide +kernel
theorem dX2_copyFrom_65 : decode cX2_copyFrom 65 = .ok (.getfield 23, 3) := by decide +kernel
theorem dX2_copyFrom_68 : decode cX2_copyFrom 68 = .ok (.invokevirtual 66, 3) := by decide +kernel
theorem dX2_copyFrom_71 : decode cX2_copyFrom 71 = .ok (.aload_n 0, 1) := by decide +kernel
theorem dX2_copyFrom_72 : decode cX2_copyFrom 72 = .ok (.getfield 27, 3) := by decide +kernel
theorem dX2_copyFrom_75 : decode cX2_copyFrom 75 = .ok (.aload_n 1, 1) := by decide +kernel
theorem dX2_copyFrom_76 : decode cX2_copyFrom 76 = .ok (.getfield 27, 3) := by decide +kernel
theorem dX2_copyFrom_79 : decode cX2_copyFrom 79 = .ok (.invokevirtual 66, 3) := by decide +kernel
theorem dX2_copyFrom_82 : decode cX2_copyFrom 82 = .ok (.iconst 0, 1) := by decide +kernel
theorem dX2_copyFrom_83 : decode cX2_copyFrom 83 = .ok (.istore_n 2, 1) := by decide +kernel
theorem dX2_copyFrom_84 : decode cX2_copyFrom 84 = .ok (.iload_n 2, 1) := by decide +kernel
theorem dX2_copyFrom_85 : decode cX2_copyFrom 85 = .ok (.aload_n 0, 1) := by decide +kernel
theorem dX2_copyFrom_86 : decode cX2_copyFrom 86 = .ok (.getfield 32, 3) := by decide +kernel
theorem dX2_copyFrom_89 : decode cX2_copyFrom 89 = .ok (.arraylength, 1) := by decide +kernel
theorem dX2_copyFrom_90 : decode cX2_copyFrom 90 = .ok (.if_icmp .ge 24, 3) := by decide +kernel
theorem dX2_copyFrom_93 : decode cX2_copyFrom 93 = .ok (.aload_n 0, 1) := by decide +kernel
theorem dX2_copyFrom_94 : decode cX2_copyFrom 94 = .ok (.getfield 32, 3) := by decide +kernel
theorem dX2_copyFrom_97 : decode cX2_copyFrom 97 = .ok (.iload_n 2, 1) := by decide +kernel
theorem dX2_copyFrom_98 : decode cX2_copyFrom 98 = .ok (.aaload, 1) := by decide +kernel
theorem dX2_copyFrom_99 : decode cX2_copyFrom 99 = .ok (.aload_n 1, 1) := by decide +kernel
theorem dX2_copyFrom_100 : decode cX2_copyFrom 100 = .ok (.getfield 32, 3) := by decide +kernel
theorem dX2_copyFrom_103 : decode cX2_copyFrom 103 = .ok (.iload_n 2, 1) := by decide +kernel
theorem dX2_copyFrom_104 : decode cX2_copyFrom 104 = .ok (.aaload, 1) := by decide +kernel
theorem dX2_copyFrom_105 : decode cX2_copyFrom 105 = .ok (.invokevirtual 70, 3) := by decide +kernel
theorem dX2_copyFrom_108 : decode cX2_copyFrom 108 = .ok (.iinc 2 1, 3) := by decide +kernel
theorem dX2_copyFrom_111 : decode cX2_copyFrom 111 = .ok (.goto (-27), 3) := by decide +kernel
theorem dX2_copyFrom_114 : decode cX2_copyFrom 114 = .ok (.return_, 1) := by decide +kernel
theorem dX2_changeSetting_0 : decode cX2_changeSetting 0 = .ok (.aload_n 0, 1) := by decide +kernel
theorem dX2_changeSetting_1 : decode cX2_changeSetting 1 = .ok (.getfield 9, 3) := by decide +kernel
theorem dX2_changeSetting_4 : decode cX2_changeSetting 4 = .ok (.iload_n 1, 1) := by decide +kernel
theorem dX2_changeSetting_5 : decode cX2_changeSetting 5 = .ok (.iaload, 1) := by decide +kernel
theorem dX2_changeSetting_6 : decode cX2_changeSetting 6 = .ok (.istore_n 3, 1) := by decide +kernel
theorem dX2_changeSetting_7 : decode cX2_changeSetting 7 = .ok (.aload_n 0, 1) := by decide +kernel
theorem dX2_changeSetting_8 : decode cX2_changeSetting 8 = .ok (.getfield 9, 3) := by decide +kernel
theorem dX2_changeSetting_11 : decode cX2_changeSetting 11 = .ok (.iload_n 1, 1) := by decide +kernel
theorem dX2_changeSetting_12 : decode cX2_changeSetting 12 = .ok (.iload_n 2, 1) := by decide +kernel
theorem dX2_changeSetting_13 : decode cX2_changeSetting 13 = .ok (.iastore, 1) := by decide +kernel
theorem dX2_changeSetting_14 : decode cX2_changeSetting 14 = .ok (.iload_n 3, 1) := by decide +kernel
theorem dX2_changeSetting_15 : decode cX2_changeSetting 15 = .ok (.ireturn, 1) := by decide +kernel
theorem dX2_changeGust_0 : decode cX2_changeGust 0 = .ok (.aload_n 0, 1) := by decide +kernel
theorem dX2_changeGust_1 : decode cX2_changeGust 1 = .ok (.getfield 15, 3) := by decide +kernel
theorem dX2_changeGust_4 : decode cX2_changeGust 4 = .ok (.iload_n 1, 1) := by decide +kernel
theorem dX2_changeGust_5 : decode cX2_changeGust 5 = .ok (.iaload, 1) := by decide +kernel
theorem dX2_changeGust_6 : decode cX2_changeGust 6 = .ok (.istore_n 3, 1) := by decide +kernel
theorem dX2_changeGust_7 : decode cX2_changeGust 7 = .ok (.aload_n 0, 1) := by decide +kernel
theorem dX2_changeGust_8 : decode cX2_changeGust 8 = .ok (.getfield 15, 3) := by decide +kernel
theorem dX2_changeGust_11 : decode cX2_changeGust 11 = .ok (.iload_n 1, 1) := by decide +kernel
theorem dX2_changeGust_12 : decode cX2_changeGust 12 = .ok (.iload_n 2, 1) := by decide +kernel
theorem dX2_changeGust_13 : decode cX2_changeGust 13 = .ok (.iastore, 1) := by decide +kernel
theorem dX2_changeGust_14 : decode cX2_changeGust 14 = .ok (.iload_n 3, 1) := by decide +kernel
theorem dX2_changeGust_15 : decode cX2_changeGust 15 = .ok (.ireturn, 1) := by decide +kernel
theorem dX2_axisNumber_0 : decode cX2_axisNumber 0 = .ok (.iload_n 1, 1) := by decide +kernel
theorem dX2_axisNumber_1 : decode cX2_axisNumber 1 = .ok (.ifCond .ne 10, 3) := by decide +kernel
theorem dX2_axisNumber_4 : decode cX2_axisNumber 4 = .ok (.aload_n 0, 1) := by decide +kernel
theorem dX2_axisNumber_5 : decode cX2_axisNumber 5 = .ok (.getfield 23, 3) := by decide +kernel
theorem dX2_axisNumber_8 : decode cX2_axisNumber 8 = .ok (.goto 7, 3) := by decide +kernel
theorem dX2_axisNumber_11 : decode cX2_axisNumber 11 = .ok (.aload_n 0, 1) := by decide +kernel
theorem dX2_axisNumber_12 : decode cX2_axisNumber 12 = .ok (.getfield 27, 3) := by decide +kernel
theorem dX2_axisNumber_15 : decode cX2_axisNumber 15 = .ok (.areturn, 1) := by decide +kernel
theorem dX2_day_0 : decode cX2_day 0 = .ok (.aload_n 0, 1) := by decide +kernel
theorem dX2_day_1 : decode cX2_day 1 = .ok (.getfield 50, 3) := by decide +kernel
theorem dX2_day_4 : decode cX2_day 4 = .ok (.sipush 1440, 3) := by decide +kernel
theorem dX2_day_7 : decode cX2_day 7 = .ok (.idiv, 1) := by decide +kernel
theorem dX2_day_8 : decode cX2_day 8 = .ok (.ireturn, 1) := by decide +kernel
set_option maxRecDepth 20000 in
theorem ggX2_gustToday_X2_day : GoodIn wsX2_gustToday wsX2_day := goodIn_r _ [6, 7, 8, 9, 10, 11, 12, 13, 14, 15, 16, 17, 18] (by decide +kernel) (by decide +kernel)
set_option maxRecDepth 20000 in
theorem gX2_gustToday_X2_day : GoodIn wsX2_gustToday (wsV RX2 73 RX2 yX2_day wsX2_day) := goodIn_app (goodIn_of _ (by decide +kernel)) ggX2_gustToday_X2_day
theorem dX2_gustToday_0 : decode cX2_gustToday 0 = .ok (.aload_n 0, 1) := by decide +kernel
theorem dX2_gustToday_1 : decode cX2_gustToday 1 = .ok (.invokevirtual 73, 3) := by decide +kernel
theorem dX2_gustToday_4 : decode cX2_gustToday 4 = .ok (.istore_n 1, 1) := by decide +kernel
theorem dX2_gustToday_5 : decode cX2_gustToday 5 = .ok (.iload_n 1, 1) := by decide +kernel
theorem dX2_gustToday_6 : decode cX2_gustToday 6 = .ok (.ifCond .lt 21, 3) := by decide +kernel
theorem dX2_gustToday_9 : decode cX2_gustToday 9 = .ok (.iload_n 1, 1) := by decide +kernel
theorem dX2_gustToday_10 : decode cX2_gustToday 10 = .ok (.aload_n 0, 1) := by decide +kernel
theorem dX2_gustToday_11 : decode cX2_gustToday 11 = .ok (.getfield 15, 3) := by decide +kernel
theorem dX2_gustToday_14 : decode cX2_gustToday 14 = .ok (.arraylength, 1) := by decide +kernel
theorem dX2_gustToday_15 : decode cX2_gustToday 15 = .ok (.if_icmp .ge 12, 3) := by decide +kernel
theorem dX2_gustToday_18 : decode cX2_gustToday 18 = .ok (.aload_n 0, 1) := by decide +kernel
theorem dX2_gustToday_19 : decode cX2_gustToday 19 = .ok (.getfield 15, 3) := by decide +kernel
theorem dX2_gustToday_22 : decode cX2_gustToday 22 = .ok (.iload_n 1, 1) := by decide +kernel
theorem dX2_gustToday_23 : decode cX2_gustToday 23 = .ok (.iaload, 1) := by decide +kernel
theorem dX2_gustToday_24 : decode cX2_gustToday 24 = .ok (.goto 4, 3) := by decide +kernel
theorem dX2_gustToday_27 : decode cX2_gustToday 27 = .ok (.iconst 0, 1) := by decide +kernel
theorem dX2_gustToday_28 : decode cX2_gustToday 28 = .ok (.ireturn, 1) := by decide +kernel
set_option maxRecDepth 20000 in
theorem ggX2_kindOfDay_X2_gustToday : GoodIn wsX2_kindOfDay wsX2_gustToday := goodIn_r _ [6, 7, 8, 9, 10, 5, 11, 12, 13, 14, 15, 16, 17, 18, 19, 20, 21, 22, 23] (by decide +kernel) (by decide +kernel)
set_option maxRecDepth 20000 in
theorem gX2_kindOfDay_X2_gustToday : GoodIn wsX2_kindOfDay (wsV RX2 77 RX2 yX2_gustToday wsX2_gustToday) := goodIn_app (goodIn_of _ (by decide +kernel)) ggX2_kindOfDay_X2_gustToday
theorem dX2_kindOfDay_0 : decode cX2_kindOfDay 0 = .ok (.aload_n 0, 1) := by decide +kernel
theorem dX2_kindOfDay_1 : decode cX2_kindOfDay 1 = .ok (.invokevirtual 77, 3) := by decide +kernel
theorem dX2_kindOfDay_4 : decode cX2_kindOfDay 4 = .ok (.istore_n 1, 1) := by decide +kernel
theorem dX2_kindOfDay_5 : decode cX2_kindOfDay 5 = .ok (.iload_n 1, 1) := by decide +kernel
theorem dX2_kindOfDay_6 : decode cX2_kindOfDay 6 = .ok (.aload_n 0, 1) := by decide +kernel
theorem dX2_kindOfDay_7 : decode cX2_kindOfDay 7 = .ok (.getfield 9, 3) := by decide +kernel
theorem dX2_kindOfDay_10 : decode cX2_kindOfDay 10 = .ok (.iconst 3, 1) := by decide +kernel
theorem dX2_kindOfDay_11 : decode cX2_kindOfDay 11 = .ok (.iaload, 1) := by decide +kernel
theorem dX2_kindOfDay_12 : decode cX2_kindOfDay 12 = .ok (.if_icmp .lt 5, 3) := by decide +kernel
theorem dX2_kindOfDay_15 : decode cX2_kindOfDay 15 = .ok (.iconst 0, 1) := by decide +kernel
theorem dX2_kindOfDay_16 : decode cX2_kindOfDay 16 = .ok (.ireturn, 1) := by decide +kernel
theorem dX2_kindOfDay_17 : decode cX2_kindOfDay 17 = .ok (.iload_n 1, 1) := by decide +kernel
theorem dX2_kindOfDay_18 : decode cX2_kindOfDay 18 = .ok (.aload_n 0, 1) := by decide +kernel
theorem dX2_kindOfDay_19 : decode cX2_kindOfDay 19 = .ok (.getfield 9, 3) := by decide +kernel
theorem dX2_kindOfDay_22 : decode cX2_kindOfDay 22 = .ok (.iconst 2, 1) := by decide +kernel
theorem dX2_kindOfDay_23 : decode cX2_kindOfDay 23 = .ok (.iaload, 1) := by decide +kernel
theorem dX2_kindOfDay_24 : decode cX2_kindOfDay 24 = .ok (.if_icmp .lt 7, 3) := by decide +kernel
theorem dX2_kindOfDay_27 : decode cX2_kindOfDay 27 = .ok (.iconst 1, 1) := by decide +kernel
theorem dX2_kindOfDay_28 : decode cX2_kindOfDay 28 = .ok (.goto 4, 3) := by decide +kernel
theorem dX2_kindOfDay_31 : decode cX2_kindOfDay 31 = .ok (.iconst 2, 1) := by decide +kernel
theorem dX2_kindOfDay_32 : decode cX2_kindOfDay 32 = .ok (.ireturn, 1) := by decide +kernel
set_option maxRecDepth 20000 in
theorem ggX2_tell_X2_day : GoodIn wsX2_tell wsX2_day := goodIn_r _ [12, 1, 33, 34, 35, 36, 37, 38, 39, 40, 41, 42, 43] (by decide +kernel) (by decide +kernel)
set_option maxRecDepth 20000 in
theorem gX2_tell_X2_day : GoodIn wsX2_tell (wsV RX2 73 RX2 yX2_day wsX2_day) := goodIn_app (goodIn_of _ (by decide +kernel)) ggX2_tell_X2_day
set_option maxRecDepth 20000 in
theorem ggX2_tell_X2_gustToday : GoodIn wsX2_tell wsX2_gustToday := goodIn_r _ [16, 17, 8, 9, 10, 11, 12, 1, 33, 34, 35, 36, 37, 38, 39, 40, 41, 42, 43] (by decide +kernel) (by decide +kernel)
set_option maxRecDepth 20000 in
theorem gX2_tell_X2_gustToday : GoodIn wsX2_tell (wsV RX2 77 RX2 yX2_gustToday wsX2_gustToday) := goodIn_app (goodIn_of _ (by decide +kernel)) ggX2_tell_X2_gustToday
set_option maxRecDepth 20000 in
theorem ggX2_tell_X2_kindOfDay : GoodIn wsX2_tell wsX2_kindOfDay := goodIn_r _ [21, 2, 13, 14, 15, 11, 16, 17, 8, 9, 10, 12, 1, 33, 34, 35, 36, 37, 38, 39, 40, 41, 42, 43] (by decide +kernel) (by decide +kernel)
set_option maxRecDepth 20000 in
theorem gX2_tell_X2_kindOfDay : GoodIn wsX2_tell (wsV RX2 80 RX2 yX2_kindOfDay wsX2_kindOfDay) := goodIn_app (goodIn_of _ (by decide +kernel)) ggX2_tell_X2_kindOfDay
set_option maxRecDepth 20000 in
theorem ggX2_tell_X0_dish : GoodIn wsX2_tell wsX0_dish := goodIn_r _ [26, 27, 28, 44, 45, 46, 47, 48, 49, 50, 51, 52, 53] (by decide +kernel) (by decide +kernel)
set_option maxRecDepth 20000 in
theorem gX2_tell_X0_dish : GoodIn wsX2_tell (wsV RX2 83 RX0 yX0_dish wsX0_dish) := goodIn_app (goodIn_of _ (by decide +kernel)) ggX2_tell_X0_dish
set_option maxRecDepth 20000 in
theorem ggX2_tell_J9_floorMod_7cf53 : GoodIn wsX2_tell wsJ9_floorMod_7cf53 := goodIn_r _ [32] (by decide +kernel) (by decide +kernel)
set_option maxRecDepth 20000 in
theorem gX2_tell_J9_floorMod_7cf53 : GoodIn wsX2_tell (va_wsS RX2 87 yJ9_floorMod_7cf53 wsJ9_floorMod_7cf53) := goodIn_app (goodIn_of _ (by decide +kernel)) ggX2_tell_J9_floorMod_7cf53
theorem dX2_tell_0 : decode cX2_tell 0 = .ok (.iload_n 1, 1) := by decide +kernel
theorem dX2_tell_1 : decode cX2_tell 1 = .ok (.tableswitch 162 0 18 #[91, 96, 101, 106, 162, 162, 162, 162, 162, 162, 162, 162, 111, 118, 125, 132, 139, 144, 149], 91) := by decide +kernel
theorem dX2_tell_92 : decode cX2_tell 92 = .ok (.aload_n 0, 1) := by decide +kernel
theorem dX2_tell_93 : decode cX2_tell 93 = .ok (.getfield 50, 3) := by decide +kernel
theorem dX2_tell_96 : decode cX2_tell 96 = .ok (.ireturn, 1) := by decide +kernel
theorem dX2_tell_97 : decode cX2_tell 97 = .ok (.aload_n 0, 1) := by decide +kernel
theorem dX2_tell_98 : decode cX2_tell 98 = .ok (.invokevirtual 73, 3) := by decide +kernel
theorem dX2_tell_101 : decode cX2_tell 101 = .ok (.ireturn, 1) := by decide +kernel
theorem dX2_tell_102 : decode cX2_tell 102 = .ok (.aload_n 0, 1) := by decide +kernel
theorem dX2_tell_103 : decode cX2_tell 103 = .ok (.invokevirtual 77, 3) := by decide +kernel
theorem dX2_tell_106 : decode cX2_tell 106 = .ok (.ireturn, 1) := by decide +kernel
theorem dX2_tell_107 : decode cX2_tell 107 = .ok (.aload_n 0, 1) := by decide +kernel
theorem dX2_tell_108 : decode cX2_tell 108 = .ok (.invokevirtual 80, 3) := by decide +kernel
theorem dX2_tell_111 : decode cX2_tell 111 = .ok (.ireturn, 1) := by decide +kernel
theorem dX2_tell_112 : decode cX2_tell 112 = .ok (.aload_n 0, 1) := by decide +kernel
theorem dX2_tell_113 : decode cX2_tell 113 = .ok (.getfield 9, 3) := by decide +kernel
theorem dX2_tell_116 : decode cX2_tell 116 = .ok (.iconst 0, 1) := by decide +kernel
theorem dX2_tell_117 : decode cX2_tell 117 = .ok (.iaload, 1) := by decide +kernel
theorem dX2_tell_118 : decode cX2_tell 118 = .ok (.ireturn, 1) := by decide +kernel
theorem dX2_tell_119 : decode cX2_tell 119 = .ok (.aload_n 0, 1) := by decide +kernel
theorem dX2_tell_120 : decode cX2_tell 120 = .ok (.getfield 9, 3) := by decide +kernel
theorem dX2_tell_123 : decode cX2_tell 123 = .ok (.iconst 1, 1) := by decide +kernel
theorem dX2_tell_124 : decode cX2_tell 124 = .ok (.iaload, 1) := by decide +kernel
theorem dX2_tell_125 : decode cX2_tell 125 = .ok (.ireturn, 1) := by decide +kernel
theorem dX2_tell_126 : decode cX2_tell 126 = .ok (.aload_n 0, 1) := by decide +kernel
theorem dX2_tell_127 : decode cX2_tell 127 = .ok (.getfield 9, 3) := by decide +kernel
theorem dX2_tell_130 : decode cX2_tell 130 = .ok (.iconst 2, 1) := by decide +kernel
theorem dX2_tell_131 : decode cX2_tell 131 = .ok (.iaload, 1) := by decide +kernel
theorem dX2_tell_132 : decode cX2_tell 132 = .ok (.ireturn, 1) := by decide +kernel
theorem dX2_tell_133 : decode cX2_tell 133 = .ok (.aload_n 0, 1) := by decide +kernel
theorem dX2_tell_134 : decode cX2_tell 134 = .ok (.getfield 9, 3) := by decide +kernel
theorem dX2_tell_137 : decode cX2_tell 137 = .ok (.iconst 3, 1) := by decide +kernel
theorem dX2_tell_138 : decode cX2_tell 138 = .ok (.iaload, 1) := by decide +kernel
theorem dX2_tell_139 : decode cX2_tell 139 = .ok (.ireturn, 1) := by decide +kernel
theorem dX2_tell_140 : decode cX2_tell 140 = .ok (.aload_n 0, 1) := by decide +kernel
theorem dX2_tell_141 : decode cX2_tell 141 = .ok (.getfield 54, 3) := by decide +kernel
theorem dX2_tell_144 : decode cX2_tell 144 = .ok (.ireturn, 1) := by decide +kernel
theorem dX2_tell_145 : decode cX2_tell 145 = .ok (.aload_n 0, 1) := by decide +kernel
theorem dX2_tell_146 : decode cX2_tell 146 = .ok (.getfield 57, 3) := by decide +kernel
theorem dX2_tell_149 : decode cX2_tell 149 = .ok (.ireturn, 1) := by decide +kernel
theorem dX2_tell_150 : decode cX2_tell 150 = .ok (.aload_n 0, 1) := by decide +kernel
theorem dX2_tell_151 : decode cX2_tell 151 = .ok (.getfield 23, 3) := by decide +kernel
theorem dX2_tell_154 : decode cX2_tell 154 = .ok (.invokevirtual 83, 3) := by decide +kernel
theorem dX2_tell_157 : decode cX2_tell 157 = .ok (.ldc 86, 2) := by decide +kernel
theorem dX2_tell_159 : decode cX2_tell 159 = .ok (.invokestatic 87, 3) := by decide +kernel
theorem dX2_tell_162 : decode cX2_tell 162 = .ok (.ireturn, 1) := by decide +kernel
theorem dX2_tell_163 : decode cX2_tell 163 = .ok (.ldc 93, 2) := by decide +kernel
theorem dX2_tell_165 : decode cX2_tell 165 = .ok (.ireturn, 1) := by decide +kernel
set_option maxRecDepth 20000 in
theorem ggX2_wayRise_X5_plan : GoodIn wsX2_wayRise wsX5_plan := goodIn_r _ [8, 9, 10, 11, 12, 13, 14, 15, 16, 17, 18, 19, 20, 21, 22, 23, 24, 25, 26, 27, 28, 29, 30, 31, 32, 33, 34, 35, 36, 37, 49, 50, 51, 52, 53, 54, 55, 56, 57, 58, 59, 60, 61, 62, 63, 64, 65] (by decide +kernel) (by decide +kernel)
set_option maxRecDepth 20000 in
theorem gX2_wayRise_X5_plan : GoodIn wsX2_wayRise (wsV RX2 98 RX5 yX5_plan wsX5_plan) := goodIn_app (goodIn_of _ (by decide +kernel)) ggX2_wayRise_X5_plan
theorem dX2_wayRise_0 : decode cX2_wayRise 0 = .ok (.aload_n 0, 1) := by decide +kernel
theorem dX2_wayRise_1 : decode cX2_wayRise 1 = .ok (.getfield 46, 3) := by decide +kernel
theorem dX2_wayRise_4 : decode cX2_wayRise 4 = .ok (.aload_n 0, 1) := by decide +kernel
theorem dX2_wayRise_5 : decode cX2_wayRise 5 = .ok (.getfield 27, 3) := by decide +kernel
theorem dX2_wayRise_8 : decode cX2_wayRise 8 = .ok (.iload_n 1, 1) := by decide +kernel
theorem dX2_wayRise_9 : decode cX2_wayRise 9 = .ok (.aload_n 0, 1) := by decide +kernel
theorem dX2_wayRise_10 : decode cX2_wayRise 10 = .ok (.getfield 9, 3) := by decide +kernel
theorem dX2_wayRise_13 : decode cX2_wayRise 13 = .ok (.iconst 0, 1) := by decide +kernel
theorem dX2_wayRise_14 : decode cX2_wayRise 14 = .ok (.iaload, 1) := by decide +kernel
theorem dX2_wayRise_15 : decode cX2_wayRise 15 = .ok (.invokevirtual 98, 3) := by decide +kernel
theorem dX2_wayRise_18 : decode cX2_wayRise 18 = .ok (.aload_n 0, 1) := by decide +kernel
theorem dX2_wayRise_19 : decode cX2_wayRise 19 = .ok (.getfield 46, 3) := by decide +kernel
theorem dX2_wayRise_22 : decode cX2_wayRise 22 = .ok (.areturn, 1) := by decide +kernel
set_option maxRecDepth 20000 in
theorem ggX2_wayAround_X5_plan : GoodIn wsX2_wayAround wsX5_plan := goodIn_r _ [11, 12, 13, 14, 15, 16, 17, 18, 19, 20, 21, 22, 23, 24, 25, 26, 27, 28, 29, 30, 31, 32, 33, 34, 35, 36, 37, 38, 39, 40, 60, 61, 62, 63, 64, 65, 66, 67, 68, 69, 70, 71, 72, 73, 74, 75, 76] (by decide +kernel) (by decide +kernel)
set_option maxRecDepth 20000 in
theorem gX2_wayAround_X5_plan : GoodIn wsX2_wayAround (wsV RX2 98 RX5 yX5_plan wsX5_plan) := goodIn_app (goodIn_of _ (by decide +kernel)) ggX2_wayAround_X5_plan
set_option maxRecDepth 20000 in
theorem ggX2_wayAround_X2_isLowWayTaken : GoodIn wsX2_wayAround wsX2_isLowWayTaken := goodIn_r _ [45, 1, 46, 47, 22, 23, 24, 5, 4, 48, 49, 50, 51, 52, 53, 54, 55, 56, 57, 58, 59, 60, 61, 62, 63, 64, 65, 66] (by decide +kernel) (by decide +kernel)
set_option maxRecDepth 20000 in
theorem gX2_wayAround_X2_isLowWayTaken : GoodIn wsX2_wayAround (wsV RX2 106 RX2 yX2_isLowWayTaken wsX2_isLowWayTaken) := goodIn_app (goodIn_of _ (by decide +kernel)) ggX2_wayAround_X2_isLowWayTaken
theorem dX2_wayAround_0 : decode cX2_wayAround 0 = .ok (.aload_n 0, 1) := by decide +kernel
theorem dX2_wayAround_1 : decode cX2_wayAround 1 = .ok (.getfield 39, 3) := by decide +kernel
theorem dX2_wayAround_4 : decode cX2_wayAround 4 = .ok (.aload_n 0, 1) := by decide +kernel
theorem dX2_wayAround_5 : decode cX2_wayAround 5 = .ok (.getfield 23, 3) := by decide +kernel
theorem dX2_wayAround_8 : decode cX2_wayAround 8 = .ok (.iload_n 1, 1) := by decide +kernel
theorem dX2_wayAround_9 : decode cX2_wayAround 9 = .ok (.ldc 86, 2) := by decide +kernel
theorem dX2_wayAround_11 : decode cX2_wayAround 11 = .ok (.isub, 1) := by decide +kernel
theorem dX2_wayAround_12 : decode cX2_wayAround 12 = .ok (.aload_n 0, 1) := by decide +kernel
theorem dX2_wayAround_13 : decode cX2_wayAround 13 = .ok (.getfield 9, 3) := by decide +kernel
theorem dX2_wayAround_16 : decode cX2_wayAround 16 = .ok (.iconst 0, 1) := by decide +kernel
theorem dX2_wayAround_17 : decode cX2_wayAround 17 = .ok (.iaload, 1) := by decide +kernel
theorem dX2_wayAround_18 : decode cX2_wayAround 18 = .ok (.invokevirtual 98, 3) := by decide +kernel
theorem dX2_wayAround_21 : decode cX2_wayAround 21 = .ok (.aload_n 0, 1) := by decide +kernel
theorem dX2_wayAround_22 : decode cX2_wayAround 22 = .ok (.getfield 43, 3) := by decide +kernel
theorem dX2_wayAround_25 : decode cX2_wayAround 25 = .ok (.aload_n 0, 1) := by decide +kernel
theorem dX2_wayAround_26 : decode cX2_wayAround 26 = .ok (.getfield 23, 3) := by decide +kernel
theorem dX2_wayAround_29 : decode cX2_wayAround 29 = .ok (.iload_n 1, 1) := by decide +kernel
theorem dX2_wayAround_30 : decode cX2_wayAround 30 = .ok (.aload_n 0, 1) := by decide +kernel
theorem dX2_wayAround_31 : decode cX2_wayAround 31 = .ok (.getfield 9, 3) := by decide +kernel
theorem dX2_wayAround_34 : decode cX2_wayAround 34 = .ok (.iconst 0, 1) := by decide +kernel
theorem dX2_wayAround_35 : decode cX2_wayAround 35 = .ok (.iaload, 1) := by decide +kernel
theorem dX2_wayAround_36 : decode cX2_wayAround 36 = .ok (.invokevirtual 98, 3) := by decide +kernel
theorem dX2_wayAround_39 : decode cX2_wayAround 39 = .ok (.aload_n 0, 1) := by decide +kernel
theorem dX2_wayAround_40 : decode cX2_wayAround 40 = .ok (.getfield 39, 3) := by decide +kernel
theorem dX2_wayAround_43 : decode cX2_wayAround 43 = .ok (.getfield 102, 3) := by decide +kernel
theorem dX2_wayAround_46 : decode cX2_wayAround 46 = .ok (.ifCond .eq 13, 3) := by decide +kernel
theorem dX2_wayAround_49 : decode cX2_wayAround 49 = .ok (.aload_n 0, 1) := by decide +kernel
theorem dX2_wayAround_50 : decode cX2_wayAround 50 = .ok (.getfield 43, 3) := by decide +kernel
theorem dX2_wayAround_53 : decode cX2_wayAround 53 = .ok (.getfield 102, 3) := by decide +kernel
theorem dX2_wayAround_56 : decode cX2_wayAround 56 = .ok (.ifCond .ne 25, 3) := by decide +kernel
theorem dX2_wayAround_59 : decode cX2_wayAround 59 = .ok (.aload_n 0, 1) := by decide +kernel
theorem dX2_wayAround_60 : decode cX2_wayAround 60 = .ok (.getfield 39, 3) := by decide +kernel
theorem dX2_wayAround_63 : decode cX2_wayAround 63 = .ok (.getfield 102, 3) := by decide +kernel
theorem dX2_wayAround_66 : decode cX2_wayAround 66 = .ok (.ifCond .eq 10, 3) := by decide +kernel
theorem dX2_wayAround_69 : decode cX2_wayAround 69 = .ok (.aload_n 0, 1) := by decide +kernel
theorem dX2_wayAround_70 : decode cX2_wayAround 70 = .ok (.getfield 39, 3) := by decide +kernel
theorem dX2_wayAround_73 : decode cX2_wayAround 73 = .ok (.goto 7, 3) := by decide +kernel
theorem dX2_wayAround_76 : decode cX2_wayAround 76 = .ok (.aload_n 0, 1) := by decide +kernel
theorem dX2_wayAround_77 : decode cX2_wayAround 77 = .ok (.getfield 43, 3) := by decide +kernel
theorem dX2_wayAround_80 : decode cX2_wayAround 80 = .ok (.areturn, 1) := by decide +kernel
theorem dX2_wayAround_81 : decode cX2_wayAround 81 = .ok (.aload_n 0, 1) := by decide +kernel
theorem dX2_wayAround_82 : decode cX2_wayAround 82 = .ok (.invokevirtual 106, 3) := by decide +kernel
theorem dX2_wayAround_85 : decode cX2_wayAround 85 = .ok (.ifCond .eq 10, 3) := by decide +kernel
theorem dX2_wayAround_88 : decode cX2_wayAround 88 = .ok (.aload_n 0, 1) := by decide +kernel
theorem dX2_wayAround_89 : decode cX2_wayAround 89 = .ok (.getfield 39, 3) := by decide +kernel
theorem dX2_wayAround_92 : decode cX2_wayAround 92 = .ok (.goto 7, 3) := by decide +kernel
theorem dX2_wayAround_95 : decode cX2_wayAround 95 = .ok (.aload_n 0, 1) := by decide +kernel
theorem dX2_wayAround_96 : decode cX2_wayAround 96 = .ok (.getfield 43, 3) := by decide +kernel
theorem dX2_wayAround_99 : decode cX2_wayAround 99 = .ok (.areturn, 1) := by decide +kernel
theorem dX2_isLowWayTaken_0 : decode cX2_isLowWayTaken 0 = .ok (.aload_n 0, 1) := by decide +kernel
theorem dX2_isLowWayTaken_1 : decode cX2_isLowWayTaken 1 = .ok (.getfield 39, 3) := by decide +kernel
theorem dX2_isLowWayTaken_4 : decode cX2_isLowWayTaken 4 = .ok (.getfield 110, 3) := by decide +kernel
theorem dX2_isLowWayTaken_7 : decode cX2_isLowWayTaken 7 = .ok (.invokestatic 113, 3) := by decide +kernel
theorem dX2_isLowWayTaken_10 : decode cX2_isLowWayTaken 10 = .ok (.istore_n 1, 1) := by decide +kernel
theorem dX2_isLowWayTaken_11 : decode cX2_isLowWayTaken 11 = .ok (.aload_n 0, 1) := by decide +kernel
theorem dX2_isLowWayTaken_12 : decode cX2_isLowWayTaken 12 = .ok (.getfield 43, 3) := by decide +kernel
theorem dX2_isLowWayTaken_15 : decode cX2_isLowWayTaken 15 = .ok (.getfield 110, 3) := by decide +kernel
theorem dX2_isLowWayTaken_18 : decode cX2_isLowWayTaken 18 = .ok (.invokestatic 113, 3) := by decide +kernel
theorem dX2_isLowWayTaken_21 : decode cX2_isLowWayTaken 21 = .ok (.istore_n 2, 1) := by decide +kernel
theorem dX2_isLowWayTaken_22 : decode cX2_isLowWayTaken 22 = .ok (.iload_n 1, 1) := by decide +kernel
theorem dX2_isLowWayTaken_23 : decode cX2_isLowWayTaken 23 = .ok (.aload_n 0, 1) := by decide +kernel
theorem dX2_isLowWayTaken_24 : decode cX2_isLowWayTaken 24 = .ok (.getfield 9, 3) := by decide +kernel
theorem dX2_isLowWayTaken_27 : decode cX2_isLowWayTaken 27 = .ok (.iconst 1, 1) := by decide +kernel
theorem dX2_isLowWayTaken_28 : decode cX2_isLowWayTaken 28 = .ok (.iaload, 1) := by decide +kernel
theorem dX2_isLowWayTaken_29 : decode cX2_isLowWayTaken 29 = .ok (.if_icmp .gt 7, 3) := by decide +kernel
theorem dX2_isLowWayTaken_32 : decode cX2_isLowWayTaken 32 = .ok (.iconst 1, 1) := by decide +kernel
theorem dX2_isLowWayTaken_33 : decode cX2_isLowWayTaken 33 = .ok (.goto 4, 3) := by decide +kernel
theorem dX2_isLowWayTaken_36 : decode cX2_isLowWayTaken 36 = .ok (.iconst 0, 1) := by decide +kernel
theorem dX2_isLowWayTaken_37 : decode cX2_isLowWayTaken 37 = .ok (.istore_n 3, 1) := by decide +kernel
theorem dX2_isLowWayTaken_38 : decode cX2_isLowWayTaken 38 = .ok (.iload_n 2, 1) := by decide +kernel
theorem dX2_isLowWayTaken_39 : decode cX2_isLowWayTaken 39 = .ok (.aload_n 0, 1) := by decide +kernel
theorem dX2_isLowWayTaken_40 : decode cX2_isLowWayTaken 40 = .ok (.getfield 9, 3) := by decide +kernel
theorem dX2_isLowWayTaken_43 : decode cX2_isLowWayTaken 43 = .ok (.iconst 1, 1) := by decide +kernel
theorem dX2_isLowWayTaken_44 : decode cX2_isLowWayTaken 44 = .ok (.iaload, 1) := by decide +kernel
theorem dX2_isLowWayTaken_45 : decode cX2_isLowWayTaken 45 = .ok (.if_icmp .gt 7, 3) := by decide +kernel
theorem dX2_isLowWayTaken_48 : decode cX2_isLowWayTaken 48 = .ok (.iconst 1, 1) := by decide +kernel
theorem dX2_isLowWayTaken_49 : decode cX2_isLowWayTaken 49 = .ok (.goto 4, 3) := by decide +kernel
theorem dX2_isLowWayTaken_52 : decode cX2_isLowWayTaken 52 = .ok (.iconst 0, 1) := by decide +kernel
theorem dX2_isLowWayTaken_53 : decode cX2_isLowWayTaken 53 = .ok (.istore 4, 2) := by decide +kernel
theorem dX2_isLowWayTaken_55 : decode cX2_isLowWayTaken 55 = .ok (.iload_n 3, 1) := by decide +kernel
theorem dX2_isLowWayTaken_56 : decode cX2_isLowWayTaken 56 = .ok (.iload 4, 2) := by decide +kernel
theorem dX2_isLowWayTaken_58 : decode cX2_isLowWayTaken 58 = .ok (.if_icmp .eq 5, 3) := by decide +kernel
theorem dX2_isLowWayTaken_61 : decode cX2_isLowWayTaken 61 = .ok (.iload_n 3, 1) := by decide +kernel
theorem dX2_isLowWayTaken_62 : decode cX2_isLowWayTaken 62 = .ok (.ireturn, 1) := by decide +kernel
theorem dX2_isLowWayTaken_63 : decode cX2_isLowWayTaken 63 = .ok (.aload_n 0, 1) := by decide +kernel
theorem dX2_isLowWayTaken_64 : decode cX2_isLowWayTaken 64 = .ok (.getfield 39, 3) := by decide +kernel
theorem dX2_isLowWayTaken_67 : decode cX2_isLowWayTaken 67 = .ok (.getfield 117, 3) := by decide +kernel
theorem dX2_isLowWayTaken_70 : decode cX2_isLowWayTaken 70 = .ok (.aload_n 0, 1) := by decide +kernel
theorem dX2_isLowWayTaken_71 : decode cX2_isLowWayTaken 71 = .ok (.getfield 43, 3) := by decide +kernel
theorem dX2_isLowWayTaken_74 : decode cX2_isLowWayTaken 74 = .ok (.getfield 117, 3) := by decide +kernel
theorem dX2_isLowWayTaken_77 : decode cX2_isLowWayTaken 77 = .ok (.if_icmp .eq 26, 3) := by decide +kernel
theorem dX2_isLowWayTaken_80 : decode cX2_isLowWayTaken 80 = .ok (.aload_n 0, 1) := by decide +kernel
theorem dX2_isLowWayTaken_81 : decode cX2_isLowWayTaken 81 = .ok (.getfield 39, 3) := by decide +kernel
theorem dX2_isLowWayTaken_84 : decode cX2_isLowWayTaken 84 = .ok (.getfield 117, 3) := by decide +kernel
theorem dX2_isLowWayTaken_87 : decode cX2_isLowWayTaken 87 = .ok (.aload_n 0, 1) := by decide +kernel
theorem dX2_isLowWayTaken_88 : decode cX2_isLowWayTaken 88 = .ok (.getfield 43, 3) := by decide +kernel
theorem dX2_isLowWayTaken_91 : decode cX2_isLowWayTaken 91 = .ok (.getfield 117, 3) := by decide +kernel
theorem dX2_isLowWayTaken_94 : decode cX2_isLowWayTaken 94 = .ok (.if_icmp .ge 7, 3) := by decide +kernel
theorem dX2_isLowWayTaken_97 : decode cX2_isLowWayTaken 97 = .ok (.iconst 1, 1) := by decide +kernel
theorem dX2_isLowWayTaken_98 : decode cX2_isLowWayTaken 98 = .ok (.goto 4, 3) := by decide +kernel
theorem dX2_isLowWayTaken_101 : decode cX2_isLowWayTaken 101 = .ok (.iconst 0, 1) := by decide +kernel
theorem dX2_isLowWayTaken_102 : decode cX2_isLowWayTaken 102 = .ok (.ireturn, 1) := by decide +kernel
theorem dX2_isLowWayTaken_103 : decode cX2_isLowWayTaken 103 = .ok (.iload_n 1, 1) := by decide +kernel
theorem dX2_isLowWayTaken_104 : decode cX2_isLowWayTaken 104 = .ok (.iload_n 2, 1) := by decide +kernel
theorem dX2_isLowWayTaken_105 : decode cX2_isLowWayTaken 105 = .ok (.if_icmp .gt 7, 3) := by decide +kernel
theorem dX2_isLowWayTaken_108 : decode cX2_isLowWayTaken 108 = .ok (.iconst 1, 1) := by decide +kernel
theorem dX2_isLowWayTaken_109 : decode cX2_isLowWayTaken 109 = .ok (.goto 4, 3) := by decide +kernel
theorem dX2_isLowWayTaken_112 : decode cX2_isLowWayTaken 112 = .ok (.iconst 0, 1) := by decide +kernel
theorem dX2_isLowWayTaken_113 : decode cX2_isLowWayTaken 113 = .ok (.ireturn, 1) := by decide +kernel
set_option maxRecDepth 20000 in
theorem ggX2_followWays_X0_follow : GoodIn wsX2_followWays wsX0_follow := goodIn_r _ [13, 14, 15, 16, 17, 18, 12, 19, 20, 21, 22, 23, 24, 25, 7, 26, 27, 28, 6, 8, 40, 41, 42, 43, 44, 45, 46, 47, 48, 49, 50, 51, 52, 53, 54, 55, 56] (by decide +kernel) (by decide +kernel)
set_option maxRecDepth 20000 in
theorem gX2_followWays_X0_follow : GoodIn wsX2_followWays (wsV RX2 120 RX0 yX0_follow wsX0_follow) := goodIn_app (goodIn_of _ (by decide +kernel)) ggX2_followWays_X0_follow
theorem dX2_followWays_0 : decode cX2_followWays 0 = .ok (.aload_n 0, 1) := by decide +kernel
theorem dX2_followWays_1 : decode cX2_followWays 1 = .ok (.getfield 23, 3) := by decide +kernel
theorem dX2_followWays_4 : decode cX2_followWays 4 = .ok (.aload_n 1, 1) := by decide +kernel
theorem dX2_followWays_5 : decode cX2_followWays 5 = .ok (.invokevirtual 120, 3) := by decide +kernel
theorem dX2_followWays_8 : decode cX2_followWays 8 = .ok (.aload_n 0, 1) := by decide +kernel
theorem dX2_followWays_9 : decode cX2_followWays 9 = .ok (.getfield 27, 3) := by decide +kernel
theorem dX2_followWays_12 : decode cX2_followWays 12 = .ok (.aload_n 2, 1) := by decide +kernel
theorem dX2_followWays_13 : decode cX2_followWays 13 = .ok (.invokevirtual 120, 3) := by decide +kernel
theorem dX2_followWays_16 : decode cX2_followWays 16 = .ok (.aload_n 0, 1) := by decide +kernel
theorem dX2_followWays_17 : decode cX2_followWays 17 = .ok (.dup, 1) := by decide +kernel
theorem dX2_followWays_18 : decode cX2_followWays 18 = .ok (.getfield 54, 3) := by decide +kernel
theorem dX2_followWays_21 : decode cX2_followWays 21 = .ok (.iconst 1, 1) := by decide +kernel
theorem dX2_followWays_22 : decode cX2_followWays 22 = .ok (.iadd, 1) := by decide +kernel
theorem dX2_followWays_23 : decode cX2_followWays 23 = .ok (.putfield 54, 3) := by decide +kernel
theorem dX2_followWays_26 : decode cX2_followWays 26 = .ok (.aload_n 1, 1) := by decide +kernel
theorem dX2_followWays_27 : decode cX2_followWays 27 = .ok (.getfield 124, 3) := by decide +kernel
theorem dX2_followWays_30 : decode cX2_followWays 30 = .ok (.aload_n 2, 1) := by decide +kernel
theorem dX2_followWays_31 : decode cX2_followWays 31 = .ok (.getfield 124, 3) := by decide +kernel
theorem dX2_followWays_34 : decode cX2_followWays 34 = .ok (.invokestatic 125, 3) := by decide +kernel
theorem dX2_followWays_37 : decode cX2_followWays 37 = .ok (.ireturn, 1) := by decide +kernel
theorem dX2_hasTarget_0 : decode cX2_hasTarget 0 = .ok (.iload_n 1, 1) := by decide +kernel
theorem dX2_hasTarget_1 : decode cX2_hasTarget 1 = .ok (.ifCond .lt 29, 3) := by decide +kernel
theorem dX2_hasTarget_4 : decode cX2_hasTarget 4 = .ok (.iload_n 1, 1) := by decide +kernel
theorem dX2_hasTarget_5 : decode cX2_hasTarget 5 = .ok (.aload_n 0, 1) := by decide +kernel
theorem dX2_hasTarget_6 : decode cX2_hasTarget 6 = .ok (.getfield 32, 3) := by decide +kernel
theorem dX2_hasTarget_9 : decode cX2_hasTarget 9 = .ok (.arraylength, 1) := by decide +kernel
theorem dX2_hasTarget_10 : decode cX2_hasTarget 10 = .ok (.if_icmp .ge 20, 3) := by decide +kernel
theorem dX2_hasTarget_13 : decode cX2_hasTarget 13 = .ok (.aload_n 0, 1) := by decide +kernel
theorem dX2_hasTarget_14 : decode cX2_hasTarget 14 = .ok (.getfield 32, 3) := by decide +kernel
theorem dX2_hasTarget_17 : decode cX2_hasTarget 17 = .ok (.iload_n 1, 1) := by decide +kernel
theorem dX2_hasTarget_18 : decode cX2_hasTarget 18 = .ok (.aaload, 1) := by decide +kernel
theorem dX2_hasTarget_19 : decode cX2_hasTarget 19 = .ok (.getfield 128, 3) := by decide +kernel
theorem dX2_hasTarget_22 : decode cX2_hasTarget 22 = .ok (.iconst 4, 1) := by decide +kernel
theorem dX2_hasTarget_23 : decode cX2_hasTarget 23 = .ok (.if_icmp .eq 7, 3) := by decide +kernel
theorem dX2_hasTarget_26 : decode cX2_hasTarget 26 = .ok (.iconst 1, 1) := by decide +kernel
theorem dX2_hasTarget_27 : decode cX2_hasTarget 27 = .ok (.goto 4, 3) := by decide +kernel
theorem dX2_hasTarget_30 : decode cX2_hasTarget 30 = .ok (.iconst 0, 1) := by decide +kernel
theorem dX2_hasTarget_31 : decode cX2_hasTarget 31 = .ok (.ireturn, 1) := by decide +kernel
theorem dX2_targetsIn_0 : decode cX2_targetsIn 0 = .ok (.iconst 0, 1) := by decide +kernel
theorem dX2_targetsIn_1 : decode cX2_targetsIn 1 = .ok (.istore_n 2, 1) := by decide +kernel
theorem dX2_targetsIn_2 : decode cX2_targetsIn 2 = .ok (.aload_n 0, 1) := by decide +kernel
theorem dX2_targetsIn_3 : decode cX2_targetsIn 3 = .ok (.getfield 32, 3) := by decide +kernel
theorem dX2_targetsIn_6 : decode cX2_targetsIn 6 = .ok (.astore_n 3, 1) := by decide +kernel
theorem dX2_targetsIn_7 : decode cX2_targetsIn 7 = .ok (.aload_n 3, 1) := by decide +kernel
theorem dX2_targetsIn_8 : decode cX2_targetsIn 8 = .ok (.arraylength, 1) := by decide +kernel
theorem dX2_targetsIn_9 : decode cX2_targetsIn 9 = .ok (.istore 4, 2) := by decide +kernel
theorem dX2_targetsIn_11 : decode cX2_targetsIn 11 = .ok (.iconst 0, 1) := by decide +kernel
theorem dX2_targetsIn_12 : decode cX2_targetsIn 12 = .ok (.istore 5, 2) := by decide +kernel
theorem dX2_targetsIn_14 : decode cX2_targetsIn 14 = .ok (.iload 5, 2) := by decide +kernel
theorem dX2_targetsIn_16 : decode cX2_targetsIn 16 = .ok (.iload 4, 2) := by decide +kernel
theorem dX2_targetsIn_18 : decode cX2_targetsIn 18 = .ok (.if_icmp .ge 27, 3) := by decide +kernel
theorem dX2_targetsIn_21 : decode cX2_targetsIn 21 = .ok (.aload_n 3, 1) := by decide +kernel
theorem dX2_targetsIn_22 : decode cX2_targetsIn 22 = .ok (.iload 5, 2) := by decide +kernel
theorem dX2_targetsIn_24 : decode cX2_targetsIn 24 = .ok (.aaload, 1) := by decide +kernel
theorem dX2_targetsIn_25 : decode cX2_targetsIn 25 = .ok (.astore 6, 2) := by decide +kernel
theorem dX2_targetsIn_27 : decode cX2_targetsIn 27 = .ok (.aload 6, 2) := by decide +kernel
theorem dX2_targetsIn_29 : decode cX2_targetsIn 29 = .ok (.getfield 128, 3) := by decide +kernel
theorem dX2_targetsIn_32 : decode cX2_targetsIn 32 = .ok (.iload_n 1, 1) := by decide +kernel
theorem dX2_targetsIn_33 : decode cX2_targetsIn 33 = .ok (.if_icmp .ne 6, 3) := by decide +kernel
theorem dX2_targetsIn_36 : decode cX2_targetsIn 36 = .ok (.iinc 2 1, 3) := by decide +kernel
theorem dX2_targetsIn_39 : decode cX2_targetsIn 39 = .ok (.iinc 5 1, 3) := by decide +kernel
theorem dX2_targetsIn_42 : decode cX2_targetsIn 42 = .ok (.goto (-28), 3) := by decide +kernel
theorem dX2_targetsIn_45 : decode cX2_targetsIn 45 = .ok (.iload_n 2, 1) := by decide +kernel
theorem dX2_targetsIn_46 : decode cX2_targetsIn 46 = .ok (.ireturn, 1) := by decide +kernel
theorem dX2_numberUnderWay_0 : decode cX2_numberUnderWay 0 = .ok (.iconst 0, 1) := by decide +kernel
theorem dX2_numberUnderWay_1 : decode cX2_numberUnderWay 1 = .ok (.istore_n 1, 1) := by decide +kernel
theorem dX2_numberUnderWay_2 : decode cX2_numberUnderWay 2 = .ok (.iload_n 1, 1) := by decide +kernel
theorem dX2_numberUnderWay_3 : decode cX2_numberUnderWay 3 = .ok (.aload_n 0, 1) := by decide +kernel
theorem dX2_numberUnderWay_4 : decode cX2_numberUnderWay 4 = .ok (.getfield 32, 3) := by decide +kernel
theorem dX2_numberUnderWay_7 : decode cX2_numberUnderWay 7 = .ok (.arraylength, 1) := by decide +kernel
theorem dX2_numberUnderWay_8 : decode cX2_numberUnderWay 8 = .ok (.if_icmp .ge 24, 3) := by decide +kernel
theorem dX2_numberUnderWay_11 : decode cX2_numberUnderWay 11 = .ok (.aload_n 0, 1) := by decide +kernel
theorem dX2_numberUnderWay_12 : decode cX2_numberUnderWay 12 = .ok (.getfield 32, 3) := by decide +kernel
theorem dX2_numberUnderWay_15 : decode cX2_numberUnderWay 15 = .ok (.iload_n 1, 1) := by decide +kernel
theorem dX2_numberUnderWay_16 : decode cX2_numberUnderWay 16 = .ok (.aaload, 1) := by decide +kernel
theorem dX2_numberUnderWay_17 : decode cX2_numberUnderWay 17 = .ok (.getfield 128, 3) := by decide +kernel
theorem dX2_numberUnderWay_20 : decode cX2_numberUnderWay 20 = .ok (.iconst 1, 1) := by decide +kernel
theorem dX2_numberUnderWay_21 : decode cX2_numberUnderWay 21 = .ok (.if_icmp .ne 5, 3) := by decide +kernel
theorem dX2_numberUnderWay_24 : decode cX2_numberUnderWay 24 = .ok (.iload_n 1, 1) := by decide +kernel
theorem dX2_numberUnderWay_25 : decode cX2_numberUnderWay 25 = .ok (.ireturn, 1) := by decide +kernel
theorem dX2_numberUnderWay_26 : decode cX2_numberUnderWay 26 = .ok (.iinc 1 1, 3) := by decide +kernel
theorem dX2_numberUnderWay_29 : decode cX2_numberUnderWay 29 = .ok (.goto (-27), 3) := by decide +kernel
theorem dX2_numberUnderWay_32 : decode cX2_numberUnderWay 32 = .ok (.iconst (-1), 1) := by decide +kernel
theorem dX2_numberUnderWay_33 : decode cX2_numberUnderWay 33 = .ok (.ireturn, 1) := by decide +kernel
theorem dX2_minutesUntilDone_0 : decode cX2_minutesUntilDone 0 = .ok (.aload_n 0, 1) := by decide +kernel
theorem dX2_minutesUntilDone_1 : decode cX2_minutesUntilDone 1 = .ok (.getfield 32, 3) := by decide +kernel
theorem dX2_minutesUntilDone_4 : decode cX2_minutesUntilDone 4 = .ok (.astore_n 1, 1) := by decide +kernel
theorem dX2_minutesUntilDone_5 : decode cX2_minutesUntilDone 5 = .ok (.aload_n 1, 1) := by decide +kernel
theorem dX2_minutesUntilDone_6 : decode cX2_minutesUntilDone 6 = .ok (.arraylength, 1) := by decide +kernel
theorem dX2_minutesUntilDone_7 : decode cX2_minutesUntilDone 7 = .ok (.istore_n 2, 1) := by decide +kernel
theorem dX2_minutesUntilDone_8 : decode cX2_minutesUntilDone 8 = .ok (.iconst 0, 1) := by decide +kernel
theorem dX2_minutesUntilDone_9 : decode cX2_minutesUntilDone 9 = .ok (.istore_n 3, 1) := by decide +kernel
theorem dX2_minutesUntilDone_10 : decode cX2_minutesUntilDone 10 = .ok (.iload_n 3, 1) := by decide +kernel
theorem dX2_minutesUntilDone_11 : decode cX2_minutesUntilDone 11 = .ok (.iload_n 2, 1) := by decide +kernel
theorem dX2_minutesUntilDone_12 : decode cX2_minutesUntilDone 12 = .ok (.if_icmp .ge 34, 3) := by decide +kernel
theorem dX2_minutesUntilDone_15 : decode cX2_minutesUntilDone 15 = .ok (.aload_n 1, 1) := by decide +kernel
theorem dX2_minutesUntilDone_16 : decode cX2_minutesUntilDone 16 = .ok (.iload_n 3, 1) := by decide +kernel
theorem dX2_minutesUntilDone_17 : decode cX2_minutesUntilDone 17 = .ok (.aaload, 1) := by decide +kernel
theorem dX2_minutesUntilDone_18 : decode cX2_minutesUntilDone 18 = .ok (.astore 4, 2) := by decide +kernel
theorem dX2_minutesUntilDone_20 : decode cX2_minutesUntilDone 20 = .ok (.aload 4, 2) := by decide +kernel
theorem dX2_minutesUntilDone_22 : decode cX2_minutesUntilDone 22 = .ok (.getfield 128, 3) := by decide +kernel
theorem dX2_minutesUntilDone_25 : decode cX2_minutesUntilDone 25 = .ok (.iconst 1, 1) := by decide +kernel
theorem dX2_minutesUntilDone_26 : decode cX2_minutesUntilDone 26 = .ok (.if_icmp .ne 14, 3) := by decide +kernel
theorem dX2_minutesUntilDone_29 : decode cX2_minutesUntilDone 29 = .ok (.aload 4, 2) := by decide +kernel
theorem dX2_minutesUntilDone_31 : decode cX2_minutesUntilDone 31 = .ok (.getfield 131, 3) := by decide +kernel
theorem dX2_minutesUntilDone_34 : decode cX2_minutesUntilDone 34 = .ok (.aload_n 0, 1) := by decide +kernel
theorem dX2_minutesUntilDone_35 : decode cX2_minutesUntilDone 35 = .ok (.getfield 50, 3) := by decide +kernel
theorem dX2_minutesUntilDone_38 : decode cX2_minutesUntilDone 38 = .ok (.isub, 1) := by decide +kernel
theorem dX2_minutesUntilDone_39 : decode cX2_minutesUntilDone 39 = .ok (.ireturn, 1) := by decide +kernel
theorem dX2_minutesUntilDone_40 : decode cX2_minutesUntilDone 40 = .ok (.iinc 3 1, 3) := by decide +kernel
theorem dX2_minutesUntilDone_43 : decode cX2_minutesUntilDone 43 = .ok (.goto (-33), 3) := by decide +kernel
theorem dX2_minutesUntilDone_46 : decode cX2_minutesUntilDone 46 = .ok (.ldc 134, 2) := by decide +kernel
theorem dX2_minutesUntilDone_48 : decode cX2_minutesUntilDone 48 = .ok (.ireturn, 1) := by decide +kernel
set_option maxRecDepth 20000 in
theorem ggX2_append_X2_targetsIn : GoodIn wsX2_append wsX2_targetsIn := goodIn_r _ [14, 1, 8, 15, 16, 17, 18, 19, 20, 21, 22, 23, 24, 25, 26, 27, 28, 29, 30, 31, 32, 33, 34, 35, 36, 37, 38, 39] (by decide +kernel) (by decide +kernel)
set_option maxRecDepth 20000 in
theorem gX2_append_X2_targetsIn : GoodIn wsX2_append (wsV RX2 135 RX2 yX2_targetsIn wsX2_targetsIn) := goodIn_app (goodIn_of _ (by decide +kernel)) ggX2_append_X2_targetsIn
theorem dX2_append_0 : decode cX2_append 0 = .ok (.aload_n 0, 1) := by decide +kernel
theorem dX2_append_1 : decode cX2_append 1 = .ok (.getfield 32, 3) := by decide +kernel
theorem dX2_append_4 : decode cX2_append 4 = .ok (.arraylength, 1) := by decide +kernel
theorem dX2_append_5 : decode cX2_append 5 = .ok (.aload_n 0, 1) := by decide +kernel
theorem dX2_append_6 : decode cX2_append 6 = .ok (.iconst 4, 1) := by decide +kernel
theorem dX2_append_7 : decode cX2_append 7 = .ok (.invokevirtual 135, 3) := by decide +kernel
theorem dX2_append_10 : decode cX2_append 10 = .ok (.isub, 1) := by decide +kernel
theorem dX2_append_11 : decode cX2_append 11 = .ok (.istore 7, 2) := by decide +kernel
theorem dX2_append_13 : decode cX2_append 13 = .ok (.iload 7, 2) := by decide +kernel
theorem dX2_append_15 : decode cX2_append 15 = .ok (.aload_n 0, 1) := by decide +kernel
theorem dX2_append_16 : decode cX2_append 16 = .ok (.getfield 32, 3) := by decide +kernel
theorem dX2_append_19 : decode cX2_append 19 = .ok (.arraylength, 1) := by decide +kernel
theorem dX2_append_20 : decode cX2_append 20 = .ok (.if_icmp .lt 5, 3) := by decide +kernel
theorem dX2_append_23 : decode cX2_append 23 = .ok (.iconst (-1), 1) := by decide +kernel
theorem dX2_append_24 : decode cX2_append 24 = .ok (.ireturn, 1) := by decide +kernel
theorem dX2_append_25 : decode cX2_append 25 = .ok (.aload_n 0, 1) := by decide +kernel
theorem dX2_append_26 : decode cX2_append 26 = .ok (.getfield 32, 3) := by decide +kernel
theorem dX2_append_29 : decode cX2_append 29 = .ok (.iload 7, 2) := by decide +kernel
theorem dX2_append_31 : decode cX2_append 31 = .ok (.aaload, 1) := by decide +kernel
theorem dX2_append_32 : decode cX2_append 32 = .ok (.astore 8, 2) := by decide +kernel
theorem dX2_append_34 : decode cX2_append 34 = .ok (.aload 8, 2) := by decide +kernel
theorem dX2_append_36 : decode cX2_append 36 = .ok (.iload_n 1, 1) := by decide +kernel
theorem dX2_append_37 : decode cX2_append 37 = .ok (.putfield 138, 3) := by decide +kernel
theorem dX2_append_40 : decode cX2_append 40 = .ok (.aload 8, 2) := by decide +kernel
theorem dX2_append_42 : decode cX2_append 42 = .ok (.iload_n 2, 1) := by decide +kernel
theorem dX2_append_43 : decode cX2_append 43 = .ok (.putfield 140, 3) := by decide +kernel
theorem dX2_append_46 : decode cX2_append 46 = .ok (.aload 8, 2) := by decide +kernel
theorem dX2_append_48 : decode cX2_append 48 = .ok (.iload_n 3, 1) := by decide +kernel
theorem dX2_append_49 : decode cX2_append 49 = .ok (.putfield 142, 3) := by decide +kernel
theorem dX2_append_52 : decode cX2_append 52 = .ok (.aload 8, 2) := by decide +kernel
theorem dX2_append_54 : decode cX2_append 54 = .ok (.iload 4, 2) := by decide +kernel
theorem dX2_append_56 : decode cX2_append 56 = .ok (.putfield 145, 3) := by decide +kernel
theorem dX2_append_59 : decode cX2_append 59 = .ok (.aload 8, 2) := by decide +kernel
theorem dX2_append_61 : decode cX2_append 61 = .ok (.iload 5, 2) := by decide +kernel
theorem dX2_append_63 : decode cX2_append 63 = .ok (.putfield 148, 3) := by decide +kernel
theorem dX2_append_66 : decode cX2_append 66 = .ok (.aload 8, 2) := by decide +kernel
theorem dX2_append_68 : decode cX2_append 68 = .ok (.iload 6, 2) := by decide +kernel
theorem dX2_append_70 : decode cX2_append 70 = .ok (.putfield 151, 3) := by decide +kernel
theorem dX2_append_73 : decode cX2_append 73 = .ok (.aload 8, 2) := by decide +kernel
theorem dX2_append_75 : decode cX2_append 75 = .ok (.iconst 0, 1) := by decide +kernel
theorem dX2_append_76 : decode cX2_append 76 = .ok (.putfield 128, 3) := by decide +kernel
theorem dX2_append_79 : decode cX2_append 79 = .ok (.aload 8, 2) := by decide +kernel
theorem dX2_append_81 : decode cX2_append 81 = .ok (.iconst 0, 1) := by decide +kernel
theorem dX2_append_82 : decode cX2_append 82 = .ok (.putfield 154, 3) := by decide +kernel
theorem dX2_append_85 : decode cX2_append 85 = .ok (.iload 7, 2) := by decide +kernel
theorem dX2_append_87 : decode cX2_append 87 = .ok (.ireturn, 1) := by decide +kernel
set_option maxRecDepth 20000 in
theorem ggX2_remove_X3_copyFrom : GoodIn wsX2_remove wsX3_copyFrom := goodIn_r _ [11, 12, 13, 14, 15, 16, 17, 18, 19, 20, 21, 22, 23, 24, 25, 37, 38, 39, 40, 41, 42, 43, 44, 45, 46, 47, 48, 49, 50] (by decide +kernel) (by decide +kernel)
set_option maxRecDepth 20000 in
theorem gX2_remove_X3_copyFrom : GoodIn wsX2_remove (wsV RX2 70 RX3 yX3_copyFrom wsX3_copyFrom) := goodIn_app (goodIn_of _ (by decide +kernel)) ggX2_remove_X3_copyFrom
theorem dX2_remove_0 : decode cX2_remove 0 = .ok (.iload_n 1, 1) := by decide +kernel
theorem dX2_remove_1 : decode cX2_remove 1 = .ok (.iconst 0, 1) := by decide +kernel
theorem dX2_remove_2 : decode cX2_remove 2 = .ok (.invokestatic 125, 3) := by decide +kernel
theorem dX2_remove_5 : decode cX2_remove 5 = .ok (.istore_n 2, 1) := by decide +kernel
theorem dX2_remove_6 : decode cX2_remove 6 = .ok (.iload_n 2, 1) := by decide +kernel
theorem dX2_remove_7 : decode cX2_remove 7 = .ok (.aload_n 0, 1) := by decide +kernel
theorem dX2_remove_8 : decode cX2_remove 8 = .ok (.getfield 32, 3) := by decide +kernel
theorem dX2_remove_11 : decode cX2_remove 11 = .ok (.arraylength, 1) := by decide +kernel
theorem dX2_remove_12 : decode cX2_remove 12 = .ok (.iconst 1, 1) := by decide +kernel
theorem dX2_remove_13 : decode cX2_remove 13 = .ok (.isub, 1) := by decide +kernel
theorem dX2_remove_14 : decode cX2_remove 14 = .ok (.if_icmp .ge 26, 3) := by decide +kernel
theorem dX2_remove_17 : decode cX2_remove 17 = .ok (.aload_n 0, 1) := by decide +kernel
theorem dX2_remove_18 : decode cX2_remove 18 = .ok (.getfield 32, 3) := by decide +kernel
theorem dX2_remove_21 : decode cX2_remove 21 = .ok (.iload_n 2, 1) := by decide +kernel
theorem dX2_remove_22 : decode cX2_remove 22 = .ok (.aaload, 1) := by decide +kernel
theorem dX2_remove_23 : decode cX2_remove 23 = .ok (.aload_n 0, 1) := by decide +kernel
theorem dX2_remove_24 : decode cX2_remove 24 = .ok (.getfield 32, 3) := by decide +kernel
theorem dX2_remove_27 : decode cX2_remove 27 = .ok (.iload_n 2, 1) := by decide +kernel
theorem dX2_remove_28 : decode cX2_remove 28 = .ok (.iconst 1, 1) := by decide +kernel
theorem dX2_remove_29 : decode cX2_remove 29 = .ok (.iadd, 1) := by decide +kernel
theorem dX2_remove_30 : decode cX2_remove 30 = .ok (.aaload, 1) := by decide +kernel
theorem dX2_remove_31 : decode cX2_remove 31 = .ok (.invokevirtual 70, 3) := by decide +kernel
theorem dX2_remove_34 : decode cX2_remove 34 = .ok (.iinc 2 1, 3) := by decide +kernel
theorem dX2_remove_37 : decode cX2_remove 37 = .ok (.goto (-31), 3) := by decide +kernel
theorem dX2_remove_40 : decode cX2_remove 40 = .ok (.aload_n 0, 1) := by decide +kernel
theorem dX2_remove_41 : decode cX2_remove 41 = .ok (.getfield 32, 3) := by decide +kernel
theorem dX2_remove_44 : decode cX2_remove 44 = .ok (.aload_n 0, 1) := by decide +kernel
theorem dX2_remove_45 : decode cX2_remove 45 = .ok (.getfield 32, 3) := by decide +kernel
theorem dX2_remove_48 : decode cX2_remove 48 = .ok (.arraylength, 1) := by decide +kernel
theorem dX2_remove_49 : decode cX2_remove 49 = .ok (.iconst 1, 1) := by decide +kernel
theorem dX2_remove_50 : decode cX2_remove 50 = .ok (.isub, 1) := by decide +kernel
theorem dX2_remove_51 : decode cX2_remove 51 = .ok (.aaload, 1) := by decide +kernel
theorem dX2_remove_52 : decode cX2_remove 52 = .ok (.iconst 4, 1) := by decide +kernel
theorem dX2_remove_53 : decode cX2_remove 53 = .ok (.putfield 128, 3) := by decide +kernel
theorem dX2_remove_56 : decode cX2_remove 56 = .ok (.return_, 1) := by decide +kernel
set_option maxRecDepth 20000 in
theorem ggX2_reasonAgainst_X2_numberUnderWay : GoodIn wsX2_reasonAgainst wsX2_numberUnderWay := goodIn_r _ [18, 19, 1, 102, 103, 104, 105, 106, 107, 108, 109, 110, 111, 112, 88, 89, 90, 91, 92, 93, 94, 95, 96, 97, 98, 99, 100, 101] (by decide +kernel) (by decide +kernel)
set_option maxRecDepth 20000 in
theorem gX2_reasonAgainst_X2_numberUnderWay : GoodIn wsX2_reasonAgainst (wsV RX2 157 RX2 yX2_numberUnderWay wsX2_numberUnderWay) := goodIn_app (goodIn_of _ (by decide +kernel)) ggX2_reasonAgainst_X2_numberUnderWay
set_option maxRecDepth 20000 in
theorem ggX2_reasonAgainst_X2_kindOfDay : GoodIn wsX2_reasonAgainst wsX2_kindOfDay := goodIn_r _ [23, 24, 25, 26, 27, 17, 28, 29, 30, 31, 32, 33, 2, 102, 103, 104, 105, 106, 107, 108, 109, 110, 111, 112] (by decide +kernel) (by decide +kernel)
set_option maxRecDepth 20000 in
theorem gX2_reasonAgainst_X2_kindOfDay : GoodIn wsX2_reasonAgainst (wsV RX2 80 RX2 yX2_kindOfDay wsX2_kindOfDay) := goodIn_app (goodIn_of _ (by decide +kernel)) ggX2_reasonAgainst_X2_kindOfDay
set_option maxRecDepth 20000 in
theorem ggX2_reasonAgainst_X2_wayRise : GoodIn wsX2_reasonAgainst wsX2_wayRise := goodIn_r _ [37, 38, 39, 24, 40, 41, 42, 43, 44, 45, 46, 47, 48, 49, 50, 51, 52, 53, 54, 55, 10, 56, 57, 58, 59, 60, 61, 62, 63, 64, 65, 66, 67, 68, 69, 70, 71, 72, 102, 103, 104, 105, 106, 107, 108, 109, 110, 111, 112, 113, 114, 115, 116, 117, 118, 119, 120, 121, 122, 123, 124, 125, 126, 127, 128, 129] (by decide +kernel) (by decide +kernel)
set_option maxRecDepth 20000 in
theorem gX2_reasonAgainst_X2_wayRise : GoodIn wsX2_reasonAgainst (wsV RX2 160 RX2 yX2_wayRise wsX2_wayRise) := goodIn_app (goodIn_of _ (by decide +kernel)) ggX2_reasonAgainst_X2_wayRise
set_option maxRecDepth 20000 in
theorem ggX2_reasonAgainst_X2_wayAround : GoodIn wsX2_reasonAgainst wsX2_wayAround := goodIn_r _ [76, 77, 78, 79, 24, 80, 5, 40, 41, 42, 43, 44, 45, 46, 47, 48, 49, 50, 51, 52, 53, 54, 55, 10, 56, 57, 58, 59, 60, 61, 62, 63, 64, 65, 66, 67, 68, 69, 70, 71, 72, 81, 82, 83, 17, 84, 85, 86, 87, 102, 103, 104, 105, 106, 107, 108, 109, 110, 111, 112, 113, 114, 115, 116, 117, 118, 119, 120, 121, 122, 123, 124, 125, 126, 127, 128, 129] (by decide +kernel) (by decide +kernel)
set_option maxRecDepth 20000 in
theorem gX2_reasonAgainst_X2_wayAround : GoodIn wsX2_reasonAgainst (wsV RX2 164 RX2 yX2_wayAround wsX2_wayAround) := goodIn_app (goodIn_of _ (by decide +kernel)) ggX2_reasonAgainst_X2_wayAround
theorem dX2_reasonAgainst_0 : decode cX2_reasonAgainst 0 = .ok (.aload_n 1, 1) := by decide +kernel
theorem dX2_reasonAgainst_1 : decode cX2_reasonAgainst 1 = .ok (.getfield 128, 3) := by decide +kernel
theorem dX2_reasonAgainst_4 : decode cX2_reasonAgainst 4 = .ok (.ifCond .eq 5, 3) := by decide +kernel
theorem dX2_reasonAgainst_7 : decode cX2_reasonAgainst 7 = .ok (.iconst 1, 1) := by decide +kernel
theorem dX2_reasonAgainst_8 : decode cX2_reasonAgainst 8 = .ok (.ireturn, 1) := by decide +kernel
theorem dX2_reasonAgainst_9 : decode cX2_reasonAgainst 9 = .ok (.aload_n 0, 1) := by decide +kernel
theorem dX2_reasonAgainst_10 : decode cX2_reasonAgainst 10 = .ok (.invokevirtual 157, 3) := by decide +kernel
theorem dX2_reasonAgainst_13 : decode cX2_reasonAgainst 13 = .ok (.iconst (-1), 1) := by decide +kernel
theorem dX2_reasonAgainst_14 : decode cX2_reasonAgainst 14 = .ok (.if_icmp .eq 5, 3) := by decide +kernel
theorem dX2_reasonAgainst_17 : decode cX2_reasonAgainst 17 = .ok (.iconst 2, 1) := by decide +kernel
theorem dX2_reasonAgainst_18 : decode cX2_reasonAgainst 18 = .ok (.ireturn, 1) := by decide +kernel
theorem dX2_reasonAgainst_19 : decode cX2_reasonAgainst 19 = .ok (.aload_n 0, 1) := by decide +kernel
theorem dX2_reasonAgainst_20 : decode cX2_reasonAgainst 20 = .ok (.invokevirtual 80, 3) := by decide +kernel
theorem dX2_reasonAgainst_23 : decode cX2_reasonAgainst 23 = .ok (.ifCond .ne 5, 3) := by decide +kernel
theorem dX2_reasonAgainst_26 : decode cX2_reasonAgainst 26 = .ok (.iconst 3, 1) := by decide +kernel
theorem dX2_reasonAgainst_27 : decode cX2_reasonAgainst 27 = .ok (.ireturn, 1) := by decide +kernel
theorem dX2_reasonAgainst_28 : decode cX2_reasonAgainst 28 = .ok (.aload_n 0, 1) := by decide +kernel
theorem dX2_reasonAgainst_29 : decode cX2_reasonAgainst 29 = .ok (.getfield 50, 3) := by decide +kernel
theorem dX2_reasonAgainst_32 : decode cX2_reasonAgainst 32 = .ok (.aload_n 1, 1) := by decide +kernel
theorem dX2_reasonAgainst_33 : decode cX2_reasonAgainst 33 = .ok (.getfield 142, 3) := by decide +kernel
theorem dX2_reasonAgainst_36 : decode cX2_reasonAgainst 36 = .ok (.if_icmp .ge 5, 3) := by decide +kernel
theorem dX2_reasonAgainst_39 : decode cX2_reasonAgainst 39 = .ok (.iconst 4, 1) := by decide +kernel
theorem dX2_reasonAgainst_40 : decode cX2_reasonAgainst 40 = .ok (.ireturn, 1) := by decide +kernel
theorem dX2_reasonAgainst_41 : decode cX2_reasonAgainst 41 = .ok (.aload_n 0, 1) := by decide +kernel
theorem dX2_reasonAgainst_42 : decode cX2_reasonAgainst 42 = .ok (.aload_n 1, 1) := by decide +kernel
theorem dX2_reasonAgainst_43 : decode cX2_reasonAgainst 43 = .ok (.getfield 140, 3) := by decide +kernel
theorem dX2_reasonAgainst_46 : decode cX2_reasonAgainst 46 = .ok (.invokevirtual 160, 3) := by decide +kernel
theorem dX2_reasonAgainst_49 : decode cX2_reasonAgainst 49 = .ok (.astore_n 2, 1) := by decide +kernel
theorem dX2_reasonAgainst_50 : decode cX2_reasonAgainst 50 = .ok (.aload_n 2, 1) := by decide +kernel
theorem dX2_reasonAgainst_51 : decode cX2_reasonAgainst 51 = .ok (.getfield 102, 3) := by decide +kernel
theorem dX2_reasonAgainst_54 : decode cX2_reasonAgainst 54 = .ok (.ifCond .ne 5, 3) := by decide +kernel
theorem dX2_reasonAgainst_57 : decode cX2_reasonAgainst 57 = .ok (.iconst 5, 1) := by decide +kernel
theorem dX2_reasonAgainst_58 : decode cX2_reasonAgainst 58 = .ok (.ireturn, 1) := by decide +kernel
theorem dX2_reasonAgainst_59 : decode cX2_reasonAgainst 59 = .ok (.aload_n 0, 1) := by decide +kernel
theorem dX2_reasonAgainst_60 : decode cX2_reasonAgainst 60 = .ok (.aload_n 1, 1) := by decide +kernel
theorem dX2_reasonAgainst_61 : decode cX2_reasonAgainst 61 = .ok (.getfield 138, 3) := by decide +kernel
theorem dX2_reasonAgainst_64 : decode cX2_reasonAgainst 64 = .ok (.invokevirtual 164, 3) := by decide +kernel
theorem dX2_reasonAgainst_67 : decode cX2_reasonAgainst 67 = .ok (.astore_n 3, 1) := by decide +kernel
theorem dX2_reasonAgainst_68 : decode cX2_reasonAgainst 68 = .ok (.aload_n 3, 1) := by decide +kernel
theorem dX2_reasonAgainst_69 : decode cX2_reasonAgainst 69 = .ok (.getfield 102, 3) := by decide +kernel
theorem dX2_reasonAgainst_72 : decode cX2_reasonAgainst 72 = .ok (.ifCond .ne 6, 3) := by decide +kernel
theorem dX2_reasonAgainst_75 : decode cX2_reasonAgainst 75 = .ok (.bipush 6, 2) := by decide +kernel
theorem dX2_reasonAgainst_77 : decode cX2_reasonAgainst 77 = .ok (.ireturn, 1) := by decide +kernel
theorem dX2_reasonAgainst_78 : decode cX2_reasonAgainst 78 = .ok (.aload_n 0, 1) := by decide +kernel
theorem dX2_reasonAgainst_79 : decode cX2_reasonAgainst 79 = .ok (.getfield 50, 3) := by decide +kernel
theorem dX2_reasonAgainst_82 : decode cX2_reasonAgainst 82 = .ok (.aload_n 3, 1) := by decide +kernel
theorem dX2_reasonAgainst_83 : decode cX2_reasonAgainst 83 = .ok (.getfield 124, 3) := by decide +kernel
theorem dX2_reasonAgainst_86 : decode cX2_reasonAgainst 86 = .ok (.aload_n 2, 1) := by decide +kernel
theorem dX2_reasonAgainst_87 : decode cX2_reasonAgainst 87 = .ok (.getfield 124, 3) := by decide +kernel
theorem dX2_reasonAgainst_90 : decode cX2_reasonAgainst 90 = .ok (.invokestatic 125, 3) := by decide +kernel
theorem dX2_reasonAgainst_93 : decode cX2_reasonAgainst 93 = .ok (.iadd, 1) := by decide +kernel
theorem dX2_reasonAgainst_94 : decode cX2_reasonAgainst 94 = .ok (.aload_n 1, 1) := by decide +kernel
theorem dX2_reasonAgainst_95 : decode cX2_reasonAgainst 95 = .ok (.getfield 148, 3) := by decide +kernel
theorem dX2_reasonAgainst_98 : decode cX2_reasonAgainst 98 = .ok (.iadd, 1) := by decide +kernel
theorem dX2_reasonAgainst_99 : decode cX2_reasonAgainst 99 = .ok (.aload_n 1, 1) := by decide +kernel
theorem dX2_reasonAgainst_100 : decode cX2_reasonAgainst 100 = .ok (.getfield 145, 3) := by decide +kernel
theorem dX2_reasonAgainst_103 : decode cX2_reasonAgainst 103 = .ok (.if_icmp .le 8, 3) := by decide +kernel
theorem dX2_reasonAgainst_106 : decode cX2_reasonAgainst 106 = .ok (.bipush 7, 2) := by decide +kernel
theorem dX2_reasonAgainst_108 : decode cX2_reasonAgainst 108 = .ok (.goto 4, 3) := by decide +kernel
theorem dX2_reasonAgainst_111 : decode cX2_reasonAgainst 111 = .ok (.iconst 0, 1) := by decide +kernel
theorem dX2_reasonAgainst_112 : decode cX2_reasonAgainst 112 = .ok (.ireturn, 1) := by decide +kernel
set_option maxRecDepth 20000 in
theorem ggX2_bestToBegin_X2_reasonAgainst : GoodIn wsX2_bestToBegin wsX2_reasonAgainst := goodIn_r _ [6, 7, 8, 9, 10, 11, 12, 13, 14, 15, 16, 17, 18, 19, 20, 21, 22, 5, 23, 1, 24, 25, 26, 27, 28, 29, 30, 31, 32, 33, 34, 35, 36, 37, 38, 39, 40, 41, 42, 43, 44, 45, 46, 47, 48, 49, 50, 51, 52, 53, 54, 55, 56, 57, 58, 59, 60, 61, 62, 63, 64, 65, 66, 67, 68, 69, 70, 71, 72, 73, 74, 75, 76, 77, 78, 79, 80, 81, 82, 83, 84, 85, 86, 87, 88, 89, 90, 91, 110, 111, 112, 113, 114, 115, 116, 117, 118, 119, 120, 121, 122, 123, 99, 100, 101, 102, 103, 104, 105, 106, 107, 108, 109, 124, 125, 126, 127, 128, 129, 130, 131, 132, 133, 134, 135, 136, 137, 138, 139, 140] (by decide +kernel) (by decide +kernel)
set_option maxRecDepth 20000 in
theorem gX2_bestToBegin_X2_reasonAgainst : GoodIn wsX2_bestToBegin (wsV RX2 167 RX2 yX2_reasonAgainst wsX2_reasonAgainst) := goodIn_app (goodIn_of _ (by decide +kernel)) ggX2_bestToBegin_X2_reasonAgainst
set_option maxRecDepth 20000 in
theorem ggX2_bestToBegin_X3_isBetterThan : GoodIn wsX2_bestToBegin wsX3_isBetterThan := goodIn_r _ [96, 97, 98, 110, 111, 112, 113, 114, 115, 116, 117, 118, 119, 120, 121, 122, 123] (by decide +kernel) (by decide +kernel)
set_option maxRecDepth 20000 in
theorem gX2_bestToBegin_X3_isBetterThan : GoodIn wsX2_bestToBegin (wsV RX2 171 RX3 yX3_isBetterThan wsX3_isBetterThan) := goodIn_app (goodIn_of _ (by decide +kernel)) ggX2_bestToBegin_X3_isBetterThan
theorem dX2_bestToBegin_0 : decode cX2_bestToBegin 0 = .ok (.iconst (-1), 1) := by decide +kernel
theorem dX2_bestToBegin_1 : decode cX2_bestToBegin 1 = .ok (.istore_n 1, 1) := by decide +kernel
theorem dX2_bestToBegin_2 : decode cX2_bestToBegin 2 = .ok (.iconst 0, 1) := by decide +kernel
theorem dX2_bestToBegin_3 : decode cX2_bestToBegin 3 = .ok (.istore_n 2, 1) := by decide +kernel
theorem dX2_bestToBegin_4 : decode cX2_bestToBegin 4 = .ok (.iload_n 2, 1) := by decide +kernel
theorem dX2_bestToBegin_5 : decode cX2_bestToBegin 5 = .ok (.aload_n 0, 1) := by decide +kernel
theorem dX2_bestToBegin_6 : decode cX2_bestToBegin 6 = .ok (.getfield 32, 3) := by decide +kernel
theorem dX2_bestToBegin_9 : decode cX2_bestToBegin 9 = .ok (.arraylength, 1) := by decide +kernel
theorem dX2_bestToBegin_10 : decode cX2_bestToBegin 10 = .ok (.if_icmp .ge 47, 3) := by decide +kernel
theorem dX2_bestToBegin_13 : decode cX2_bestToBegin 13 = .ok (.aload_n 0, 1) := by decide +kernel
theorem dX2_bestToBegin_14 : decode cX2_bestToBegin 14 = .ok (.aload_n 0, 1) := by decide +kernel
theorem dX2_bestToBegin_15 : decode cX2_bestToBegin 15 = .ok (.getfield 32, 3) := by decide +kernel
theorem dX2_bestToBegin_18 : decode cX2_bestToBegin 18 = .ok (.iload_n 2, 1) := by decide +kernel
theorem dX2_bestToBegin_19 : decode cX2_bestToBegin 19 = .ok (.aaload, 1) := by decide +kernel
theorem dX2_bestToBegin_20 : decode cX2_bestToBegin 20 = .ok (.invokevirtual 167, 3) := by decide +kernel
theorem dX2_bestToBegin_23 : decode cX2_bestToBegin 23 = .ok (.ifCond .ne 28, 3) := by decide +kernel
theorem dX2_bestToBegin_26 : decode cX2_bestToBegin 26 = .ok (.iload_n 1, 1) := by decide +kernel
theorem dX2_bestToBegin_27 : decode cX2_bestToBegin 27 = .ok (.iconst (-1), 1) := by decide +kernel
theorem dX2_bestToBegin_28 : decode cX2_bestToBegin 28 = .ok (.if_icmp .eq 21, 3) := by decide +kernel
theorem dX2_bestToBegin_31 : decode cX2_bestToBegin 31 = .ok (.aload_n 0, 1) := by decide +kernel
theorem dX2_bestToBegin_32 : decode cX2_bestToBegin 32 = .ok (.getfield 32, 3) := by decide +kernel
theorem dX2_bestToBegin_35 : decode cX2_bestToBegin 35 = .ok (.iload_n 2, 1) := by decide +kernel
theorem dX2_bestToBegin_36 : decode cX2_bestToBegin 36 = .ok (.aaload, 1) := by decide +kernel
theorem dX2_bestToBegin_37 : decode cX2_bestToBegin 37 = .ok (.aload_n 0, 1) := by decide +kernel
theorem dX2_bestToBegin_38 : decode cX2_bestToBegin 38 = .ok (.getfield 32, 3) := by decide +kernel
theorem dX2_bestToBegin_41 : decode cX2_bestToBegin 41 = .ok (.iload_n 1, 1) := by decide +kernel
theorem dX2_bestToBegin_42 : decode cX2_bestToBegin 42 = .ok (.aaload, 1) := by decide +kernel
theorem dX2_bestToBegin_43 : decode cX2_bestToBegin 43 = .ok (.invokevirtual 171, 3) := by decide +kernel
theorem dX2_bestToBegin_46 : decode cX2_bestToBegin 46 = .ok (.ifCond .eq 5, 3) := by decide +kernel
theorem dX2_bestToBegin_49 : decode cX2_bestToBegin 49 = .ok (.iload_n 2, 1) := by decide +kernel
theorem dX2_bestToBegin_50 : decode cX2_bestToBegin 50 = .ok (.istore_n 1, 1) := by decide +kernel
theorem dX2_bestToBegin_51 : decode cX2_bestToBegin 51 = .ok (.iinc 2 1, 3) := by decide +kernel
theorem dX2_bestToBegin_54 : decode cX2_bestToBegin 54 = .ok (.goto (-50), 3) := by decide +kernel
theorem dX2_bestToBegin_57 : decode cX2_bestToBegin 57 = .ok (.iload_n 1, 1) := by decide +kernel
theorem dX2_bestToBegin_58 : decode cX2_bestToBegin 58 = .ok (.ireturn, 1) := by decide +kernel
set_option maxRecDepth 20000 in
theorem ggX2_letPass_X2_kindOfDay : GoodIn wsX2_letPass wsX2_kindOfDay := goodIn_r _ [7, 8, 9, 10, 11, 6, 12, 13, 14, 15, 16, 17, 1, 165, 166, 167, 168, 169, 170, 171, 172, 173, 174, 175] (by decide +kernel) (by decide +kernel)
set_option maxRecDepth 20000 in
theorem gX2_letPass_X2_kindOfDay : GoodIn wsX2_letPass (wsV RX2 80 RX2 yX2_kindOfDay wsX2_kindOfDay) := goodIn_app (goodIn_of _ (by decide +kernel)) ggX2_letPass_X2_kindOfDay
set_option maxRecDepth 20000 in
theorem ggX2_letPass_X2_beginHold : GoodIn wsX2_letPass wsX2_beginHold := goodIn_r _ [21, 22, 2, 23, 24, 25, 26, 27, 28, 29, 30, 31, 32, 33, 34, 35, 36, 37, 38, 39, 40, 41, 42, 165, 166, 167, 168, 169, 170, 171, 172, 173, 174, 175, 176, 177, 178, 179, 180, 181, 182, 183, 184, 185, 186, 187, 188, 189, 190, 191, 192, 193, 194, 195, 196, 197, 198, 199] (by decide +kernel) (by decide +kernel)
set_option maxRecDepth 20000 in
theorem gX2_letPass_X2_beginHold : GoodIn wsX2_letPass (wsV RX2 175 RX2 yX2_beginHold wsX2_beginHold) := goodIn_app (goodIn_of _ (by decide +kernel)) ggX2_letPass_X2_beginHold
set_option maxRecDepth 20000 in
theorem ggX2_letPass_X2_endWhatIsOver : GoodIn wsX2_letPass wsX2_endWhatIsOver := goodIn_r _ [46, 2, 23, 47, 1, 48, 49, 50, 6, 51, 52, 53, 54, 55, 56, 57, 58, 59, 60, 61, 62, 63, 3, 4, 5, 7, 8, 9, 10, 11, 12, 13, 14, 15, 16, 17, 64, 65, 66, 29, 67, 31, 33, 165, 166, 167, 168, 169, 170, 171, 172, 173, 174, 175, 176, 177, 178, 179, 180, 181, 182, 183, 184, 185, 186, 187, 188, 189, 190, 191, 192, 193, 194, 195, 196, 197, 198, 199] (by decide +kernel) (by decide +kernel)
set_option maxRecDepth 20000 in
theorem gX2_letPass_X2_endWhatIsOver : GoodIn wsX2_letPass (wsV RX2 178 RX2 yX2_endWhatIsOver wsX2_endWhatIsOver) := goodIn_app (goodIn_of _ (by decide +kernel)) ggX2_letPass_X2_endWhatIsOver
set_option maxRecDepth 20000 in
theorem ggX2_letPass_X2_bestToBegin : GoodIn wsX2_letPass wsX2_bestToBegin := goodIn_r _ [71, 2, 72, 73, 74, 6, 75, 23, 1, 76, 77, 78, 79, 80, 81, 41, 37, 42, 82, 47, 83, 84, 85, 86, 3, 4, 5, 7, 8, 9, 10, 11, 12, 13, 14, 15, 16, 17, 87, 88, 89, 90, 91, 25, 92, 93, 94, 95, 96, 97, 98, 99, 100, 101, 102, 103, 104, 105, 106, 107, 108, 109, 110, 111, 112, 65, 66, 29, 67, 31, 33, 113, 114, 115, 116, 117, 118, 119, 120, 121, 122, 123, 53, 124, 125, 126, 127, 128, 129, 130, 131, 132, 133, 134, 135, 136, 137, 138, 139, 165, 166, 167, 168, 169, 170, 171, 172, 173, 174, 175, 176, 177, 178, 179, 180, 181, 182, 183, 184, 185, 186, 187, 188, 189, 200, 201, 202, 203, 204, 205, 206, 190, 191, 192, 193, 194, 195, 196, 197, 198, 199] (by decide +kernel) (by decide +kernel)
set_option maxRecDepth 20000 in
theorem gX2_letPass_X2_bestToBegin : GoodIn wsX2_letPass (wsV RX2 181 RX2 yX2_bestToBegin wsX2_bestToBegin) := goodIn_app (goodIn_of _ (by decide +kernel)) ggX2_letPass_X2_bestToBegin
set_option maxRecDepth 20000 in
theorem ggX2_letPass_X2_begin : GoodIn wsX2_letPass wsX2_begin := goodIn_r _ [143, 79, 77, 23, 130, 54, 1, 144, 61, 82, 52, 60, 119, 120, 121, 6, 122, 123, 53, 124, 8, 125, 78, 92, 93, 94, 95, 96, 97, 98, 99, 100, 101, 102, 103, 104, 105, 106, 107, 37, 108, 109, 110, 111, 112, 65, 66, 29, 67, 31, 33, 113, 114, 115, 116, 117, 118, 126, 127, 128, 129, 131, 132, 87, 88, 89, 90, 91, 25, 145, 146, 147, 148, 149, 80, 81, 41, 42, 150, 151, 152, 153, 154, 155, 156, 27, 28, 30, 32, 34, 35, 36, 38, 39, 40, 56, 57, 58, 59, 62, 63, 3, 4, 5, 7, 9, 10, 11, 12, 13, 14, 15, 16, 17, 176, 177, 178, 179, 180, 181, 182, 183, 184, 185, 186, 187, 188, 189, 200, 201, 202, 203, 204, 205, 206, 165, 166, 167, 168, 169, 170, 171, 172, 173, 174, 175, 190, 191, 192, 193, 194, 195, 196, 197, 198, 199] (by decide +kernel) (by decide +kernel)
set_option maxRecDepth 20000 in
theorem gX2_letPass_X2_begin : GoodIn wsX2_letPass (wsV RX2 184 RX2 yX2_begin wsX2_begin) := goodIn_app (goodIn_of _ (by decide +kernel)) ggX2_letPass_X2_begin
set_option maxRecDepth 20000 in
theorem ggX2_letPass_X2_nextEvent : GoodIn wsX2_letPass wsX2_nextEvent := goodIn_r _ [160, 2, 23, 61, 52, 76, 47, 14, 15, 16, 6, 17, 1, 161, 162, 163, 164, 165, 166, 167, 168, 169, 170, 171, 172, 173, 174, 175, 176, 177, 178, 179, 180, 181, 182, 183, 184, 185, 186, 187, 188, 189] (by decide +kernel) (by decide +kernel)
set_option maxRecDepth 20000 in
theorem gX2_letPass_X2_nextEvent : GoodIn wsX2_letPass (wsV RX2 187 RX2 yX2_nextEvent wsX2_nextEvent) := goodIn_app (goodIn_of _ (by decide +kernel)) ggX2_letPass_X2_nextEvent
theorem dX2_letPass_0 : decode cX2_letPass 0 = .ok (.aload_n 0, 1) := by decide +kernel
theorem dX2_letPass_1 : decode cX2_letPass 1 = .ok (.getfield 50, 3) := by decide +kernel
theorem dX2_letPass_4 : decode cX2_letPass 4 = .ok (.istore_n 2, 1) := by decide +kernel
theorem dX2_letPass_5 : decode cX2_letPass 5 = .ok (.iload_n 2, 1) := by decide +kernel
theorem dX2_letPass_6 : decode cX2_letPass 6 = .ok (.iload_n 1, 1) := by decide +kernel
theorem dX2_letPass_7 : decode cX2_letPass 7 = .ok (.iadd, 1) := by decide +kernel
theorem dX2_letPass_8 : decode cX2_letPass 8 = .ok (.istore_n 3, 1) := by decide +kernel
theorem dX2_letPass_9 : decode cX2_letPass 9 = .ok (.iload_n 2, 1) := by decide +kernel
theorem dX2_letPass_10 : decode cX2_letPass 10 = .ok (.istore 4, 2) := by decide +kernel
theorem dX2_letPass_12 : decode cX2_letPass 12 = .ok (.iload_n 2, 1) := by decide +kernel
theorem dX2_letPass_13 : decode cX2_letPass 13 = .ok (.istore 5, 2) := by decide +kernel
theorem dX2_letPass_15 : decode cX2_letPass 15 = .ok (.iload 5, 2) := by decide +kernel
theorem dX2_letPass_17 : decode cX2_letPass 17 = .ok (.iload_n 3, 1) := by decide +kernel
theorem dX2_letPass_18 : decode cX2_letPass 18 = .ok (.if_icmp .gt 81, 3) := by decide +kernel
theorem dX2_letPass_21 : decode cX2_letPass 21 = .ok (.iload 5, 2) := by decide +kernel
theorem dX2_letPass_23 : decode cX2_letPass 23 = .ok (.iload 4, 2) := by decide +kernel
theorem dX2_letPass_25 : decode cX2_letPass 25 = .ok (.if_icmp .lt 68, 3) := by decide +kernel
theorem dX2_letPass_28 : decode cX2_letPass 28 = .ok (.aload_n 0, 1) := by decide +kernel
theorem dX2_letPass_29 : decode cX2_letPass 29 = .ok (.iload 5, 2) := by decide +kernel
theorem dX2_letPass_31 : decode cX2_letPass 31 = .ok (.putfield 50, 3) := by decide +kernel
theorem dX2_letPass_34 : decode cX2_letPass 34 = .ok (.iload 5, 2) := by decide +kernel
theorem dX2_letPass_36 : decode cX2_letPass 36 = .ok (.iload_n 2, 1) := by decide +kernel
theorem dX2_letPass_37 : decode cX2_letPass 37 = .ok (.if_icmp .le 23, 3) := by decide +kernel
theorem dX2_letPass_40 : decode cX2_letPass 40 = .ok (.iload 5, 2) := by decide +kernel
theorem dX2_letPass_42 : decode cX2_letPass 42 = .ok (.sipush 1440, 3) := by decide +kernel
theorem dX2_letPass_45 : decode cX2_letPass 45 = .ok (.irem, 1) := by decide +kernel
theorem dX2_letPass_46 : decode cX2_letPass 46 = .ok (.ifCond .ne 14, 3) := by decide +kernel
theorem dX2_letPass_49 : decode cX2_letPass 49 = .ok (.aload_n 0, 1) := by decide +kernel
theorem dX2_letPass_50 : decode cX2_letPass 50 = .ok (.invokevirtual 80, 3) := by decide +kernel
theorem dX2_letPass_53 : decode cX2_letPass 53 = .ok (.ifCond .ne 7, 3) := by decide +kernel
theorem dX2_letPass_56 : decode cX2_letPass 56 = .ok (.aload_n 0, 1) := by decide +kernel
theorem dX2_letPass_57 : decode cX2_letPass 57 = .ok (.invokevirtual 175, 3) := by decide +kernel
theorem dX2_letPass_60 : decode cX2_letPass 60 = .ok (.aload_n 0, 1) := by decide +kernel
theorem dX2_letPass_61 : decode cX2_letPass 61 = .ok (.invokevirtual 178, 3) := by decide +kernel
theorem dX2_letPass_64 : decode cX2_letPass 64 = .ok (.aload_n 0, 1) := by decide +kernel
theorem dX2_letPass_65 : decode cX2_letPass 65 = .ok (.invokevirtual 181, 3) := by decide +kernel
theorem dX2_letPass_68 : decode cX2_letPass 68 = .ok (.istore 6, 2) := by decide +kernel
theorem dX2_letPass_70 : decode cX2_letPass 70 = .ok (.iload 6, 2) := by decide +kernel
theorem dX2_letPass_72 : decode cX2_letPass 72 = .ok (.iconst (-1), 1) := by decide +kernel
theorem dX2_letPass_73 : decode cX2_letPass 73 = .ok (.if_icmp .eq 14, 3) := by decide +kernel
theorem dX2_letPass_76 : decode cX2_letPass 76 = .ok (.aload_n 0, 1) := by decide +kernel
theorem dX2_letPass_77 : decode cX2_letPass 77 = .ok (.aload_n 0, 1) := by decide +kernel
theorem dX2_letPass_78 : decode cX2_letPass 78 = .ok (.getfield 32, 3) := by decide +kernel
theorem dX2_letPass_81 : decode cX2_letPass 81 = .ok (.iload 6, 2) := by decide +kernel
theorem dX2_letPass_83 : decode cX2_letPass 83 = .ok (.aaload, 1) := by decide +kernel
theorem dX2_letPass_84 : decode cX2_letPass 84 = .ok (.invokevirtual 184, 3) := by decide +kernel
theorem dX2_letPass_87 : decode cX2_letPass 87 = .ok (.aload_n 0, 1) := by decide +kernel
theorem dX2_letPass_88 : decode cX2_letPass 88 = .ok (.invokevirtual 187, 3) := by decide +kernel
theorem dX2_letPass_91 : decode cX2_letPass 91 = .ok (.istore 4, 2) := by decide +kernel
theorem dX2_letPass_93 : decode cX2_letPass 93 = .ok (.iinc 5 1, 3) := by decide +kernel
theorem dX2_letPass_96 : decode cX2_letPass 96 = .ok (.goto (-81), 3) := by decide +kernel
theorem dX2_letPass_99 : decode cX2_letPass 99 = .ok (.aload_n 0, 1) := by decide +kernel
theorem dX2_letPass_100 : decode cX2_letPass 100 = .ok (.iload_n 3, 1) := by decide +kernel
theorem dX2_letPass_101 : decode cX2_letPass 101 = .ok (.putfield 50, 3) := by decide +kernel
theorem dX2_letPass_104 : decode cX2_letPass 104 = .ok (.return_, 1) := by decide +kernel
set_option maxRecDepth 20000 in
theorem ggX2_nextEvent_X2_day : GoodIn wsX2_nextEvent wsX2_day := goodIn_r _ [11, 12, 17, 18, 19, 20, 21, 22, 23, 24, 25, 26, 27] (by decide +kernel) (by decide +kernel)
set_option maxRecDepth 20000 in
theorem gX2_nextEvent_X2_day : GoodIn wsX2_nextEvent (wsV RX2 73 RX2 yX2_day wsX2_day) := goodIn_app (goodIn_of _ (by decide +kernel)) ggX2_nextEvent_X2_day
set_option maxRecDepth 20000 in
theorem ggX2_nextEvent_X2_sooner : GoodIn wsX2_nextEvent wsX2_sooner := goodIn_r _ [16, 12, 17, 18, 19, 20, 21, 22, 23, 24, 25, 26, 27] (by decide +kernel) (by decide +kernel)
set_option maxRecDepth 20000 in
theorem gX2_nextEvent_X2_sooner : GoodIn wsX2_nextEvent (wsV RX2 193 RX2 yX2_sooner wsX2_sooner) := goodIn_app (goodIn_of _ (by decide +kernel)) ggX2_nextEvent_X2_sooner
theorem dX2_nextEvent_0 : decode cX2_nextEvent 0 = .ok (.aload_n 0, 1) := by decide +kernel
theorem dX2_nextEvent_1 : decode cX2_nextEvent 1 = .ok (.invokevirtual 73, 3) := by decide +kernel
theorem dX2_nextEvent_4 : decode cX2_nextEvent 4 = .ok (.iconst 1, 1) := by decide +kernel
theorem dX2_nextEvent_5 : decode cX2_nextEvent 5 = .ok (.iadd, 1) := by decide +kernel
theorem dX2_nextEvent_6 : decode cX2_nextEvent 6 = .ok (.sipush 1440, 3) := by decide +kernel
theorem dX2_nextEvent_9 : decode cX2_nextEvent 9 = .ok (.imul, 1) := by decide +kernel
theorem dX2_nextEvent_10 : decode cX2_nextEvent 10 = .ok (.istore_n 1, 1) := by decide +kernel
theorem dX2_nextEvent_11 : decode cX2_nextEvent 11 = .ok (.aload_n 0, 1) := by decide +kernel
theorem dX2_nextEvent_12 : decode cX2_nextEvent 12 = .ok (.getfield 32, 3) := by decide +kernel
theorem dX2_nextEvent_15 : decode cX2_nextEvent 15 = .ok (.astore_n 2, 1) := by decide +kernel
theorem dX2_nextEvent_16 : decode cX2_nextEvent 16 = .ok (.aload_n 2, 1) := by decide +kernel
theorem dX2_nextEvent_17 : decode cX2_nextEvent 17 = .ok (.arraylength, 1) := by decide +kernel
theorem dX2_nextEvent_18 : decode cX2_nextEvent 18 = .ok (.istore_n 3, 1) := by decide +kernel
theorem dX2_nextEvent_19 : decode cX2_nextEvent 19 = .ok (.iconst 0, 1) := by decide +kernel
theorem dX2_nextEvent_20 : decode cX2_nextEvent 20 = .ok (.istore 4, 2) := by decide +kernel
theorem dX2_nextEvent_22 : decode cX2_nextEvent 22 = .ok (.iload 4, 2) := by decide +kernel
theorem dX2_nextEvent_24 : decode cX2_nextEvent 24 = .ok (.iload_n 3, 1) := by decide +kernel
theorem dX2_nextEvent_25 : decode cX2_nextEvent 25 = .ok (.if_icmp .ge 79, 3) := by decide +kernel
theorem dX2_nextEvent_28 : decode cX2_nextEvent 28 = .ok (.aload_n 2, 1) := by decide +kernel
theorem dX2_nextEvent_29 : decode cX2_nextEvent 29 = .ok (.iload 4, 2) := by decide +kernel
theorem dX2_nextEvent_31 : decode cX2_nextEvent 31 = .ok (.aaload, 1) := by decide +kernel
theorem dX2_nextEvent_32 : decode cX2_nextEvent 32 = .ok (.astore 5, 2) := by decide +kernel
theorem dX2_nextEvent_34 : decode cX2_nextEvent 34 = .ok (.aload 5, 2) := by decide +kernel
theorem dX2_nextEvent_36 : decode cX2_nextEvent 36 = .ok (.getfield 128, 3) := by decide +kernel
theorem dX2_nextEvent_39 : decode cX2_nextEvent 39 = .ok (.iconst 1, 1) := by decide +kernel
theorem dX2_nextEvent_40 : decode cX2_nextEvent 40 = .ok (.if_icmp .ne 28, 3) := by decide +kernel
theorem dX2_nextEvent_43 : decode cX2_nextEvent 43 = .ok (.aload_n 0, 1) := by decide +kernel
theorem dX2_nextEvent_44 : decode cX2_nextEvent 44 = .ok (.iload_n 1, 1) := by decide +kernel
theorem dX2_nextEvent_45 : decode cX2_nextEvent 45 = .ok (.aload 5, 2) := by decide +kernel
theorem dX2_nextEvent_47 : decode cX2_nextEvent 47 = .ok (.getfield 190, 3) := by decide +kernel
theorem dX2_nextEvent_50 : decode cX2_nextEvent 50 = .ok (.invokevirtual 193, 3) := by decide +kernel
theorem dX2_nextEvent_53 : decode cX2_nextEvent 53 = .ok (.istore_n 1, 1) := by decide +kernel
theorem dX2_nextEvent_54 : decode cX2_nextEvent 54 = .ok (.aload_n 0, 1) := by decide +kernel
theorem dX2_nextEvent_55 : decode cX2_nextEvent 55 = .ok (.iload_n 1, 1) := by decide +kernel
theorem dX2_nextEvent_56 : decode cX2_nextEvent 56 = .ok (.aload 5, 2) := by decide +kernel
theorem dX2_nextEvent_58 : decode cX2_nextEvent 58 = .ok (.getfield 131, 3) := by decide +kernel
theorem dX2_nextEvent_61 : decode cX2_nextEvent 61 = .ok (.invokevirtual 193, 3) := by decide +kernel
theorem dX2_nextEvent_64 : decode cX2_nextEvent 64 = .ok (.istore_n 1, 1) := by decide +kernel
theorem dX2_nextEvent_65 : decode cX2_nextEvent 65 = .ok (.goto 33, 3) := by decide +kernel
theorem dX2_nextEvent_68 : decode cX2_nextEvent 68 = .ok (.aload 5, 2) := by decide +kernel
theorem dX2_nextEvent_70 : decode cX2_nextEvent 70 = .ok (.getfield 128, 3) := by decide +kernel
theorem dX2_nextEvent_73 : decode cX2_nextEvent 73 = .ok (.ifCond .ne 25, 3) := by decide +kernel
theorem dX2_nextEvent_76 : decode cX2_nextEvent 76 = .ok (.aload_n 0, 1) := by decide +kernel
theorem dX2_nextEvent_77 : decode cX2_nextEvent 77 = .ok (.iload_n 1, 1) := by decide +kernel
theorem dX2_nextEvent_78 : decode cX2_nextEvent 78 = .ok (.aload 5, 2) := by decide +kernel
theorem dX2_nextEvent_80 : decode cX2_nextEvent 80 = .ok (.getfield 142, 3) := by decide +kernel
theorem dX2_nextEvent_83 : decode cX2_nextEvent 83 = .ok (.invokevirtual 193, 3) := by decide +kernel
theorem dX2_nextEvent_86 : decode cX2_nextEvent 86 = .ok (.istore_n 1, 1) := by decide +kernel
theorem dX2_nextEvent_87 : decode cX2_nextEvent 87 = .ok (.aload_n 0, 1) := by decide +kernel
theorem dX2_nextEvent_88 : decode cX2_nextEvent 88 = .ok (.iload_n 1, 1) := by decide +kernel
theorem dX2_nextEvent_89 : decode cX2_nextEvent 89 = .ok (.aload 5, 2) := by decide +kernel
theorem dX2_nextEvent_91 : decode cX2_nextEvent 91 = .ok (.getfield 145, 3) := by decide +kernel
theorem dX2_nextEvent_94 : decode cX2_nextEvent 94 = .ok (.invokevirtual 193, 3) := by decide +kernel
theorem dX2_nextEvent_97 : decode cX2_nextEvent 97 = .ok (.istore_n 1, 1) := by decide +kernel
theorem dX2_nextEvent_98 : decode cX2_nextEvent 98 = .ok (.iinc 4 1, 3) := by decide +kernel
theorem dX2_nextEvent_101 : decode cX2_nextEvent 101 = .ok (.goto (-79), 3) := by decide +kernel
theorem dX2_nextEvent_104 : decode cX2_nextEvent 104 = .ok (.iload_n 1, 1) := by decide +kernel
theorem dX2_nextEvent_105 : decode cX2_nextEvent 105 = .ok (.ireturn, 1) := by decide +kernel
theorem dX2_sooner_0 : decode cX2_sooner 0 = .ok (.iload_n 2, 1) := by decide +kernel
theorem dX2_sooner_1 : decode cX2_sooner 1 = .ok (.aload_n 0, 1) := by decide +kernel
theorem dX2_sooner_2 : decode cX2_sooner 2 = .ok (.getfield 50, 3) := by decide +kernel
theorem dX2_sooner_5 : decode cX2_sooner 5 = .ok (.if_icmp .le 12, 3) := by decide +kernel
theorem dX2_sooner_8 : decode cX2_sooner 8 = .ok (.iload_n 2, 1) := by decide +kernel
theorem dX2_sooner_9 : decode cX2_sooner 9 = .ok (.iload_n 1, 1) := by decide +kernel
theorem dX2_sooner_10 : decode cX2_sooner 10 = .ok (.if_icmp .ge 7, 3) := by decide +kernel
theorem dX2_sooner_13 : decode cX2_sooner 13 = .ok (.iload_n 2, 1) := by decide +kernel
theorem dX2_sooner_14 : decode cX2_sooner 14 = .ok (.goto 4, 3) := by decide +kernel
theorem dX2_sooner_17 : decode cX2_sooner 17 = .ok (.iload_n 1, 1) := by decide +kernel
theorem dX2_sooner_18 : decode cX2_sooner 18 = .ok (.ireturn, 1) := by decide +kernel
set_option maxRecDepth 20000 in
theorem ggX2_beginHold_X0_moveTo : GoodIn wsX2_beginHold wsX0_moveTo := goodIn_r _ [10, 11, 12, 13, 14, 15, 16, 17, 18, 19, 20, 21, 22, 48, 49, 50, 51, 52, 53, 54, 55, 56, 57] (by decide +kernel) (by decide +kernel)
set_option maxRecDepth 20000 in
theorem gX2_beginHold_X0_moveTo : GoodIn wsX2_beginHold (wsV RX2 196 RX0 yX0_moveTo wsX0_moveTo) := goodIn_app (goodIn_of _ (by decide +kernel)) ggX2_beginHold_X0_moveTo
theorem dX2_beginHold_0 : decode cX2_beginHold 0 = .ok (.aload_n 0, 1) := by decide +kernel
theorem dX2_beginHold_1 : decode cX2_beginHold 1 = .ok (.dup, 1) := by decide +kernel
theorem dX2_beginHold_2 : decode cX2_beginHold 2 = .ok (.getfield 57, 3) := by decide +kernel
theorem dX2_beginHold_5 : decode cX2_beginHold 5 = .ok (.iconst 1, 1) := by decide +kernel
theorem dX2_beginHold_6 : decode cX2_beginHold 6 = .ok (.iadd, 1) := by decide +kernel
theorem dX2_beginHold_7 : decode cX2_beginHold 7 = .ok (.putfield 57, 3) := by decide +kernel
theorem dX2_beginHold_10 : decode cX2_beginHold 10 = .ok (.aload_n 0, 1) := by decide +kernel
theorem dX2_beginHold_11 : decode cX2_beginHold 11 = .ok (.getfield 32, 3) := by decide +kernel
theorem dX2_beginHold_14 : decode cX2_beginHold 14 = .ok (.astore_n 1, 1) := by decide +kernel
theorem dX2_beginHold_15 : decode cX2_beginHold 15 = .ok (.aload_n 1, 1) := by decide +kernel
theorem dX2_beginHold_16 : decode cX2_beginHold 16 = .ok (.arraylength, 1) := by decide +kernel
theorem dX2_beginHold_17 : decode cX2_beginHold 17 = .ok (.istore_n 2, 1) := by decide +kernel
theorem dX2_beginHold_18 : decode cX2_beginHold 18 = .ok (.iconst 0, 1) := by decide +kernel
theorem dX2_beginHold_19 : decode cX2_beginHold 19 = .ok (.istore_n 3, 1) := by decide +kernel
theorem dX2_beginHold_20 : decode cX2_beginHold 20 = .ok (.iload_n 3, 1) := by decide +kernel
theorem dX2_beginHold_21 : decode cX2_beginHold 21 = .ok (.iload_n 2, 1) := by decide +kernel
theorem dX2_beginHold_22 : decode cX2_beginHold 22 = .ok (.if_icmp .ge 40, 3) := by decide +kernel
theorem dX2_beginHold_25 : decode cX2_beginHold 25 = .ok (.aload_n 1, 1) := by decide +kernel
theorem dX2_beginHold_26 : decode cX2_beginHold 26 = .ok (.iload_n 3, 1) := by decide +kernel
theorem dX2_beginHold_27 : decode cX2_beginHold 27 = .ok (.aaload, 1) := by decide +kernel
theorem dX2_beginHold_28 : decode cX2_beginHold 28 = .ok (.astore 4, 2) := by decide +kernel
theorem dX2_beginHold_30 : decode cX2_beginHold 30 = .ok (.aload 4, 2) := by decide +kernel
theorem dX2_beginHold_32 : decode cX2_beginHold 32 = .ok (.getfield 128, 3) := by decide +kernel
theorem dX2_beginHold_35 : decode cX2_beginHold 35 = .ok (.iconst 1, 1) := by decide +kernel
theorem dX2_beginHold_36 : decode cX2_beginHold 36 = .ok (.if_icmp .ne 20, 3) := by decide +kernel
theorem dX2_beginHold_39 : decode cX2_beginHold 39 = .ok (.aload 4, 2) := by decide +kernel
theorem dX2_beginHold_41 : decode cX2_beginHold 41 = .ok (.iconst 0, 1) := by decide +kernel
theorem dX2_beginHold_42 : decode cX2_beginHold 42 = .ok (.putfield 128, 3) := by decide +kernel
theorem dX2_beginHold_45 : decode cX2_beginHold 45 = .ok (.aload 4, 2) := by decide +kernel
theorem dX2_beginHold_47 : decode cX2_beginHold 47 = .ok (.dup, 1) := by decide +kernel
theorem dX2_beginHold_48 : decode cX2_beginHold 48 = .ok (.getfield 154, 3) := by decide +kernel
theorem dX2_beginHold_51 : decode cX2_beginHold 51 = .ok (.iconst 1, 1) := by decide +kernel
theorem dX2_beginHold_52 : decode cX2_beginHold 52 = .ok (.iadd, 1) := by decide +kernel
theorem dX2_beginHold_53 : decode cX2_beginHold 53 = .ok (.putfield 154, 3) := by decide +kernel
theorem dX2_beginHold_56 : decode cX2_beginHold 56 = .ok (.iinc 3 1, 3) := by decide +kernel
theorem dX2_beginHold_59 : decode cX2_beginHold 59 = .ok (.goto (-39), 3) := by decide +kernel
theorem dX2_beginHold_62 : decode cX2_beginHold 62 = .ok (.aload_n 0, 1) := by decide +kernel
theorem dX2_beginHold_63 : decode cX2_beginHold 63 = .ok (.getfield 27, 3) := by decide +kernel
theorem dX2_beginHold_66 : decode cX2_beginHold 66 = .ok (.sipush 9000, 3) := by decide +kernel
theorem dX2_beginHold_69 : decode cX2_beginHold 69 = .ok (.invokevirtual 196, 3) := by decide +kernel
theorem dX2_beginHold_72 : decode cX2_beginHold 72 = .ok (.return_, 1) := by decide +kernel
set_option maxRecDepth 20000 in
theorem ggX2_endWhatIsOver_X2_goOnWith : GoodIn wsX2_endWhatIsOver wsX2_goOnWith := goodIn_r _ [9, 4, 10, 2, 11, 12, 13, 14, 15, 16, 8, 17, 18, 19, 20, 21, 22, 23, 24, 25, 26, 27, 28, 29, 30, 31, 32, 33, 34, 35, 36, 37, 38, 39, 40, 41, 42, 43, 44, 45, 46, 47, 48, 49, 50, 51, 52, 53, 54, 55, 56, 57, 58, 59, 60, 61, 62, 63, 64, 65, 66, 67, 68, 69, 70, 71, 72, 73, 74, 75, 76, 77] (by decide +kernel) (by decide +kernel)
set_option maxRecDepth 20000 in
theorem gX2_endWhatIsOver_X2_goOnWith : GoodIn wsX2_endWhatIsOver (wsV RX2 200 RX2 yX2_goOnWith wsX2_goOnWith) := goodIn_app (goodIn_of _ (by decide +kernel)) ggX2_endWhatIsOver_X2_goOnWith
theorem dX2_endWhatIsOver_0 : decode cX2_endWhatIsOver 0 = .ok (.aload_n 0, 1) := by decide +kernel
theorem dX2_endWhatIsOver_1 : decode cX2_endWhatIsOver 1 = .ok (.getfield 32, 3) := by decide +kernel
theorem dX2_endWhatIsOver_4 : decode cX2_endWhatIsOver 4 = .ok (.astore_n 1, 1) := by decide +kernel
theorem dX2_endWhatIsOver_5 : decode cX2_endWhatIsOver 5 = .ok (.aload_n 1, 1) := by decide +kernel
theorem dX2_endWhatIsOver_6 : decode cX2_endWhatIsOver 6 = .ok (.arraylength, 1) := by decide +kernel
theorem dX2_endWhatIsOver_7 : decode cX2_endWhatIsOver 7 = .ok (.istore_n 2, 1) := by decide +kernel
theorem dX2_endWhatIsOver_8 : decode cX2_endWhatIsOver 8 = .ok (.iconst 0, 1) := by decide +kernel
theorem dX2_endWhatIsOver_9 : decode cX2_endWhatIsOver 9 = .ok (.istore_n 3, 1) := by decide +kernel
theorem dX2_endWhatIsOver_10 : decode cX2_endWhatIsOver 10 = .ok (.iload_n 3, 1) := by decide +kernel
theorem dX2_endWhatIsOver_11 : decode cX2_endWhatIsOver 11 = .ok (.iload_n 2, 1) := by decide +kernel
theorem dX2_endWhatIsOver_12 : decode cX2_endWhatIsOver 12 = .ok (.if_icmp .ge 29, 3) := by decide +kernel
theorem dX2_endWhatIsOver_15 : decode cX2_endWhatIsOver 15 = .ok (.aload_n 1, 1) := by decide +kernel
theorem dX2_endWhatIsOver_16 : decode cX2_endWhatIsOver 16 = .ok (.iload_n 3, 1) := by decide +kernel
theorem dX2_endWhatIsOver_17 : decode cX2_endWhatIsOver 17 = .ok (.aaload, 1) := by decide +kernel
theorem dX2_endWhatIsOver_18 : decode cX2_endWhatIsOver 18 = .ok (.astore 4, 2) := by decide +kernel
theorem dX2_endWhatIsOver_20 : decode cX2_endWhatIsOver 20 = .ok (.aload 4, 2) := by decide +kernel
theorem dX2_endWhatIsOver_22 : decode cX2_endWhatIsOver 22 = .ok (.getfield 128, 3) := by decide +kernel
theorem dX2_endWhatIsOver_25 : decode cX2_endWhatIsOver 25 = .ok (.iconst 1, 1) := by decide +kernel
theorem dX2_endWhatIsOver_26 : decode cX2_endWhatIsOver 26 = .ok (.if_icmp .ne 9, 3) := by decide +kernel
theorem dX2_endWhatIsOver_29 : decode cX2_endWhatIsOver 29 = .ok (.aload_n 0, 1) := by decide +kernel
theorem dX2_endWhatIsOver_30 : decode cX2_endWhatIsOver 30 = .ok (.aload 4, 2) := by decide +kernel
theorem dX2_endWhatIsOver_32 : decode cX2_endWhatIsOver 32 = .ok (.invokevirtual 200, 3) := by decide +kernel
theorem dX2_endWhatIsOver_35 : decode cX2_endWhatIsOver 35 = .ok (.iinc 3 1, 3) := by decide +kernel
theorem dX2_endWhatIsOver_38 : decode cX2_endWhatIsOver 38 = .ok (.goto (-28), 3) := by decide +kernel
theorem dX2_endWhatIsOver_41 : decode cX2_endWhatIsOver 41 = .ok (.aload_n 0, 1) := by decide +kernel
theorem dX2_endWhatIsOver_42 : decode cX2_endWhatIsOver 42 = .ok (.getfield 32, 3) := by decide +kernel
theorem dX2_endWhatIsOver_45 : decode cX2_endWhatIsOver 45 = .ok (.astore_n 1, 1) := by decide +kernel
theorem dX2_endWhatIsOver_46 : decode cX2_endWhatIsOver 46 = .ok (.aload_n 1, 1) := by decide +kernel
theorem dX2_endWhatIsOver_47 : decode cX2_endWhatIsOver 47 = .ok (.arraylength, 1) := by decide +kernel
theorem dX2_endWhatIsOver_48 : decode cX2_endWhatIsOver 48 = .ok (.istore_n 2, 1) := by decide +kernel
theorem dX2_endWhatIsOver_49 : decode cX2_endWhatIsOver 49 = .ok (.iconst 0, 1) := by decide +kernel
theorem dX2_endWhatIsOver_50 : decode cX2_endWhatIsOver 50 = .ok (.istore_n 3, 1) := by decide +kernel
theorem dX2_endWhatIsOver_51 : decode cX2_endWhatIsOver 51 = .ok (.iload_n 3, 1) := by decide +kernel
theorem dX2_endWhatIsOver_52 : decode cX2_endWhatIsOver 52 = .ok (.iload_n 2, 1) := by decide +kernel
theorem dX2_endWhatIsOver_53 : decode cX2_endWhatIsOver 53 = .ok (.if_icmp .ge 40, 3) := by decide +kernel
theorem dX2_endWhatIsOver_56 : decode cX2_endWhatIsOver 56 = .ok (.aload_n 1, 1) := by decide +kernel
theorem dX2_endWhatIsOver_57 : decode cX2_endWhatIsOver 57 = .ok (.iload_n 3, 1) := by decide +kernel
theorem dX2_endWhatIsOver_58 : decode cX2_endWhatIsOver 58 = .ok (.aaload, 1) := by decide +kernel
theorem dX2_endWhatIsOver_59 : decode cX2_endWhatIsOver 59 = .ok (.astore 4, 2) := by decide +kernel
theorem dX2_endWhatIsOver_61 : decode cX2_endWhatIsOver 61 = .ok (.aload 4, 2) := by decide +kernel
theorem dX2_endWhatIsOver_63 : decode cX2_endWhatIsOver 63 = .ok (.getfield 128, 3) := by decide +kernel
theorem dX2_endWhatIsOver_66 : decode cX2_endWhatIsOver 66 = .ok (.ifCond .ne 21, 3) := by decide +kernel
theorem dX2_endWhatIsOver_69 : decode cX2_endWhatIsOver 69 = .ok (.aload 4, 2) := by decide +kernel
theorem dX2_endWhatIsOver_71 : decode cX2_endWhatIsOver 71 = .ok (.getfield 145, 3) := by decide +kernel
theorem dX2_endWhatIsOver_74 : decode cX2_endWhatIsOver 74 = .ok (.aload_n 0, 1) := by decide +kernel
theorem dX2_endWhatIsOver_75 : decode cX2_endWhatIsOver 75 = .ok (.getfield 50, 3) := by decide +kernel
theorem dX2_endWhatIsOver_78 : decode cX2_endWhatIsOver 78 = .ok (.if_icmp .gt 9, 3) := by decide +kernel
theorem dX2_endWhatIsOver_81 : decode cX2_endWhatIsOver 81 = .ok (.aload 4, 2) := by decide +kernel
theorem dX2_endWhatIsOver_83 : decode cX2_endWhatIsOver 83 = .ok (.iconst 3, 1) := by decide +kernel
theorem dX2_endWhatIsOver_84 : decode cX2_endWhatIsOver 84 = .ok (.putfield 128, 3) := by decide +kernel
theorem dX2_endWhatIsOver_87 : decode cX2_endWhatIsOver 87 = .ok (.iinc 3 1, 3) := by decide +kernel
theorem dX2_endWhatIsOver_90 : decode cX2_endWhatIsOver 90 = .ok (.goto (-39), 3) := by decide +kernel
theorem dX2_endWhatIsOver_93 : decode cX2_endWhatIsOver 93 = .ok (.return_, 1) := by decide +kernel
set_option maxRecDepth 20000 in
theorem ggX2_goOnWith_X2_lookAtSlew : GoodIn wsX2_goOnWith wsX2_lookAtSlew := goodIn_r _ [11, 12, 1, 13, 4, 14, 15, 16, 17, 18, 10, 19, 20, 21, 22, 23, 24, 25, 26, 27, 28, 29, 48, 49, 50, 51, 52, 53, 54, 55, 56, 57, 58, 59, 60, 61, 37, 38, 39, 40, 41, 42, 43, 44, 45, 46, 47, 62, 63, 64, 65, 66, 67, 68, 69, 70, 71] (by decide +kernel) (by decide +kernel)
set_option maxRecDepth 20000 in
theorem gX2_goOnWith_X2_lookAtSlew : GoodIn wsX2_goOnWith (wsV RX2 203 RX2 yX2_lookAtSlew wsX2_lookAtSlew) := goodIn_app (goodIn_of _ (by decide +kernel)) ggX2_goOnWith_X2_lookAtSlew
set_option maxRecDepth 20000 in
theorem ggX2_goOnWith_X0_dish : GoodIn wsX2_goOnWith wsX0_dish := goodIn_r _ [34, 35, 36, 62, 63, 64, 65, 66, 67, 68, 69, 70, 71] (by decide +kernel) (by decide +kernel)
set_option maxRecDepth 20000 in
theorem gX2_goOnWith_X0_dish : GoodIn wsX2_goOnWith (wsV RX2 83 RX0 yX0_dish wsX0_dish) := goodIn_app (goodIn_of _ (by decide +kernel)) ggX2_goOnWith_X0_dish
theorem dX2_goOnWith_0 : decode cX2_goOnWith 0 = .ok (.aload_n 0, 1) := by decide +kernel
theorem dX2_goOnWith_1 : decode cX2_goOnWith 1 = .ok (.aload_n 1, 1) := by decide +kernel
theorem dX2_goOnWith_2 : decode cX2_goOnWith 2 = .ok (.invokevirtual 203, 3) := by decide +kernel
theorem dX2_goOnWith_5 : decode cX2_goOnWith 5 = .ok (.aload_n 0, 1) := by decide +kernel
theorem dX2_goOnWith_6 : decode cX2_goOnWith 6 = .ok (.getfield 50, 3) := by decide +kernel
theorem dX2_goOnWith_9 : decode cX2_goOnWith 9 = .ok (.aload_n 1, 1) := by decide +kernel
theorem dX2_goOnWith_10 : decode cX2_goOnWith 10 = .ok (.getfield 131, 3) := by decide +kernel
theorem dX2_goOnWith_13 : decode cX2_goOnWith 13 = .ok (.if_icmp .lt 24, 3) := by decide +kernel
theorem dX2_goOnWith_16 : decode cX2_goOnWith 16 = .ok (.aload_n 1, 1) := by decide +kernel
theorem dX2_goOnWith_17 : decode cX2_goOnWith 17 = .ok (.iconst 2, 1) := by decide +kernel
theorem dX2_goOnWith_18 : decode cX2_goOnWith 18 = .ok (.putfield 128, 3) := by decide +kernel
theorem dX2_goOnWith_21 : decode cX2_goOnWith 21 = .ok (.aload_n 1, 1) := by decide +kernel
theorem dX2_goOnWith_22 : decode cX2_goOnWith 22 = .ok (.aload_n 0, 1) := by decide +kernel
theorem dX2_goOnWith_23 : decode cX2_goOnWith 23 = .ok (.getfield 23, 3) := by decide +kernel
theorem dX2_goOnWith_26 : decode cX2_goOnWith 26 = .ok (.invokevirtual 83, 3) := by decide +kernel
theorem dX2_goOnWith_29 : decode cX2_goOnWith 29 = .ok (.aload_n 1, 1) := by decide +kernel
theorem dX2_goOnWith_30 : decode cX2_goOnWith 30 = .ok (.getfield 206, 3) := by decide +kernel
theorem dX2_goOnWith_33 : decode cX2_goOnWith 33 = .ok (.isub, 1) := by decide +kernel
theorem dX2_goOnWith_34 : decode cX2_goOnWith 34 = .ok (.putfield 207, 3) := by decide +kernel
theorem dX2_goOnWith_37 : decode cX2_goOnWith 37 = .ok (.return_, 1) := by decide +kernel
set_option maxRecDepth 20000 in
theorem ggX2_lookAtSlew_X2_kindOfDay : GoodIn wsX2_lookAtSlew wsX2_kindOfDay := goodIn_r _ [11, 12, 13, 14, 15, 10, 16, 17, 18, 19, 20, 21, 2, 36, 37, 38, 39, 40, 41, 42, 43, 44, 45, 46] (by decide +kernel) (by decide +kernel)
set_option maxRecDepth 20000 in
theorem gX2_lookAtSlew_X2_kindOfDay : GoodIn wsX2_lookAtSlew (wsV RX2 80 RX2 yX2_kindOfDay wsX2_kindOfDay) := goodIn_app (goodIn_of _ (by decide +kernel)) ggX2_lookAtSlew_X2_kindOfDay
set_option maxRecDepth 20000 in
theorem ggX2_lookAtSlew_X2_day : GoodIn wsX2_lookAtSlew wsX2_day := goodIn_r _ [21, 2, 36, 37, 38, 39, 40, 41, 42, 43, 44, 45, 46] (by decide +kernel) (by decide +kernel)
set_option maxRecDepth 20000 in
theorem gX2_lookAtSlew_X2_day : GoodIn wsX2_lookAtSlew (wsV RX2 73 RX2 yX2_day wsX2_day) := goodIn_app (goodIn_of _ (by decide +kernel)) ggX2_lookAtSlew_X2_day
theorem dX2_lookAtSlew_0 : decode cX2_lookAtSlew 0 = .ok (.aload_n 1, 1) := by decide +kernel
theorem dX2_lookAtSlew_1 : decode cX2_lookAtSlew 1 = .ok (.getfield 210, 3) := by decide +kernel
theorem dX2_lookAtSlew_4 : decode cX2_lookAtSlew 4 = .ok (.ifCond .ne 14, 3) := by decide +kernel
theorem dX2_lookAtSlew_7 : decode cX2_lookAtSlew 7 = .ok (.aload_n 0, 1) := by decide +kernel
theorem dX2_lookAtSlew_8 : decode cX2_lookAtSlew 8 = .ok (.getfield 50, 3) := by decide +kernel
theorem dX2_lookAtSlew_11 : decode cX2_lookAtSlew 11 = .ok (.aload_n 1, 1) := by decide +kernel
theorem dX2_lookAtSlew_12 : decode cX2_lookAtSlew 12 = .ok (.getfield 190, 3) := by decide +kernel
theorem dX2_lookAtSlew_15 : decode cX2_lookAtSlew 15 = .ok (.if_icmp .ge 4, 3) := by decide +kernel
theorem dX2_lookAtSlew_18 : decode cX2_lookAtSlew 18 = .ok (.return_, 1) := by decide +kernel
theorem dX2_lookAtSlew_19 : decode cX2_lookAtSlew 19 = .ok (.aload_n 1, 1) := by decide +kernel
theorem dX2_lookAtSlew_20 : decode cX2_lookAtSlew 20 = .ok (.iconst 1, 1) := by decide +kernel
theorem dX2_lookAtSlew_21 : decode cX2_lookAtSlew 21 = .ok (.putfield 210, 3) := by decide +kernel
theorem dX2_lookAtSlew_24 : decode cX2_lookAtSlew 24 = .ok (.aload_n 0, 1) := by decide +kernel
theorem dX2_lookAtSlew_25 : decode cX2_lookAtSlew 25 = .ok (.invokevirtual 80, 3) := by decide +kernel
theorem dX2_lookAtSlew_28 : decode cX2_lookAtSlew 28 = .ok (.iconst 1, 1) := by decide +kernel
theorem dX2_lookAtSlew_29 : decode cX2_lookAtSlew 29 = .ok (.if_icmp .ne 30, 3) := by decide +kernel
theorem dX2_lookAtSlew_32 : decode cX2_lookAtSlew 32 = .ok (.aload_n 0, 1) := by decide +kernel
theorem dX2_lookAtSlew_33 : decode cX2_lookAtSlew 33 = .ok (.getfield 23, 3) := by decide +kernel
theorem dX2_lookAtSlew_36 : decode cX2_lookAtSlew 36 = .ok (.aload_n 0, 1) := by decide +kernel
theorem dX2_lookAtSlew_37 : decode cX2_lookAtSlew 37 = .ok (.invokevirtual 73, 3) := by decide +kernel
theorem dX2_lookAtSlew_40 : decode cX2_lookAtSlew 40 = .ok (.iconst 2, 1) := by decide +kernel
theorem dX2_lookAtSlew_41 : decode cX2_lookAtSlew 41 = .ok (.irem, 1) := by decide +kernel
theorem dX2_lookAtSlew_42 : decode cX2_lookAtSlew 42 = .ok (.ifCond .ne 7, 3) := by decide +kernel
theorem dX2_lookAtSlew_45 : decode cX2_lookAtSlew 45 = .ok (.iconst 0, 1) := by decide +kernel
theorem dX2_lookAtSlew_46 : decode cX2_lookAtSlew 46 = .ok (.goto 10, 3) := by decide +kernel
theorem dX2_lookAtSlew_49 : decode cX2_lookAtSlew 49 = .ok (.aload_n 0, 1) := by decide +kernel
theorem dX2_lookAtSlew_50 : decode cX2_lookAtSlew 50 = .ok (.getfield 23, 3) := by decide +kernel
theorem dX2_lookAtSlew_53 : decode cX2_lookAtSlew 53 = .ok (.getfield 213, 3) := by decide +kernel
theorem dX2_lookAtSlew_56 : decode cX2_lookAtSlew 56 = .ok (.putfield 216, 3) := by decide +kernel
theorem dX2_lookAtSlew_59 : decode cX2_lookAtSlew 59 = .ok (.return_, 1) := by decide +kernel
set_option maxRecDepth 20000 in
theorem ggX2_begin_X2_wayAround : GoodIn wsX2_begin wsX2_wayAround := goodIn_r _ [16, 17, 18, 19, 20, 21, 22, 23, 24, 25, 26, 27, 28, 29, 30, 31, 32, 33, 34, 35, 36, 37, 38, 39, 40, 41, 42, 43, 44, 45, 46, 47, 48, 49, 50, 51, 52, 53, 54, 55, 56, 57, 58, 59, 15, 60, 4, 61, 62, 135, 136, 137, 138, 139, 140, 141, 142, 143, 144, 145, 128, 129, 130, 131, 132, 133, 134, 146, 147, 148, 149, 150, 151, 152, 153, 154, 155] (by decide +kernel) (by decide +kernel)
set_option maxRecDepth 20000 in
theorem gX2_begin_X2_wayAround : GoodIn wsX2_begin (wsV RX2 164 RX2 yX2_wayAround wsX2_wayAround) := goodIn_app (goodIn_of _ (by decide +kernel)) ggX2_begin_X2_wayAround
set_option maxRecDepth 20000 in
theorem ggX2_begin_X2_wayRise : GoodIn wsX2_begin wsX2_wayRise := goodIn_r _ [66, 67, 68, 20, 23, 24, 25, 26, 27, 28, 29, 30, 31, 32, 33, 34, 35, 36, 37, 38, 39, 40, 41, 42, 43, 44, 45, 46, 47, 48, 49, 50, 51, 52, 53, 54, 55, 56, 135, 136, 137, 138, 139, 140, 141, 142, 143, 144, 145, 128, 129, 130, 131, 132, 133, 134, 146, 147, 148, 149, 150, 151, 152, 153, 154, 155] (by decide +kernel) (by decide +kernel)
set_option maxRecDepth 20000 in
theorem gX2_begin_X2_wayRise : GoodIn wsX2_begin (wsV RX2 160 RX2 yX2_wayRise wsX2_wayRise) := goodIn_app (goodIn_of _ (by decide +kernel)) ggX2_begin_X2_wayRise
set_option maxRecDepth 20000 in
theorem ggX2_begin_X2_followWays : GoodIn wsX2_begin wsX2_followWays := goodIn_r _ [72, 18, 68, 73, 74, 75, 76, 39, 77, 78, 79, 80, 47, 81, 82, 83, 84, 85, 86, 87, 49, 88, 50, 89, 90, 91, 92, 93, 94, 135, 136, 137, 138, 139, 140, 141, 142, 143, 144, 145, 128, 129, 130, 131, 132, 133, 134, 146, 147, 148, 149, 150, 151, 152, 153, 154, 155] (by decide +kernel) (by decide +kernel)
set_option maxRecDepth 20000 in
theorem gX2_begin_X2_followWays : GoodIn wsX2_begin (wsV RX2 222 RX2 yX2_followWays wsX2_followWays) := goodIn_app (goodIn_of _ (by decide +kernel)) ggX2_begin_X2_followWays
set_option maxRecDepth 20000 in
theorem ggX2_begin_X2_lookAtSlew : GoodIn wsX2_begin wsX2_lookAtSlew := goodIn_r _ [98, 11, 6, 8, 18, 99, 100, 101, 102, 103, 15, 104, 20, 105, 106, 107, 108, 109, 110, 111, 112, 113, 114, 115, 116, 117, 118, 119, 120, 121, 122, 123, 124, 125, 126, 127, 135, 136, 137, 138, 139, 140, 141, 142, 143, 144, 145, 146, 147, 148, 149, 150, 151, 152, 153, 154, 155] (by decide +kernel) (by decide +kernel)
set_option maxRecDepth 20000 in
theorem gX2_begin_X2_lookAtSlew : GoodIn wsX2_begin (wsV RX2 203 RX2 yX2_lookAtSlew wsX2_lookAtSlew) := goodIn_app (goodIn_of _ (by decide +kernel)) ggX2_begin_X2_lookAtSlew
theorem dX2_begin_0 : decode cX2_begin 0 = .ok (.aload_n 0, 1) := by decide +kernel
theorem dX2_begin_1 : decode cX2_begin 1 = .ok (.aload_n 1, 1) := by decide +kernel
theorem dX2_begin_2 : decode cX2_begin 2 = .ok (.getfield 138, 3) := by decide +kernel
theorem dX2_begin_5 : decode cX2_begin 5 = .ok (.invokevirtual 164, 3) := by decide +kernel
theorem dX2_begin_8 : decode cX2_begin 8 = .ok (.astore_n 2, 1) := by decide +kernel
theorem dX2_begin_9 : decode cX2_begin 9 = .ok (.aload_n 0, 1) := by decide +kernel
theorem dX2_begin_10 : decode cX2_begin 10 = .ok (.aload_n 1, 1) := by decide +kernel
theorem dX2_begin_11 : decode cX2_begin 11 = .ok (.getfield 140, 3) := by decide +kernel
theorem dX2_begin_14 : decode cX2_begin 14 = .ok (.invokevirtual 160, 3) := by decide +kernel
theorem dX2_begin_17 : decode cX2_begin 17 = .ok (.astore_n 3, 1) := by decide +kernel
theorem dX2_begin_18 : decode cX2_begin 18 = .ok (.aload_n 1, 1) := by decide +kernel
theorem dX2_begin_19 : decode cX2_begin 19 = .ok (.iconst 1, 1) := by decide +kernel
theorem dX2_begin_20 : decode cX2_begin 20 = .ok (.putfield 128, 3) := by decide +kernel
theorem dX2_begin_23 : decode cX2_begin 23 = .ok (.aload_n 1, 1) := by decide +kernel
theorem dX2_begin_24 : decode cX2_begin 24 = .ok (.aload_n 2, 1) := by decide +kernel
theorem dX2_begin_25 : decode cX2_begin 25 = .ok (.getfield 110, 3) := by decide +kernel
theorem dX2_begin_28 : decode cX2_begin 28 = .ok (.putfield 206, 3) := by decide +kernel
theorem dX2_begin_31 : decode cX2_begin 31 = .ok (.aload_n 1, 1) := by decide +kernel
theorem dX2_begin_32 : decode cX2_begin 32 = .ok (.aload_n 0, 1) := by decide +kernel
theorem dX2_begin_33 : decode cX2_begin 33 = .ok (.getfield 50, 3) := by decide +kernel
theorem dX2_begin_36 : decode cX2_begin 36 = .ok (.putfield 219, 3) := by decide +kernel
theorem dX2_begin_39 : decode cX2_begin 39 = .ok (.aload_n 1, 1) := by decide +kernel
theorem dX2_begin_40 : decode cX2_begin 40 = .ok (.aload_n 0, 1) := by decide +kernel
theorem dX2_begin_41 : decode cX2_begin 41 = .ok (.getfield 50, 3) := by decide +kernel
theorem dX2_begin_44 : decode cX2_begin 44 = .ok (.aload_n 0, 1) := by decide +kernel
theorem dX2_begin_45 : decode cX2_begin 45 = .ok (.aload_n 2, 1) := by decide +kernel
theorem dX2_begin_46 : decode cX2_begin 46 = .ok (.aload_n 3, 1) := by decide +kernel
theorem dX2_begin_47 : decode cX2_begin 47 = .ok (.invokevirtual 222, 3) := by decide +kernel
theorem dX2_begin_50 : decode cX2_begin 50 = .ok (.iadd, 1) := by decide +kernel
theorem dX2_begin_51 : decode cX2_begin 51 = .ok (.putfield 190, 3) := by decide +kernel
theorem dX2_begin_54 : decode cX2_begin 54 = .ok (.aload_n 1, 1) := by decide +kernel
theorem dX2_begin_55 : decode cX2_begin 55 = .ok (.aload_n 1, 1) := by decide +kernel
theorem dX2_begin_56 : decode cX2_begin 56 = .ok (.getfield 190, 3) := by decide +kernel
theorem dX2_begin_59 : decode cX2_begin 59 = .ok (.aload_n 1, 1) := by decide +kernel
theorem dX2_begin_60 : decode cX2_begin 60 = .ok (.getfield 148, 3) := by decide +kernel
theorem dX2_begin_63 : decode cX2_begin 63 = .ok (.iadd, 1) := by decide +kernel
theorem dX2_begin_64 : decode cX2_begin 64 = .ok (.putfield 131, 3) := by decide +kernel
theorem dX2_begin_67 : decode cX2_begin 67 = .ok (.aload_n 1, 1) := by decide +kernel
theorem dX2_begin_68 : decode cX2_begin 68 = .ok (.iconst 0, 1) := by decide +kernel
theorem dX2_begin_69 : decode cX2_begin 69 = .ok (.putfield 210, 3) := by decide +kernel
theorem dX2_begin_72 : decode cX2_begin 72 = .ok (.aload_n 0, 1) := by decide +kernel
theorem dX2_begin_73 : decode cX2_begin 73 = .ok (.aload_n 1, 1) := by decide +kernel
theorem dX2_begin_74 : decode cX2_begin 74 = .ok (.invokevirtual 203, 3) := by decide +kernel
theorem dX2_begin_77 : decode cX2_begin 77 = .ok (.return_, 1) := by decide +kernel
theorem dX3_init_0 : decode cX3_init 0 = .ok (.aload_n 0, 1) := by decide +kernel
theorem dX3_init_1 : decode cX3_init 1 = .ok (.invokespecial 3, 3) := by decide +kernel
theorem dX3_init_4 : decode cX3_init 4 = .ok (.aload_n 0, 1) := by decide +kernel
theorem dX3_init_5 : decode cX3_init 5 = .ok (.iconst 4, 1) := by decide +kernel
theorem dX3_init_6 : decode cX3_init 6 = .ok (.putfield 9, 3) := by decide +kernel
theorem dX3_init_9 : decode cX3_init 9 = .ok (.return_, 1) := by decide +kernel
theorem dX3_copyFrom_0 : decode cX3_copyFrom 0 = .ok (.aload_n 0, 1) := by decide +kernel
theorem dX3_copyFrom_1 : decode cX3_copyFrom 1 = .ok (.aload_n 1, 1) := by decide +kernel
theorem dX3_copyFrom_2 : decode cX3_copyFrom 2 = .ok (.getfield 15, 3) := by decide +kernel
theorem dX3_copyFrom_5 : decode cX3_copyFrom 5 = .ok (.putfield 15, 3) := by decide +kernel
theorem dX3_copyFrom_8 : decode cX3_copyFrom 8 = .ok (.aload_n 0, 1) := by decide +kernel
theorem dX3_copyFrom_9 : decode cX3_copyFrom 9 = .ok (.aload_n 1, 1) := by decide +kernel
theorem dX3_copyFrom_10 : decode cX3_copyFrom 10 = .ok (.getfield 18, 3) := by decide +kernel
theorem dX3_copyFrom_13 : decode cX3_copyFrom 13 = .ok (.putfield 18, 3) := by decide +kernel
theorem dX3_copyFrom_16 : decode cX3_copyFrom 16 = .ok (.aload_n 0, 1) := by decide +kernel
theorem dX3_copyFrom_17 : decode cX3_copyFrom 17 = .ok (.aload_n 1, 1) := by decide +kernel
theorem dX3_copyFrom_18 : decode cX3_copyFrom 18 = .ok (.getfield 21, 3) := by decide +kernel
theorem dX3_copyFrom_21 : decode cX3_copyFrom 21 = .ok (.putfield 21, 3) := by decide +kernel
theorem dX3_copyFrom_24 : decode cX3_copyFrom 24 = .ok (.aload_n 0, 1) := by decide +kernel
theorem dX3_copyFrom_25 : decode cX3_copyFrom 25 = .ok (.aload_n 1, 1) := by decide +kernel
theorem dX3_copyFrom_26 : decode cX3_copyFrom 26 = .ok (.getfield 24, 3) := by decide +kernel
theorem dX3_copyFrom_29 : decode cX3_copyFrom 29 = .ok (.putfield 24, 3) := by decide +kernel
theorem dX3_copyFrom_32 : decode cX3_copyFrom 32 = .ok (.aload_n 0, 1) := by decide +kernel
theorem dX3_copyFrom_33 : decode cX3_copyFrom 33 = .ok (.aload_n 1, 1) := by decide +kernel
theorem dX3_copyFrom_34 : decode cX3_copyFrom 34 = .ok (.getfield 27, 3) := by decide +kernel
theorem dX3_copyFrom_37 : decode cX3_copyFrom 37 = .ok (.putfield 27, 3) := by decide +kernel
theorem dX3_copyFrom_40 : decode cX3_copyFrom 40 = .ok (.aload_n 0, 1) := by decide +kernel
theorem dX3_copyFrom_41 : decode cX3_copyFrom 41 = .ok (.aload_n 1, 1) := by decide +kernel
theorem dX3_copyFrom_42 : decode cX3_copyFrom 42 = .ok (.getfield 30, 3) := by decide +kernel
theorem dX3_copyFrom_45 : decode cX3_copyFrom 45 = .ok (.putfield 30, 3) := by decide +kernel
theorem dX3_copyFrom_48 : decode cX3_copyFrom 48 = .ok (.aload_n 0, 1) := by decide +kernel
theorem dX3_copyFrom_49 : decode cX3_copyFrom 49 = .ok (.aload_n 1, 1) := by decide +kernel
theorem dX3_copyFrom_50 : decode cX3_copyFrom 50 = .ok (.getfield 9, 3) := by decide +kernel
theorem dX3_copyFrom_53 : decode cX3_copyFrom 53 = .ok (.putfield 9, 3) := by decide +kernel
theorem dX3_copyFrom_56 : decode cX3_copyFrom 56 = .ok (.aload_n 0, 1) := by decide +kernel
theorem dX3_copyFrom_57 : decode cX3_copyFrom 57 = .ok (.aload_n 1, 1) := by decide +kernel
theorem dX3_copyFrom_58 : decode cX3_copyFrom 58 = .ok (.getfield 33, 3) := by decide +kernel
theorem dX3_copyFrom_61 : decode cX3_copyFrom 61 = .ok (.putfield 33, 3) := by decide +kernel
theorem dX3_copyFrom_64 : decode cX3_copyFrom 64 = .ok (.aload_n 0, 1) := by decide +kernel
theorem dX3_copyFrom_65 : decode cX3_copyFrom 65 = .ok (.aload_n 1, 1) := by decide +kernel
theorem dX3_copyFrom_66 : decode cX3_copyFrom 66 = .ok (.getfield 36, 3) := by decide +kernel
theorem dX3_copyFrom_69 : decode cX3_copyFrom 69 = .ok (.putfield 36, 3) := by decide +kernel
theorem dX3_copyFrom_72 : decode cX3_copyFrom 72 = .ok (.aload_n 0, 1) := by decide +kernel
theorem dX3_copyFrom_73 : decode cX3_copyFrom 73 = .ok (.aload_n 1, 1) := by decide +kernel
theorem dX3_copyFrom_74 : decode cX3_copyFrom 74 = .ok (.getfield 39, 3) := by decide +kernel
theorem dX3_copyFrom_77 : decode cX3_copyFrom 77 = .ok (.putfield 39, 3) := by decide +kernel
theorem dX3_copyFrom_80 : decode cX3_copyFrom 80 = .ok (.aload_n 0, 1) := by decide +kernel
theorem dX3_copyFrom_81 : decode cX3_copyFrom 81 = .ok (.aload_n 1, 1) := by decide +kernel
theorem dX3_copyFrom_82 : decode cX3_copyFrom 82 = .ok (.getfield 42, 3) := by decide +kernel
theorem dX3_copyFrom_85 : decode cX3_copyFrom 85 = .ok (.putfield 42, 3) := by decide +kernel
theorem dX3_copyFrom_88 : decode cX3_copyFrom 88 = .ok (.aload_n 0, 1) := by decide +kernel
theorem dX3_copyFrom_89 : decode cX3_copyFrom 89 = .ok (.aload_n 1, 1) := by decide +kernel
theorem dX3_copyFrom_90 : decode cX3_copyFrom 90 = .ok (.getfield 45, 3) := by decide +kernel
theorem dX3_copyFrom_93 : decode cX3_copyFrom 93 = .ok (.putfield 45, 3) := by decide +kernel
theorem dX3_copyFrom_96 : decode cX3_copyFrom 96 = .ok (.aload_n 0, 1) := by decide +kernel
theorem dX3_copyFrom_97 : decode cX3_copyFrom 97 = .ok (.aload_n 1, 1) := by decide +kernel
theorem dX3_copyFrom_98 : decode cX3_copyFrom 98 = .ok (.getfield 48, 3) := by decide +kernel
theorem dX3_copyFrom_101 : decode cX3_copyFrom 101 = .ok (.putfield 48, 3) := by decide +kernel
theorem dX3_copyFrom_104 : decode cX3_copyFrom 104 = .ok (.aload_n 0, 1) := by decide +kernel
theorem dX3_copyFrom_105 : decode cX3_copyFrom 105 = .ok (.aload_n 1, 1) := by decide +kernel
theorem dX3_copyFrom_106 : decode cX3_copyFrom 106 = .ok (.getfield 51, 3) := by decide +kernel
theorem dX3_copyFrom_109 : decode cX3_copyFrom 109 = .ok (.putfield 51, 3) := by decide +kernel
theorem dX3_copyFrom_112 : decode cX3_copyFrom 112 = .ok (.return_, 1) := by decide +kernel
set_option maxRecDepth 20000 in
theorem ggX3_tell_X3_ifBegun : GoodIn wsX3_tell wsX3_ifBegun := goodIn_r _ [20, 7, 12, 21, 22, 23, 24, 25, 26, 27, 28, 29, 30, 31, 32, 33, 34] (by decide +kernel) (by decide +kernel)
set_option maxRecDepth 20000 in
theorem gX3_tell_X3_ifBegun : GoodIn wsX3_tell (wsV RX3 55 RX3 yX3_ifBegun wsX3_ifBegun) := goodIn_app (goodIn_of _ (by decide +kernel)) ggX3_tell_X3_ifBegun
theorem dX3_tell_0 : decode cX3_tell 0 = .ok (.iload_n 1, 1) := by decide +kernel
theorem dX3_tell_1 : decode cX3_tell 1 = .ok (.tableswitch 161 0 12 #[67, 72, 77, 82, 87, 92, 97, 102, 111, 120, 129, 147, 152], 67) := by decide +kernel
theorem dX3_tell_68 : decode cX3_tell 68 = .ok (.aload_n 0, 1) := by decide +kernel
theorem dX3_tell_69 : decode cX3_tell 69 = .ok (.getfield 15, 3) := by decide +kernel
theorem dX3_tell_72 : decode cX3_tell 72 = .ok (.ireturn, 1) := by decide +kernel
theorem dX3_tell_73 : decode cX3_tell 73 = .ok (.aload_n 0, 1) := by decide +kernel
theorem dX3_tell_74 : decode cX3_tell 74 = .ok (.getfield 18, 3) := by decide +kernel
theorem dX3_tell_77 : decode cX3_tell 77 = .ok (.ireturn, 1) := by decide +kernel
theorem dX3_tell_78 : decode cX3_tell 78 = .ok (.aload_n 0, 1) := by decide +kernel
theorem dX3_tell_79 : decode cX3_tell 79 = .ok (.getfield 21, 3) := by decide +kernel
theorem dX3_tell_82 : decode cX3_tell 82 = .ok (.ireturn, 1) := by decide +kernel
theorem dX3_tell_83 : decode cX3_tell 83 = .ok (.aload_n 0, 1) := by decide +kernel
theorem dX3_tell_84 : decode cX3_tell 84 = .ok (.getfield 24, 3) := by decide +kernel
theorem dX3_tell_87 : decode cX3_tell 87 = .ok (.ireturn, 1) := by decide +kernel
theorem dX3_tell_88 : decode cX3_tell 88 = .ok (.aload_n 0, 1) := by decide +kernel
theorem dX3_tell_89 : decode cX3_tell 89 = .ok (.getfield 27, 3) := by decide +kernel
theorem dX3_tell_92 : decode cX3_tell 92 = .ok (.ireturn, 1) := by decide +kernel
theorem dX3_tell_93 : decode cX3_tell 93 = .ok (.aload_n 0, 1) := by decide +kernel
theorem dX3_tell_94 : decode cX3_tell 94 = .ok (.getfield 30, 3) := by decide +kernel
theorem dX3_tell_97 : decode cX3_tell 97 = .ok (.ireturn, 1) := by decide +kernel
theorem dX3_tell_98 : decode cX3_tell 98 = .ok (.aload_n 0, 1) := by decide +kernel
theorem dX3_tell_99 : decode cX3_tell 99 = .ok (.getfield 9, 3) := by decide +kernel
theorem dX3_tell_102 : decode cX3_tell 102 = .ok (.ireturn, 1) := by decide +kernel
theorem dX3_tell_103 : decode cX3_tell 103 = .ok (.aload_n 0, 1) := by decide +kernel
theorem dX3_tell_104 : decode cX3_tell 104 = .ok (.aload_n 0, 1) := by decide +kernel
theorem dX3_tell_105 : decode cX3_tell 105 = .ok (.getfield 33, 3) := by decide +kernel
theorem dX3_tell_108 : decode cX3_tell 108 = .ok (.invokevirtual 55, 3) := by decide +kernel
theorem dX3_tell_111 : decode cX3_tell 111 = .ok (.ireturn, 1) := by decide +kernel
theorem dX3_tell_112 : decode cX3_tell 112 = .ok (.aload_n 0, 1) := by decide +kernel
theorem dX3_tell_113 : decode cX3_tell 113 = .ok (.aload_n 0, 1) := by decide +kernel
theorem dX3_tell_114 : decode cX3_tell 114 = .ok (.getfield 36, 3) := by decide +kernel
theorem dX3_tell_117 : decode cX3_tell 117 = .ok (.invokevirtual 55, 3) := by decide +kernel
theorem dX3_tell_120 : decode cX3_tell 120 = .ok (.ireturn, 1) := by decide +kernel
theorem dX3_tell_121 : decode cX3_tell 121 = .ok (.aload_n 0, 1) := by decide +kernel
theorem dX3_tell_122 : decode cX3_tell 122 = .ok (.aload_n 0, 1) := by decide +kernel
theorem dX3_tell_123 : decode cX3_tell 123 = .ok (.getfield 39, 3) := by decide +kernel
theorem dX3_tell_126 : decode cX3_tell 126 = .ok (.invokevirtual 55, 3) := by decide +kernel
theorem dX3_tell_129 : decode cX3_tell 129 = .ok (.ireturn, 1) := by decide +kernel
theorem dX3_tell_130 : decode cX3_tell 130 = .ok (.aload_n 0, 1) := by decide +kernel
theorem dX3_tell_131 : decode cX3_tell 131 = .ok (.getfield 9, 3) := by decide +kernel
theorem dX3_tell_134 : decode cX3_tell 134 = .ok (.iconst 2, 1) := by decide +kernel
theorem dX3_tell_135 : decode cX3_tell 135 = .ok (.if_icmp .ne 10, 3) := by decide +kernel
theorem dX3_tell_138 : decode cX3_tell 138 = .ok (.aload_n 0, 1) := by decide +kernel
theorem dX3_tell_139 : decode cX3_tell 139 = .ok (.getfield 42, 3) := by decide +kernel
theorem dX3_tell_142 : decode cX3_tell 142 = .ok (.goto 5, 3) := by decide +kernel
theorem dX3_tell_145 : decode cX3_tell 145 = .ok (.ldc 59, 2) := by decide +kernel
theorem dX3_tell_147 : decode cX3_tell 147 = .ok (.ireturn, 1) := by decide +kernel
theorem dX3_tell_148 : decode cX3_tell 148 = .ok (.aload_n 0, 1) := by decide +kernel
theorem dX3_tell_149 : decode cX3_tell 149 = .ok (.getfield 45, 3) := by decide +kernel
theorem dX3_tell_152 : decode cX3_tell 152 = .ok (.ireturn, 1) := by decide +kernel
theorem dX3_tell_153 : decode cX3_tell 153 = .ok (.aload_n 0, 1) := by decide +kernel
theorem dX3_tell_154 : decode cX3_tell 154 = .ok (.aload_n 0, 1) := by decide +kernel
theorem dX3_tell_155 : decode cX3_tell 155 = .ok (.getfield 48, 3) := by decide +kernel
theorem dX3_tell_158 : decode cX3_tell 158 = .ok (.invokevirtual 55, 3) := by decide +kernel
theorem dX3_tell_161 : decode cX3_tell 161 = .ok (.ireturn, 1) := by decide +kernel
theorem dX3_tell_162 : decode cX3_tell 162 = .ok (.ldc 60, 2) := by decide +kernel
theorem dX3_tell_164 : decode cX3_tell 164 = .ok (.ireturn, 1) := by decide +kernel
theorem dX3_ifBegun_0 : decode cX3_ifBegun 0 = .ok (.aload_n 0, 1) := by decide +kernel
theorem dX3_ifBegun_1 : decode cX3_ifBegun 1 = .ok (.getfield 9, 3) := by decide +kernel
theorem dX3_ifBegun_4 : decode cX3_ifBegun 4 = .ok (.iconst 1, 1) := by decide +kernel
theorem dX3_ifBegun_5 : decode cX3_ifBegun 5 = .ok (.if_icmp .eq 11, 3) := by decide +kernel
theorem dX3_ifBegun_8 : decode cX3_ifBegun 8 = .ok (.aload_n 0, 1) := by decide +kernel
theorem dX3_ifBegun_9 : decode cX3_ifBegun 9 = .ok (.getfield 9, 3) := by decide +kernel
theorem dX3_ifBegun_12 : decode cX3_ifBegun 12 = .ok (.iconst 2, 1) := by decide +kernel
theorem dX3_ifBegun_13 : decode cX3_ifBegun 13 = .ok (.if_icmp .ne 7, 3) := by decide +kernel
theorem dX3_ifBegun_16 : decode cX3_ifBegun 16 = .ok (.iload_n 1, 1) := by decide +kernel
theorem dX3_ifBegun_17 : decode cX3_ifBegun 17 = .ok (.goto 5, 3) := by decide +kernel
theorem dX3_ifBegun_20 : decode cX3_ifBegun 20 = .ok (.ldc 59, 2) := by decide +kernel
theorem dX3_ifBegun_22 : decode cX3_ifBegun 22 = .ok (.ireturn, 1) := by decide +kernel
theorem dX3_isBetterThan_0 : decode cX3_isBetterThan 0 = .ok (.aload_n 0, 1) := by decide +kernel
theorem dX3_isBetterThan_1 : decode cX3_isBetterThan 1 = .ok (.getfield 30, 3) := by decide +kernel
theorem dX3_isBetterThan_4 : decode cX3_isBetterThan 4 = .ok (.aload_n 1, 1) := by decide +kernel
theorem dX3_isBetterThan_5 : decode cX3_isBetterThan 5 = .ok (.getfield 30, 3) := by decide +kernel
theorem dX3_isBetterThan_8 : decode cX3_isBetterThan 8 = .ok (.if_icmp .eq 20, 3) := by decide +kernel
theorem dX3_isBetterThan_11 : decode cX3_isBetterThan 11 = .ok (.aload_n 0, 1) := by decide +kernel
theorem dX3_isBetterThan_12 : decode cX3_isBetterThan 12 = .ok (.getfield 30, 3) := by decide +kernel
theorem dX3_isBetterThan_15 : decode cX3_isBetterThan 15 = .ok (.aload_n 1, 1) := by decide +kernel
theorem dX3_isBetterThan_16 : decode cX3_isBetterThan 16 = .ok (.getfield 30, 3) := by decide +kernel
theorem dX3_isBetterThan_19 : decode cX3_isBetterThan 19 = .ok (.if_icmp .le 7, 3) := by decide +kernel
theorem dX3_isBetterThan_22 : decode cX3_isBetterThan 22 = .ok (.iconst 1, 1) := by decide +kernel
theorem dX3_isBetterThan_23 : decode cX3_isBetterThan 23 = .ok (.goto 4, 3) := by decide +kernel
theorem dX3_isBetterThan_26 : decode cX3_isBetterThan 26 = .ok (.iconst 0, 1) := by decide +kernel
theorem dX3_isBetterThan_27 : decode cX3_isBetterThan 27 = .ok (.ireturn, 1) := by decide +kernel
theorem dX3_isBetterThan_28 : decode cX3_isBetterThan 28 = .ok (.aload_n 0, 1) := by decide +kernel
theorem dX3_isBetterThan_29 : decode cX3_isBetterThan 29 = .ok (.getfield 24, 3) := by decide +kernel
theorem dX3_isBetterThan_32 : decode cX3_isBetterThan 32 = .ok (.aload_n 1, 1) := by decide +kernel
theorem dX3_isBetterThan_33 : decode cX3_isBetterThan 33 = .ok (.getfield 24, 3) := by decide +kernel
theorem dX3_isBetterThan_36 : decode cX3_isBetterThan 36 = .ok (.if_icmp .ge 7, 3) := by decide +kernel
theorem dX3_isBetterThan_39 : decode cX3_isBetterThan 39 = .ok (.iconst 1, 1) := by decide +kernel
theorem dX3_isBetterThan_40 : decode cX3_isBetterThan 40 = .ok (.goto 4, 3) := by decide +kernel
theorem dX3_isBetterThan_43 : decode cX3_isBetterThan 43 = .ok (.iconst 0, 1) := by decide +kernel
theorem dX3_isBetterThan_44 : decode cX3_isBetterThan 44 = .ok (.ireturn, 1) := by decide +kernel
theorem dX4_init_0 : decode cX4_init 0 = .ok (.aload_n 0, 1) := by decide +kernel
theorem dX4_init_1 : decode cX4_init 1 = .ok (.invokespecial 3, 3) := by decide +kernel
theorem dX4_init_4 : decode cX4_init 4 = .ok (.aload_n 0, 1) := by decide +kernel
theorem dX4_init_5 : decode cX4_init 5 = .ok (.bipush 100, 2) := by decide +kernel
theorem dX4_init_7 : decode cX4_init 7 = .ok (.newarray .char, 2) := by decide +kernel
theorem dX4_init_9 : decode cX4_init 9 = .ok (.putfield 9, 3) := by decide +kernel
theorem dX4_init_12 : decode cX4_init 12 = .ok (.aload_n 0, 1) := by decide +kernel
theorem dX4_init_13 : decode cX4_init 13 = .ok (.bipush 6, 2) := by decide +kernel
theorem dX4_init_15 : decode cX4_init 15 = .ok (.newarray .int, 2) := by decide +kernel
theorem dX4_init_17 : decode cX4_init 17 = .ok (.putfield 15, 3) := by decide +kernel
theorem dX4_init_20 : decode cX4_init 20 = .ok (.return_, 1) := by decide +kernel
theorem dX5_init_0 : decode cX5_init 0 = .ok (.aload_n 0, 1) := by decide +kernel
theorem dX5_init_1 : decode cX5_init 1 = .ok (.invokespecial 3, 3) := by decide +kernel
theorem dX5_init_4 : decode cX5_init 4 = .ok (.return_, 1) := by decide +kernel
set_option maxRecDepth 20000 in
theorem ggX5_plan_X0_dish : GoodIn wsX5_plan wsX0_dish := goodIn_r _ [21, 22, 23, 37, 38, 39, 40, 41, 42, 43, 44, 45, 46] (by decide +kernel) (by decide +kernel)
set_option maxRecDepth 20000 in
theorem gX5_plan_X0_dish : GoodIn wsX5_plan (wsV RX5 9 RX0 yX0_dish wsX0_dish) := goodIn_app (goodIn_of _ (by decide +kernel)) ggX5_plan_X0_dish
set_option maxRecDepth 20000 in
theorem ggX5_plan_X0_reaches : GoodIn wsX5_plan wsX0_reaches := goodIn_r _ [27, 28, 29, 37, 38, 39, 40, 41, 42, 43, 44, 45, 46] (by decide +kernel) (by decide +kernel)
set_option maxRecDepth 20000 in
theorem gX5_plan_X0_reaches : GoodIn wsX5_plan (wsV RX5 43 RX0 yX0_reaches wsX0_reaches) := goodIn_app (goodIn_of _ (by decide +kernel)) ggX5_plan_X0_reaches
theorem dX5_plan_0 : decode cX5_plan 0 = .ok (.aload_n 1, 1) := by decide +kernel
theorem dX5_plan_1 : decode cX5_plan 1 = .ok (.invokevirtual 9, 3) := by decide +kernel
theorem dX5_plan_4 : decode cX5_plan 4 = .ok (.istore 4, 2) := by decide +kernel
theorem dX5_plan_6 : decode cX5_plan 6 = .ok (.aload_n 0, 1) := by decide +kernel
theorem dX5_plan_7 : decode cX5_plan 7 = .ok (.iload_n 2, 1) := by decide +kernel
theorem dX5_plan_8 : decode cX5_plan 8 = .ok (.putfield 15, 3) := by decide +kernel
theorem dX5_plan_11 : decode cX5_plan 11 = .ok (.aload_n 1, 1) := by decide +kernel
theorem dX5_plan_12 : decode cX5_plan 12 = .ok (.getfield 21, 3) := by decide +kernel
theorem dX5_plan_15 : decode cX5_plan 15 = .ok (.lookupswitch 149 #[(1, 25), (2, 89)], 25) := by decide +kernel
theorem dX5_plan_40 : decode cX5_plan 40 = .ok (.iload 4, 2) := by decide +kernel
theorem dX5_plan_42 : decode cX5_plan 42 = .ok (.iload_n 2, 1) := by decide +kernel
theorem dX5_plan_43 : decode cX5_plan 43 = .ok (.if_icmp .ne 18, 3) := by decide +kernel
theorem dX5_plan_46 : decode cX5_plan 46 = .ok (.aload_n 1, 1) := by decide +kernel
theorem dX5_plan_47 : decode cX5_plan 47 = .ok (.getfield 24, 3) := by decide +kernel
theorem dX5_plan_50 : decode cX5_plan 50 = .ok (.aload_n 1, 1) := by decide +kernel
theorem dX5_plan_51 : decode cX5_plan 51 = .ok (.getfield 27, 3) := by decide +kernel
theorem dX5_plan_54 : decode cX5_plan 54 = .ok (.if_icmp .ne 7, 3) := by decide +kernel
theorem dX5_plan_57 : decode cX5_plan 57 = .ok (.iconst 1, 1) := by decide +kernel
theorem dX5_plan_58 : decode cX5_plan 58 = .ok (.goto 4, 3) := by decide +kernel
theorem dX5_plan_61 : decode cX5_plan 61 = .ok (.iconst 0, 1) := by decide +kernel
theorem dX5_plan_62 : decode cX5_plan 62 = .ok (.istore 5, 2) := by decide +kernel
theorem dX5_plan_64 : decode cX5_plan 64 = .ok (.aload_n 0, 1) := by decide +kernel
theorem dX5_plan_65 : decode cX5_plan 65 = .ok (.iload 4, 2) := by decide +kernel
theorem dX5_plan_67 : decode cX5_plan 67 = .ok (.iload_n 2, 1) := by decide +kernel
theorem dX5_plan_68 : decode cX5_plan 68 = .ok (.if_icmp .lt 12, 3) := by decide +kernel
theorem dX5_plan_71 : decode cX5_plan 71 = .ok (.iload 5, 2) := by decide +kernel
theorem dX5_plan_73 : decode cX5_plan 73 = .ok (.ifCond .ne 7, 3) := by decide +kernel
theorem dX5_plan_76 : decode cX5_plan 76 = .ok (.iconst 1, 1) := by decide +kernel
theorem dX5_plan_77 : decode cX5_plan 77 = .ok (.goto 4, 3) := by decide +kernel
theorem dX5_plan_80 : decode cX5_plan 80 = .ok (.iconst 0, 1) := by decide +kernel
theorem dX5_plan_81 : decode cX5_plan 81 = .ok (.putfield 30, 3) := by decide +kernel
theorem dX5_plan_84 : decode cX5_plan 84 = .ok (.aload_n 0, 1) := by decide +kernel
theorem dX5_plan_85 : decode cX5_plan 85 = .ok (.iload_n 2, 1) := by decide +kernel
theorem dX5_plan_86 : decode cX5_plan 86 = .ok (.iload_n 3, 1) := by decide +kernel
theorem dX5_plan_87 : decode cX5_plan 87 = .ok (.isub, 1) := by decide +kernel
theorem dX5_plan_88 : decode cX5_plan 88 = .ok (.putfield 34, 3) := by decide +kernel
theorem dX5_plan_91 : decode cX5_plan 91 = .ok (.aload_n 0, 1) := by decide +kernel
theorem dX5_plan_92 : decode cX5_plan 92 = .ok (.iload_n 2, 1) := by decide +kernel
theorem dX5_plan_93 : decode cX5_plan 93 = .ok (.aload_n 1, 1) := by decide +kernel
theorem dX5_plan_94 : decode cX5_plan 94 = .ok (.getfield 27, 3) := by decide +kernel
theorem dX5_plan_97 : decode cX5_plan 97 = .ok (.iadd, 1) := by decide +kernel
theorem dX5_plan_98 : decode cX5_plan 98 = .ok (.putfield 37, 3) := by decide +kernel
theorem dX5_plan_101 : decode cX5_plan 101 = .ok (.goto 101, 3) := by decide +kernel
theorem dX5_plan_104 : decode cX5_plan 104 = .ok (.iload 4, 2) := by decide +kernel
theorem dX5_plan_106 : decode cX5_plan 106 = .ok (.iload_n 2, 1) := by decide +kernel
theorem dX5_plan_107 : decode cX5_plan 107 = .ok (.if_icmp .ne 14, 3) := by decide +kernel
theorem dX5_plan_110 : decode cX5_plan 110 = .ok (.aload_n 1, 1) := by decide +kernel
theorem dX5_plan_111 : decode cX5_plan 111 = .ok (.getfield 24, 3) := by decide +kernel
theorem dX5_plan_114 : decode cX5_plan 114 = .ok (.ifCond .ne 7, 3) := by decide +kernel
theorem dX5_plan_117 : decode cX5_plan 117 = .ok (.iconst 1, 1) := by decide +kernel
theorem dX5_plan_118 : decode cX5_plan 118 = .ok (.goto 4, 3) := by decide +kernel
theorem dX5_plan_121 : decode cX5_plan 121 = .ok (.iconst 0, 1) := by decide +kernel
theorem dX5_plan_122 : decode cX5_plan 122 = .ok (.istore 5, 2) := by decide +kernel
theorem dX5_plan_124 : decode cX5_plan 124 = .ok (.aload_n 0, 1) := by decide +kernel
theorem dX5_plan_125 : decode cX5_plan 125 = .ok (.iload 4, 2) := by decide +kernel
theorem dX5_plan_127 : decode cX5_plan 127 = .ok (.iload_n 2, 1) := by decide +kernel
theorem dX5_plan_128 : decode cX5_plan 128 = .ok (.if_icmp .gt 12, 3) := by decide +kernel
theorem dX5_plan_131 : decode cX5_plan 131 = .ok (.iload 5, 2) := by decide +kernel
theorem dX5_plan_133 : decode cX5_plan 133 = .ok (.ifCond .ne 7, 3) := by decide +kernel
theorem dX5_plan_136 : decode cX5_plan 136 = .ok (.iconst 1, 1) := by decide +kernel
theorem dX5_plan_137 : decode cX5_plan 137 = .ok (.goto 4, 3) := by decide +kernel
theorem dX5_plan_140 : decode cX5_plan 140 = .ok (.iconst 0, 1) := by decide +kernel
theorem dX5_plan_141 : decode cX5_plan 141 = .ok (.putfield 30, 3) := by decide +kernel
theorem dX5_plan_144 : decode cX5_plan 144 = .ok (.aload_n 0, 1) := by decide +kernel
theorem dX5_plan_145 : decode cX5_plan 145 = .ok (.iload_n 2, 1) := by decide +kernel
theorem dX5_plan_146 : decode cX5_plan 146 = .ok (.aload_n 1, 1) := by decide +kernel
theorem dX5_plan_147 : decode cX5_plan 147 = .ok (.getfield 27, 3) := by decide +kernel
theorem dX5_plan_150 : decode cX5_plan 150 = .ok (.iadd, 1) := by decide +kernel
theorem dX5_plan_151 : decode cX5_plan 151 = .ok (.iload_n 3, 1) := by decide +kernel
theorem dX5_plan_152 : decode cX5_plan 152 = .ok (.iadd, 1) := by decide +kernel
theorem dX5_plan_153 : decode cX5_plan 153 = .ok (.putfield 34, 3) := by decide +kernel
theorem dX5_plan_156 : decode cX5_plan 156 = .ok (.aload_n 0, 1) := by decide +kernel
theorem dX5_plan_157 : decode cX5_plan 157 = .ok (.iload_n 2, 1) := by decide +kernel
theorem dX5_plan_158 : decode cX5_plan 158 = .ok (.putfield 37, 3) := by decide +kernel
theorem dX5_plan_161 : decode cX5_plan 161 = .ok (.goto 41, 3) := by decide +kernel
theorem dX5_plan_164 : decode cX5_plan 164 = .ok (.iload 4, 2) := by decide +kernel
theorem dX5_plan_166 : decode cX5_plan 166 = .ok (.iload_n 2, 1) := by decide +kernel
theorem dX5_plan_167 : decode cX5_plan 167 = .ok (.if_icmp .ne 7, 3) := by decide +kernel
theorem dX5_plan_170 : decode cX5_plan 170 = .ok (.iconst 1, 1) := by decide +kernel
theorem dX5_plan_171 : decode cX5_plan 171 = .ok (.goto 4, 3) := by decide +kernel
theorem dX5_plan_174 : decode cX5_plan 174 = .ok (.iconst 0, 1) := by decide +kernel
theorem dX5_plan_175 : decode cX5_plan 175 = .ok (.istore 5, 2) := by decide +kernel
theorem dX5_plan_177 : decode cX5_plan 177 = .ok (.aload_n 0, 1) := by decide +kernel
theorem dX5_plan_178 : decode cX5_plan 178 = .ok (.iconst 0, 1) := by decide +kernel
theorem dX5_plan_179 : decode cX5_plan 179 = .ok (.putfield 30, 3) := by decide +kernel
theorem dX5_plan_182 : decode cX5_plan 182 = .ok (.aload_n 0, 1) := by decide +kernel
theorem dX5_plan_183 : decode cX5_plan 183 = .ok (.iload 4, 2) := by decide +kernel
theorem dX5_plan_185 : decode cX5_plan 185 = .ok (.iload_n 2, 1) := by decide +kernel
theorem dX5_plan_186 : decode cX5_plan 186 = .ok (.if_icmp .ge 12, 3) := by decide +kernel
theorem dX5_plan_189 : decode cX5_plan 189 = .ok (.iload_n 2, 1) := by decide +kernel
theorem dX5_plan_190 : decode cX5_plan 190 = .ok (.aload_n 1, 1) := by decide +kernel
theorem dX5_plan_191 : decode cX5_plan 191 = .ok (.getfield 27, 3) := by decide +kernel
theorem dX5_plan_194 : decode cX5_plan 194 = .ok (.iadd, 1) := by decide +kernel
theorem dX5_plan_195 : decode cX5_plan 195 = .ok (.goto 4, 3) := by decide +kernel
theorem dX5_plan_198 : decode cX5_plan 198 = .ok (.iload_n 2, 1) := by decide +kernel
theorem dX5_plan_199 : decode cX5_plan 199 = .ok (.putfield 37, 3) := by decide +kernel
theorem dX5_plan_202 : decode cX5_plan 202 = .ok (.iload 5, 2) := by decide +kernel
theorem dX5_plan_204 : decode cX5_plan 204 = .ok (.ifCond .eq 11, 3) := by decide +kernel
theorem dX5_plan_207 : decode cX5_plan 207 = .ok (.aload_n 0, 1) := by decide +kernel
theorem dX5_plan_208 : decode cX5_plan 208 = .ok (.aload_n 1, 1) := by decide +kernel
theorem dX5_plan_209 : decode cX5_plan 209 = .ok (.getfield 40, 3) := by decide +kernel
theorem dX5_plan_212 : decode cX5_plan 212 = .ok (.putfield 37, 3) := by decide +kernel
theorem dX5_plan_215 : decode cX5_plan 215 = .ok (.aload_n 0, 1) := by decide +kernel
theorem dX5_plan_216 : decode cX5_plan 216 = .ok (.getfield 30, 3) := by decide +kernel
theorem dX5_plan_219 : decode cX5_plan 219 = .ok (.ifCond .ne 11, 3) := by decide +kernel
theorem dX5_plan_222 : decode cX5_plan 222 = .ok (.aload_n 0, 1) := by decide +kernel
theorem dX5_plan_223 : decode cX5_plan 223 = .ok (.aload_n 1, 1) := by decide +kernel
theorem dX5_plan_224 : decode cX5_plan 224 = .ok (.getfield 40, 3) := by decide +kernel
theorem dX5_plan_227 : decode cX5_plan 227 = .ok (.putfield 34, 3) := by decide +kernel
theorem dX5_plan_230 : decode cX5_plan 230 = .ok (.aload_n 0, 1) := by decide +kernel
theorem dX5_plan_231 : decode cX5_plan 231 = .ok (.aload_n 1, 1) := by decide +kernel
theorem dX5_plan_232 : decode cX5_plan 232 = .ok (.aload_n 0, 1) := by decide +kernel
theorem dX5_plan_233 : decode cX5_plan 233 = .ok (.getfield 34, 3) := by decide +kernel
theorem dX5_plan_236 : decode cX5_plan 236 = .ok (.invokevirtual 43, 3) := by decide +kernel
theorem dX5_plan_239 : decode cX5_plan 239 = .ok (.ifCond .eq 18, 3) := by decide +kernel
theorem dX5_plan_242 : decode cX5_plan 242 = .ok (.aload_n 1, 1) := by decide +kernel
theorem dX5_plan_243 : decode cX5_plan 243 = .ok (.aload_n 0, 1) := by decide +kernel
theorem dX5_plan_244 : decode cX5_plan 244 = .ok (.getfield 37, 3) := by decide +kernel
theorem dX5_plan_247 : decode cX5_plan 247 = .ok (.invokevirtual 43, 3) := by decide +kernel
theorem dX5_plan_250 : decode cX5_plan 250 = .ok (.ifCond .eq 7, 3) := by decide +kernel
theorem dX5_plan_253 : decode cX5_plan 253 = .ok (.iconst 1, 1) := by decide +kernel
theorem dX5_plan_254 : decode cX5_plan 254 = .ok (.goto 4, 3) := by decide +kernel
theorem dX5_plan_257 : decode cX5_plan 257 = .ok (.iconst 0, 1) := by decide +kernel
theorem dX5_plan_258 : decode cX5_plan 258 = .ok (.putfield 47, 3) := by decide +kernel
theorem dX5_plan_261 : decode cX5_plan 261 = .ok (.aload_n 0, 1) := by decide +kernel
theorem dX5_plan_262 : decode cX5_plan 262 = .ok (.aload_n 0, 1) := by decide +kernel
theorem dX5_plan_263 : decode cX5_plan 263 = .ok (.getfield 34, 3) := by decide +kernel
theorem dX5_plan_266 : decode cX5_plan 266 = .ok (.aload_n 1, 1) := by decide +kernel
theorem dX5_plan_267 : decode cX5_plan 267 = .ok (.getfield 40, 3) := by decide +kernel
theorem dX5_plan_270 : decode cX5_plan 270 = .ok (.isub, 1) := by decide +kernel
theorem dX5_plan_271 : decode cX5_plan 271 = .ok (.invokestatic 50, 3) := by decide +kernel
theorem dX5_plan_274 : decode cX5_plan 274 = .ok (.aload_n 0, 1) := by decide +kernel
theorem dX5_plan_275 : decode cX5_plan 275 = .ok (.getfield 37, 3) := by decide +kernel
theorem dX5_plan_278 : decode cX5_plan 278 = .ok (.aload_n 0, 1) := by decide +kernel
theorem dX5_plan_279 : decode cX5_plan 279 = .ok (.getfield 34, 3) := by decide +kernel
theorem dX5_plan_282 : decode cX5_plan 282 = .ok (.isub, 1) := by decide +kernel
theorem dX5_plan_283 : decode cX5_plan 283 = .ok (.invokestatic 50, 3) := by decide +kernel
theorem dX5_plan_286 : decode cX5_plan 286 = .ok (.iadd, 1) := by decide +kernel
theorem dX5_plan_287 : decode cX5_plan 287 = .ok (.putfield 56, 3) := by decide +kernel
theorem dX5_plan_290 : decode cX5_plan 290 = .ok (.aload_n 0, 1) := by decide +kernel
theorem dX5_plan_291 : decode cX5_plan 291 = .ok (.aload_n 1, 1) := by decide +kernel
theorem dX5_plan_292 : decode cX5_plan 292 = .ok (.getfield 59, 3) := by decide +kernel
theorem dX5_plan_295 : decode cX5_plan 295 = .ok (.ifCond .le 22, 3) := by decide +kernel
theorem dX5_plan_298 : decode cX5_plan 298 = .ok (.aload_n 0, 1) := by decide +kernel
theorem dX5_plan_299 : decode cX5_plan 299 = .ok (.getfield 56, 3) := by decide +kernel
theorem dX5_plan_302 : decode cX5_plan 302 = .ok (.aload_n 1, 1) := by decide +kernel
theorem dX5_plan_303 : decode cX5_plan 303 = .ok (.getfield 59, 3) := by decide +kernel
theorem dX5_plan_306 : decode cX5_plan 306 = .ok (.iadd, 1) := by decide +kernel
theorem dX5_plan_307 : decode cX5_plan 307 = .ok (.iconst 1, 1) := by decide +kernel
theorem dX5_plan_308 : decode cX5_plan 308 = .ok (.isub, 1) := by decide +kernel
theorem dX5_plan_309 : decode cX5_plan 309 = .ok (.aload_n 1, 1) := by decide +kernel
theorem dX5_plan_310 : decode cX5_plan 310 = .ok (.getfield 59, 3) := by decide +kernel
theorem dX5_plan_313 : decode cX5_plan 313 = .ok (.idiv, 1) := by decide +kernel
theorem dX5_plan_314 : decode cX5_plan 314 = .ok (.goto 4, 3) := by decide +kernel
theorem dX5_plan_317 : decode cX5_plan 317 = .ok (.iconst 0, 1) := by decide +kernel
theorem dX5_plan_318 : decode cX5_plan 318 = .ok (.putfield 62, 3) := by decide +kernel
theorem dX5_plan_321 : decode cX5_plan 321 = .ok (.return_, 1) := by decide +kernel

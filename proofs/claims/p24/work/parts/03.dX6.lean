set_option maxRecDepth 20000 in
theorem ggX6_init_X2_init : GoodIn wsX6_init wsX2_init := goodIn_r _ [19, 20, 2, 3, 21, 22, 23, 24, 25, 26, 27, 28, 29, 30, 31, 32, 33, 34, 35, 36, 37, 38, 39, 40, 41, 42, 43, 44, 45, 46, 47, 48, 49, 50, 51, 52, 53, 54, 55, 69, 70, 71, 72, 73, 74, 75, 76, 77, 78, 79, 92, 93, 94, 95, 96, 97, 98, 99, 100, 101, 102, 103, 104, 105, 106, 107, 108, 109, 110, 111, 112, 113, 114, 115, 116, 117, 118, 119, 120, 121, 122] (by decide +kernel) (by decide +kernel)
set_option maxRecDepth 20000 in
theorem gX6_init_X2_init : GoodIn wsX6_init (wsX2_init) := ggX6_init_X2_init
set_option maxRecDepth 20000 in
theorem ggX6_init_X1_init : GoodIn wsX6_init wsX1_init := goodIn_r _ [58, 59, 2, 3, 60, 61, 5, 6, 62, 18, 19, 20, 21, 22, 23, 24, 25, 26, 27, 28, 29, 30, 31, 32, 33, 34, 35, 36, 37, 38, 39, 40, 41, 42, 43, 44, 45, 46, 47, 48, 49, 50, 51, 52, 53, 54, 55, 84, 85, 69, 70, 71, 72, 73, 74, 75, 76, 77, 78, 79, 92, 93, 94, 95, 96, 97, 98, 99, 100, 101, 102, 103, 104, 105, 106, 107, 108, 109, 110, 111, 112, 113, 114, 115, 116, 117, 118, 119, 120, 121, 122] (by decide +kernel) (by decide +kernel)
set_option maxRecDepth 20000 in
theorem gX6_init_X1_init : GoodIn wsX6_init (wsX1_init) := ggX6_init_X1_init
set_option maxRecDepth 20000 in
theorem ggX6_init_X4_init : GoodIn wsX6_init wsX4_init := goodIn_r _ [64, 65, 2, 3, 66, 67, 21, 68, 86, 87, 88, 89, 90, 91] (by decide +kernel) (by decide +kernel)
set_option maxRecDepth 20000 in
theorem gX6_init_X4_init_n28 : GoodIn wsX6_init (wsX4_init) := ggX6_init_X4_init
theorem dX6_init_0 : decode cX6_init 0 = .ok (.aload_n 0, 1) := by decide +kernel
theorem dX6_init_1 : decode cX6_init 1 = .ok (.invokespecial 1, 3) := by decide +kernel
theorem dX6_init_4 : decode cX6_init 4 = .ok (.aload_n 0, 1) := by decide +kernel
theorem dX6_init_5 : decode cX6_init 5 = .ok (.new 7, 3) := by decide +kernel
theorem dX6_init_8 : decode cX6_init 8 = .ok (.dup, 1) := by decide +kernel
theorem dX6_init_9 : decode cX6_init 9 = .ok (.invokespecial 9, 3) := by decide +kernel
theorem dX6_init_12 : decode cX6_init 12 = .ok (.putfield 10, 3) := by decide +kernel
theorem dX6_init_15 : decode cX6_init 15 = .ok (.aload_n 0, 1) := by decide +kernel
theorem dX6_init_16 : decode cX6_init 16 = .ok (.new 7, 3) := by decide +kernel
theorem dX6_init_19 : decode cX6_init 19 = .ok (.dup, 1) := by decide +kernel
theorem dX6_init_20 : decode cX6_init 20 = .ok (.invokespecial 9, 3) := by decide +kernel
theorem dX6_init_23 : decode cX6_init 23 = .ok (.putfield 16, 3) := by decide +kernel
theorem dX6_init_26 : decode cX6_init 26 = .ok (.aload_n 0, 1) := by decide +kernel
theorem dX6_init_27 : decode cX6_init 27 = .ok (.new 19, 3) := by decide +kernel
theorem dX6_init_30 : decode cX6_init 30 = .ok (.dup, 1) := by decide +kernel
theorem dX6_init_31 : decode cX6_init 31 = .ok (.invokespecial 21, 3) := by decide +kernel
theorem dX6_init_34 : decode cX6_init 34 = .ok (.putfield 22, 3) := by decide +kernel
theorem dX6_init_37 : decode cX6_init 37 = .ok (.aload_n 0, 1) := by decide +kernel
theorem dX6_init_38 : decode cX6_init 38 = .ok (.new 26, 3) := by decide +kernel
theorem dX6_init_41 : decode cX6_init 41 = .ok (.dup, 1) := by decide +kernel
theorem dX6_init_42 : decode cX6_init 42 = .ok (.invokespecial 28, 3) := by decide +kernel
theorem dX6_init_45 : decode cX6_init 45 = .ok (.putfield 29, 3) := by decide +kernel
theorem dX6_init_48 : decode cX6_init 48 = .ok (.return_, 1) := by decide +kernel
set_option maxRecDepth 20000 in
theorem ggX6_set_X6_isBetween : GoodIn wsX6_set wsX6_isBetween := goodIn_r _ [8] (by decide +kernel) (by decide +kernel)
set_option maxRecDepth 20000 in
theorem gX6_set_X6_isBetween : GoodIn wsX6_set (va_wsS RX6 37 yX6_isBetween wsX6_isBetween) := goodIn_app (goodIn_of _ (by decide +kernel)) ggX6_set_X6_isBetween
set_option maxRecDepth 20000 in
theorem ggX6_set_X1_record : GoodIn wsX6_set wsX1_record := goodIn_r _ [13, 14, 15, 16, 17, 18, 12, 19, 20, 21, 22, 23, 24, 25, 26, 27, 28, 29, 30, 31, 32, 33, 34, 35, 36, 37, 38, 39, 40, 41, 42, 43, 44, 45, 46, 47, 48, 49, 50, 51, 52, 53, 54, 55, 56, 57, 58, 59, 60, 61, 62, 63, 64, 65, 66, 67, 76, 77, 78, 79, 80, 81, 82, 83, 84, 85, 86, 87, 88, 89, 90, 91, 92, 93, 94, 95, 96, 97, 98, 99, 100, 101, 102, 103, 104, 105, 106, 107, 108, 109, 110, 111, 112] (by decide +kernel) (by decide +kernel)
set_option maxRecDepth 20000 in
theorem gX6_set_X1_record : GoodIn wsX6_set (wsV RX6 42 RX1 yX1_record wsX1_record) := goodIn_app (goodIn_of _ (by decide +kernel)) ggX6_set_X1_record
set_option maxRecDepth 20000 in
theorem ggX6_set_X2_changeSetting : GoodIn wsX6_set wsX2_changeSetting := goodIn_r _ [71, 28, 78, 79, 80, 81, 82, 83, 84, 85, 86, 87, 88] (by decide +kernel) (by decide +kernel)
set_option maxRecDepth 20000 in
theorem gX6_set_X2_changeSetting : GoodIn wsX6_set (wsV RX6 46 RX2 yX2_changeSetting wsX2_changeSetting) := goodIn_app (goodIn_of _ (by decide +kernel)) ggX6_set_X2_changeSetting
theorem dX6_set_0 : decode cX6_set 0 = .ok (.iload_n 1, 1) := by decide +kernel
theorem dX6_set_1 : decode cX6_set 1 = .ok (.iconst 0, 1) := by decide +kernel
theorem dX6_set_2 : decode cX6_set 2 = .ok (.getstatic 33, 3) := by decide +kernel
theorem dX6_set_5 : decode cX6_set 5 = .ok (.arraylength, 1) := by decide +kernel
theorem dX6_set_6 : decode cX6_set 6 = .ok (.iconst 1, 1) := by decide +kernel
theorem dX6_set_7 : decode cX6_set 7 = .ok (.isub, 1) := by decide +kernel
theorem dX6_set_8 : decode cX6_set 8 = .ok (.invokestatic 37, 3) := by decide +kernel
theorem dX6_set_11 : decode cX6_set 11 = .ok (.ifCond .eq 16, 3) := by decide +kernel
theorem dX6_set_14 : decode cX6_set 14 = .ok (.iload_n 2, 1) := by decide +kernel
theorem dX6_set_15 : decode cX6_set 15 = .ok (.iconst 0, 1) := by decide +kernel
theorem dX6_set_16 : decode cX6_set 16 = .ok (.getstatic 33, 3) := by decide +kernel
theorem dX6_set_19 : decode cX6_set 19 = .ok (.iload_n 1, 1) := by decide +kernel
theorem dX6_set_20 : decode cX6_set 20 = .ok (.iaload, 1) := by decide +kernel
theorem dX6_set_21 : decode cX6_set 21 = .ok (.invokestatic 37, 3) := by decide +kernel
theorem dX6_set_24 : decode cX6_set 24 = .ok (.ifCond .ne 6, 3) := by decide +kernel
theorem dX6_set_27 : decode cX6_set 27 = .ok (.ldc 41, 2) := by decide +kernel
theorem dX6_set_29 : decode cX6_set 29 = .ok (.ireturn, 1) := by decide +kernel
theorem dX6_set_30 : decode cX6_set 30 = .ok (.aload_n 0, 1) := by decide +kernel
theorem dX6_set_31 : decode cX6_set 31 = .ok (.getfield 22, 3) := by decide +kernel
theorem dX6_set_34 : decode cX6_set 34 = .ok (.aload_n 0, 1) := by decide +kernel
theorem dX6_set_35 : decode cX6_set 35 = .ok (.getfield 10, 3) := by decide +kernel
theorem dX6_set_38 : decode cX6_set 38 = .ok (.invokevirtual 42, 3) := by decide +kernel
theorem dX6_set_41 : decode cX6_set 41 = .ok (.aload_n 0, 1) := by decide +kernel
theorem dX6_set_42 : decode cX6_set 42 = .ok (.getfield 10, 3) := by decide +kernel
theorem dX6_set_45 : decode cX6_set 45 = .ok (.iload_n 1, 1) := by decide +kernel
theorem dX6_set_46 : decode cX6_set 46 = .ok (.iload_n 2, 1) := by decide +kernel
theorem dX6_set_47 : decode cX6_set 47 = .ok (.invokevirtual 46, 3) := by decide +kernel
theorem dX6_set_50 : decode cX6_set 50 = .ok (.ireturn, 1) := by decide +kernel
set_option maxRecDepth 20000 in
theorem ggX6_setAxis_X6_isBetween : GoodIn wsX6_setAxis wsX6_isBetween := goodIn_r _ [9] (by decide +kernel) (by decide +kernel)
set_option maxRecDepth 20000 in
theorem gX6_setAxis_X6_isBetween : GoodIn wsX6_setAxis (va_wsS RX6 37 yX6_isBetween wsX6_isBetween) := goodIn_app (goodIn_of _ (by decide +kernel)) ggX6_setAxis_X6_isBetween
set_option maxRecDepth 20000 in
theorem ggX6_setAxis_X1_record : GoodIn wsX6_setAxis wsX1_record := goodIn_r _ [14, 15, 16, 17, 18, 19, 13, 20, 21, 22, 23, 24, 25, 26, 27, 28, 29, 30, 31, 32, 33, 34, 35, 36, 37, 38, 39, 40, 41, 42, 43, 44, 45, 46, 47, 48, 49, 50, 51, 52, 53, 54, 55, 56, 57, 58, 59, 60, 61, 62, 63, 64, 65, 66, 67, 68, 95, 96, 97, 98, 99, 100, 101, 102, 103, 104, 105, 106, 107, 108, 109, 110, 111, 112, 113, 114, 115, 116, 117, 118, 119, 120, 121, 122, 123, 124, 125, 126, 127, 128, 129, 130, 131] (by decide +kernel) (by decide +kernel)
set_option maxRecDepth 20000 in
theorem gX6_setAxis_X1_record : GoodIn wsX6_setAxis (wsV RX6 42 RX1 yX1_record wsX1_record) := goodIn_app (goodIn_of _ (by decide +kernel)) ggX6_setAxis_X1_record
set_option maxRecDepth 20000 in
theorem ggX6_setAxis_X2_axisNumber : GoodIn wsX6_setAxis wsX2_axisNumber := goodIn_r _ [72, 35, 36, 97, 98, 99, 100, 101, 102, 103, 104, 105, 106, 107] (by decide +kernel) (by decide +kernel)
set_option maxRecDepth 20000 in
theorem gX6_setAxis_X2_axisNumber : GoodIn wsX6_setAxis (wsV RX6 56 RX2 yX2_axisNumber wsX2_axisNumber) := goodIn_app (goodIn_of _ (by decide +kernel)) ggX6_setAxis_X2_axisNumber
set_option maxRecDepth 20000 in
theorem ggX6_setAxis_X0_change : GoodIn wsX6_setAxis wsX0_change := goodIn_r _ [76, 43, 47, 77, 78, 79, 80, 44, 45, 81, 82, 83, 41, 84, 46, 48, 49, 85, 86, 87, 88, 89, 90, 108, 109, 110, 111, 112, 113, 114, 115, 116, 117] (by decide +kernel) (by decide +kernel)
set_option maxRecDepth 20000 in
theorem gX6_setAxis_X0_change : GoodIn wsX6_setAxis (wsV RX6 60 RX0 yX0_change wsX0_change) := goodIn_app (goodIn_of _ (by decide +kernel)) ggX6_setAxis_X0_change
theorem dX6_setAxis_0 : decode cX6_setAxis 0 = .ok (.iload_n 1, 1) := by decide +kernel
theorem dX6_setAxis_1 : decode cX6_setAxis 1 = .ok (.iconst 0, 1) := by decide +kernel
theorem dX6_setAxis_2 : decode cX6_setAxis 2 = .ok (.iconst 1, 1) := by decide +kernel
theorem dX6_setAxis_3 : decode cX6_setAxis 3 = .ok (.invokestatic 37, 3) := by decide +kernel
theorem dX6_setAxis_6 : decode cX6_setAxis 6 = .ok (.ifCond .eq 34, 3) := by decide +kernel
theorem dX6_setAxis_9 : decode cX6_setAxis 9 = .ok (.iload_n 2, 1) := by decide +kernel
theorem dX6_setAxis_10 : decode cX6_setAxis 10 = .ok (.iconst 0, 1) := by decide +kernel
theorem dX6_setAxis_11 : decode cX6_setAxis 11 = .ok (.getstatic 50, 3) := by decide +kernel
theorem dX6_setAxis_14 : decode cX6_setAxis 14 = .ok (.arraylength, 1) := by decide +kernel
theorem dX6_setAxis_15 : decode cX6_setAxis 15 = .ok (.iconst 1, 1) := by decide +kernel
theorem dX6_setAxis_16 : decode cX6_setAxis 16 = .ok (.isub, 1) := by decide +kernel
theorem dX6_setAxis_17 : decode cX6_setAxis 17 = .ok (.invokestatic 37, 3) := by decide +kernel
theorem dX6_setAxis_20 : decode cX6_setAxis 20 = .ok (.ifCond .eq 20, 3) := by decide +kernel
theorem dX6_setAxis_23 : decode cX6_setAxis 23 = .ok (.iload_n 3, 1) := by decide +kernel
theorem dX6_setAxis_24 : decode cX6_setAxis 24 = .ok (.getstatic 53, 3) := by decide +kernel
theorem dX6_setAxis_27 : decode cX6_setAxis 27 = .ok (.iload_n 2, 1) := by decide +kernel
theorem dX6_setAxis_28 : decode cX6_setAxis 28 = .ok (.iaload, 1) := by decide +kernel
theorem dX6_setAxis_29 : decode cX6_setAxis 29 = .ok (.getstatic 50, 3) := by decide +kernel
theorem dX6_setAxis_32 : decode cX6_setAxis 32 = .ok (.iload_n 2, 1) := by decide +kernel
theorem dX6_setAxis_33 : decode cX6_setAxis 33 = .ok (.iaload, 1) := by decide +kernel
theorem dX6_setAxis_34 : decode cX6_setAxis 34 = .ok (.invokestatic 37, 3) := by decide +kernel
theorem dX6_setAxis_37 : decode cX6_setAxis 37 = .ok (.ifCond .ne 6, 3) := by decide +kernel
theorem dX6_setAxis_40 : decode cX6_setAxis 40 = .ok (.ldc 41, 2) := by decide +kernel
theorem dX6_setAxis_42 : decode cX6_setAxis 42 = .ok (.ireturn, 1) := by decide +kernel
theorem dX6_setAxis_43 : decode cX6_setAxis 43 = .ok (.aload_n 0, 1) := by decide +kernel
theorem dX6_setAxis_44 : decode cX6_setAxis 44 = .ok (.getfield 22, 3) := by decide +kernel
theorem dX6_setAxis_47 : decode cX6_setAxis 47 = .ok (.aload_n 0, 1) := by decide +kernel
theorem dX6_setAxis_48 : decode cX6_setAxis 48 = .ok (.getfield 10, 3) := by decide +kernel
theorem dX6_setAxis_51 : decode cX6_setAxis 51 = .ok (.invokevirtual 42, 3) := by decide +kernel
theorem dX6_setAxis_54 : decode cX6_setAxis 54 = .ok (.aload_n 0, 1) := by decide +kernel
theorem dX6_setAxis_55 : decode cX6_setAxis 55 = .ok (.getfield 10, 3) := by decide +kernel
theorem dX6_setAxis_58 : decode cX6_setAxis 58 = .ok (.iload_n 1, 1) := by decide +kernel
theorem dX6_setAxis_59 : decode cX6_setAxis 59 = .ok (.invokevirtual 56, 3) := by decide +kernel
theorem dX6_setAxis_62 : decode cX6_setAxis 62 = .ok (.iload_n 2, 1) := by decide +kernel
theorem dX6_setAxis_63 : decode cX6_setAxis 63 = .ok (.iload_n 3, 1) := by decide +kernel
theorem dX6_setAxis_64 : decode cX6_setAxis 64 = .ok (.invokevirtual 60, 3) := by decide +kernel
theorem dX6_setAxis_67 : decode cX6_setAxis 67 = .ok (.ireturn, 1) := by decide +kernel
set_option maxRecDepth 20000 in
theorem ggX6_gust_X6_isBetween : GoodIn wsX6_gust wsX6_isBetween := goodIn_r _ [9] (by decide +kernel) (by decide +kernel)
set_option maxRecDepth 20000 in
theorem gX6_gust_X6_isBetween : GoodIn wsX6_gust (va_wsS RX6 37 yX6_isBetween wsX6_isBetween) := goodIn_app (goodIn_of _ (by decide +kernel)) ggX6_gust_X6_isBetween
set_option maxRecDepth 20000 in
theorem ggX6_gust_X1_record : GoodIn wsX6_gust wsX1_record := goodIn_r _ [14, 15, 16, 17, 18, 19, 13, 20, 21, 22, 23, 24, 25, 26, 27, 28, 29, 30, 31, 32, 33, 34, 35, 36, 37, 38, 39, 40, 41, 42, 43, 44, 45, 46, 47, 48, 49, 50, 51, 52, 53, 54, 55, 56, 57, 58, 59, 60, 61, 62, 63, 64, 65, 66, 67, 68, 88, 89, 77, 78, 79, 80, 81, 82, 83, 84, 85, 86, 87, 90, 91, 92, 93, 94, 95, 96, 97, 98, 99, 100, 101, 102, 103, 104, 105, 106, 107, 108, 109, 110, 111, 112, 113] (by decide +kernel) (by decide +kernel)
set_option maxRecDepth 20000 in
theorem gX6_gust_X1_record : GoodIn wsX6_gust (wsV RX6 42 RX1 yX1_record wsX1_record) := goodIn_app (goodIn_of _ (by decide +kernel)) ggX6_gust_X1_record
set_option maxRecDepth 20000 in
theorem ggX6_gust_X2_changeGust : GoodIn wsX6_gust wsX2_changeGust := goodIn_r _ [72, 34, 77, 78, 79, 80, 81, 82, 83, 84, 85, 86, 87] (by decide +kernel) (by decide +kernel)
set_option maxRecDepth 20000 in
theorem gX6_gust_X2_changeGust : GoodIn wsX6_gust (wsV RX6 70 RX2 yX2_changeGust wsX2_changeGust) := goodIn_app (goodIn_of _ (by decide +kernel)) ggX6_gust_X2_changeGust
theorem dX6_gust_0 : decode cX6_gust 0 = .ok (.iload_n 1, 1) := by decide +kernel
theorem dX6_gust_1 : decode cX6_gust 1 = .ok (.iconst 0, 1) := by decide +kernel
theorem dX6_gust_2 : decode cX6_gust 2 = .ok (.bipush 29, 2) := by decide +kernel
theorem dX6_gust_4 : decode cX6_gust 4 = .ok (.invokestatic 37, 3) := by decide +kernel
theorem dX6_gust_7 : decode cX6_gust 7 = .ok (.ifCond .eq 13, 3) := by decide +kernel
theorem dX6_gust_10 : decode cX6_gust 10 = .ok (.iload_n 2, 1) := by decide +kernel
theorem dX6_gust_11 : decode cX6_gust 11 = .ok (.iconst 0, 1) := by decide +kernel
theorem dX6_gust_12 : decode cX6_gust 12 = .ok (.bipush 99, 2) := by decide +kernel
theorem dX6_gust_14 : decode cX6_gust 14 = .ok (.invokestatic 37, 3) := by decide +kernel
theorem dX6_gust_17 : decode cX6_gust 17 = .ok (.ifCond .ne 6, 3) := by decide +kernel
theorem dX6_gust_20 : decode cX6_gust 20 = .ok (.ldc 41, 2) := by decide +kernel
theorem dX6_gust_22 : decode cX6_gust 22 = .ok (.ireturn, 1) := by decide +kernel
theorem dX6_gust_23 : decode cX6_gust 23 = .ok (.iload_n 1, 1) := by decide +kernel
theorem dX6_gust_24 : decode cX6_gust 24 = .ok (.sipush 1440, 3) := by decide +kernel
theorem dX6_gust_27 : decode cX6_gust 27 = .ok (.imul, 1) := by decide +kernel
theorem dX6_gust_28 : decode cX6_gust 28 = .ok (.aload_n 0, 1) := by decide +kernel
theorem dX6_gust_29 : decode cX6_gust 29 = .ok (.getfield 10, 3) := by decide +kernel
theorem dX6_gust_32 : decode cX6_gust 32 = .ok (.getfield 65, 3) := by decide +kernel
theorem dX6_gust_35 : decode cX6_gust 35 = .ok (.if_icmp .ge 6, 3) := by decide +kernel
theorem dX6_gust_38 : decode cX6_gust 38 = .ok (.ldc 69, 2) := by decide +kernel
theorem dX6_gust_40 : decode cX6_gust 40 = .ok (.ireturn, 1) := by decide +kernel
theorem dX6_gust_41 : decode cX6_gust 41 = .ok (.aload_n 0, 1) := by decide +kernel
theorem dX6_gust_42 : decode cX6_gust 42 = .ok (.getfield 22, 3) := by decide +kernel
theorem dX6_gust_45 : decode cX6_gust 45 = .ok (.aload_n 0, 1) := by decide +kernel
theorem dX6_gust_46 : decode cX6_gust 46 = .ok (.getfield 10, 3) := by decide +kernel
theorem dX6_gust_49 : decode cX6_gust 49 = .ok (.invokevirtual 42, 3) := by decide +kernel
theorem dX6_gust_52 : decode cX6_gust 52 = .ok (.aload_n 0, 1) := by decide +kernel
theorem dX6_gust_53 : decode cX6_gust 53 = .ok (.getfield 10, 3) := by decide +kernel
theorem dX6_gust_56 : decode cX6_gust 56 = .ok (.iload_n 1, 1) := by decide +kernel
theorem dX6_gust_57 : decode cX6_gust 57 = .ok (.iload_n 2, 1) := by decide +kernel
theorem dX6_gust_58 : decode cX6_gust 58 = .ok (.invokevirtual 70, 3) := by decide +kernel
theorem dX6_gust_61 : decode cX6_gust 61 = .ok (.ireturn, 1) := by decide +kernel
set_option maxRecDepth 20000 in
theorem ggX6_count_X2_targetsIn : GoodIn wsX6_count wsX2_targetsIn := goodIn_r _ [10, 11, 12, 75, 76, 77, 78, 79, 80, 81, 82, 83, 84, 85, 86, 87, 88, 89, 90, 91, 92, 93, 94, 95, 96, 97, 98, 99] (by decide +kernel) (by decide +kernel)
set_option maxRecDepth 20000 in
theorem gX6_count_X2_targetsIn : GoodIn wsX6_count (wsV RX6 73 RX2 yX2_targetsIn wsX2_targetsIn) := goodIn_app (goodIn_of _ (by decide +kernel)) ggX6_count_X2_targetsIn
set_option maxRecDepth 20000 in
theorem ggX6_count_X2_numberUnderWay : GoodIn wsX6_count wsX2_numberUnderWay := goodIn_r _ [16, 11, 12, 75, 76, 77, 78, 79, 80, 81, 82, 83, 84, 85, 86, 87, 88, 89, 90, 91, 92, 93, 94, 95, 96, 97, 98, 99] (by decide +kernel) (by decide +kernel)
set_option maxRecDepth 20000 in
theorem gX6_count_X2_numberUnderWay : GoodIn wsX6_count (wsV RX6 77 RX2 yX2_numberUnderWay wsX2_numberUnderWay) := goodIn_app (goodIn_of _ (by decide +kernel)) ggX6_count_X2_numberUnderWay
set_option maxRecDepth 20000 in
theorem ggX6_count_X6_foundTarget : GoodIn wsX6_count wsX6_foundTarget := goodIn_r _ [20, 21] (by decide +kernel) (by decide +kernel)
set_option maxRecDepth 20000 in
theorem gX6_count_X6_foundTarget : GoodIn wsX6_count (va_wsS RX6 81 yX6_foundTarget wsX6_foundTarget) := goodIn_app (goodIn_of _ (by decide +kernel)) ggX6_count_X6_foundTarget
set_option maxRecDepth 20000 in
theorem ggX6_count_X2_minutesUntilDone : GoodIn wsX6_count wsX2_minutesUntilDone := goodIn_r _ [25, 11, 12, 26, 27, 28, 75, 76, 77, 78, 79, 80, 81, 82, 83, 84, 85, 86, 87, 88, 89, 90, 91, 92, 93, 94, 95, 96, 97, 98, 99] (by decide +kernel) (by decide +kernel)
set_option maxRecDepth 20000 in
theorem gX6_count_X2_minutesUntilDone : GoodIn wsX6_count (wsV RX6 84 RX2 yX2_minutesUntilDone wsX2_minutesUntilDone) := goodIn_app (goodIn_of _ (by decide +kernel)) ggX6_count_X2_minutesUntilDone
set_option maxRecDepth 20000 in
theorem ggX6_count_X2_tell : GoodIn wsX6_count wsX2_tell := goodIn_r _ [32, 27, 33, 34, 35, 36, 37, 38, 39, 40, 41, 9, 42, 43, 44, 45, 46, 47, 48, 49, 50, 51, 52, 53, 54, 55, 56, 57, 58, 59, 60, 61, 62, 75, 76, 77, 78, 79, 80, 81, 82, 83, 84, 85, 100, 101, 102, 103, 104, 105, 106, 107, 108, 109] (by decide +kernel) (by decide +kernel)
set_option maxRecDepth 20000 in
theorem gX6_count_X2_tell : GoodIn wsX6_count (wsV RX6 93 RX2 yX2_tell wsX2_tell) := goodIn_app (goodIn_of _ (by decide +kernel)) ggX6_count_X2_tell
theorem dX6_count_0 : decode cX6_count 0 = .ok (.iload_n 1, 1) := by decide +kernel
theorem dX6_count_1 : decode cX6_count 1 = .ok (.tableswitch 121 4 11 #[47, 59, 68, 77, 86, 97, 105, 113], 47) := by decide +kernel
theorem dX6_count_48 : decode cX6_count 48 = .ok (.bipush 10, 2) := by decide +kernel
theorem dX6_count_50 : decode cX6_count 50 = .ok (.aload_n 0, 1) := by decide +kernel
theorem dX6_count_51 : decode cX6_count 51 = .ok (.getfield 10, 3) := by decide +kernel
theorem dX6_count_54 : decode cX6_count 54 = .ok (.iconst 4, 1) := by decide +kernel
theorem dX6_count_55 : decode cX6_count 55 = .ok (.invokevirtual 73, 3) := by decide +kernel
theorem dX6_count_58 : decode cX6_count 58 = .ok (.isub, 1) := by decide +kernel
theorem dX6_count_59 : decode cX6_count 59 = .ok (.ireturn, 1) := by decide +kernel
theorem dX6_count_60 : decode cX6_count 60 = .ok (.aload_n 0, 1) := by decide +kernel
theorem dX6_count_61 : decode cX6_count 61 = .ok (.getfield 10, 3) := by decide +kernel
theorem dX6_count_64 : decode cX6_count 64 = .ok (.iconst 0, 1) := by decide +kernel
theorem dX6_count_65 : decode cX6_count 65 = .ok (.invokevirtual 73, 3) := by decide +kernel
theorem dX6_count_68 : decode cX6_count 68 = .ok (.ireturn, 1) := by decide +kernel
theorem dX6_count_69 : decode cX6_count 69 = .ok (.aload_n 0, 1) := by decide +kernel
theorem dX6_count_70 : decode cX6_count 70 = .ok (.getfield 10, 3) := by decide +kernel
theorem dX6_count_73 : decode cX6_count 73 = .ok (.iconst 2, 1) := by decide +kernel
theorem dX6_count_74 : decode cX6_count 74 = .ok (.invokevirtual 73, 3) := by decide +kernel
theorem dX6_count_77 : decode cX6_count 77 = .ok (.ireturn, 1) := by decide +kernel
theorem dX6_count_78 : decode cX6_count 78 = .ok (.aload_n 0, 1) := by decide +kernel
theorem dX6_count_79 : decode cX6_count 79 = .ok (.getfield 10, 3) := by decide +kernel
theorem dX6_count_82 : decode cX6_count 82 = .ok (.iconst 3, 1) := by decide +kernel
theorem dX6_count_83 : decode cX6_count 83 = .ok (.invokevirtual 73, 3) := by decide +kernel
theorem dX6_count_86 : decode cX6_count 86 = .ok (.ireturn, 1) := by decide +kernel
theorem dX6_count_87 : decode cX6_count 87 = .ok (.aload_n 0, 1) := by decide +kernel
theorem dX6_count_88 : decode cX6_count 88 = .ok (.getfield 10, 3) := by decide +kernel
theorem dX6_count_91 : decode cX6_count 91 = .ok (.invokevirtual 77, 3) := by decide +kernel
theorem dX6_count_94 : decode cX6_count 94 = .ok (.invokestatic 81, 3) := by decide +kernel
theorem dX6_count_97 : decode cX6_count 97 = .ok (.ireturn, 1) := by decide +kernel
theorem dX6_count_98 : decode cX6_count 98 = .ok (.aload_n 0, 1) := by decide +kernel
theorem dX6_count_99 : decode cX6_count 99 = .ok (.getfield 10, 3) := by decide +kernel
theorem dX6_count_102 : decode cX6_count 102 = .ok (.invokevirtual 84, 3) := by decide +kernel
theorem dX6_count_105 : decode cX6_count 105 = .ok (.ireturn, 1) := by decide +kernel
theorem dX6_count_106 : decode cX6_count 106 = .ok (.aload_n 0, 1) := by decide +kernel
theorem dX6_count_107 : decode cX6_count 107 = .ok (.getfield 22, 3) := by decide +kernel
theorem dX6_count_110 : decode cX6_count 110 = .ok (.getfield 87, 3) := by decide +kernel
theorem dX6_count_113 : decode cX6_count 113 = .ok (.ireturn, 1) := by decide +kernel
theorem dX6_count_114 : decode cX6_count 114 = .ok (.aload_n 0, 1) := by decide +kernel
theorem dX6_count_115 : decode cX6_count 115 = .ok (.getfield 29, 3) := by decide +kernel
theorem dX6_count_118 : decode cX6_count 118 = .ok (.getfield 90, 3) := by decide +kernel
theorem dX6_count_121 : decode cX6_count 121 = .ok (.ireturn, 1) := by decide +kernel
theorem dX6_count_122 : decode cX6_count 122 = .ok (.aload_n 0, 1) := by decide +kernel
theorem dX6_count_123 : decode cX6_count 123 = .ok (.getfield 10, 3) := by decide +kernel
theorem dX6_count_126 : decode cX6_count 126 = .ok (.iload_n 1, 1) := by decide +kernel
theorem dX6_count_127 : decode cX6_count 127 = .ok (.invokevirtual 93, 3) := by decide +kernel
theorem dX6_count_130 : decode cX6_count 130 = .ok (.ireturn, 1) := by decide +kernel
set_option maxRecDepth 20000 in
theorem ggX6_axis_X6_isBetween : GoodIn wsX6_axis wsX6_isBetween := goodIn_r _ [6] (by decide +kernel) (by decide +kernel)
set_option maxRecDepth 20000 in
theorem gX6_axis_X6_isBetween : GoodIn wsX6_axis (va_wsS RX6 37 yX6_isBetween wsX6_isBetween) := goodIn_app (goodIn_of _ (by decide +kernel)) ggX6_axis_X6_isBetween
set_option maxRecDepth 20000 in
theorem ggX6_axis_X2_axisNumber : GoodIn wsX6_axis wsX2_axisNumber := goodIn_r _ [11, 12, 13, 36, 37, 38, 39, 40, 41, 42, 43, 44, 45, 46] (by decide +kernel) (by decide +kernel)
set_option maxRecDepth 20000 in
theorem gX6_axis_X2_axisNumber : GoodIn wsX6_axis (wsV RX6 56 RX2 yX2_axisNumber wsX2_axisNumber) := goodIn_app (goodIn_of _ (by decide +kernel)) ggX6_axis_X2_axisNumber
set_option maxRecDepth 20000 in
theorem ggX6_axis_X0_tell : GoodIn wsX6_axis wsX0_tell := goodIn_r _ [18, 19, 20, 21, 22, 23, 24, 25, 26, 27, 28, 29, 30, 17, 31, 47, 48, 49, 50, 51, 52, 53, 54, 55, 56] (by decide +kernel) (by decide +kernel)
set_option maxRecDepth 20000 in
theorem gX6_axis_X0_tell : GoodIn wsX6_axis (wsV RX6 96 RX0 yX0_tell wsX0_tell) := goodIn_app (goodIn_of _ (by decide +kernel)) ggX6_axis_X0_tell
theorem dX6_axis_0 : decode cX6_axis 0 = .ok (.iload_n 1, 1) := by decide +kernel
theorem dX6_axis_1 : decode cX6_axis 1 = .ok (.iconst 0, 1) := by decide +kernel
theorem dX6_axis_2 : decode cX6_axis 2 = .ok (.iconst 1, 1) := by decide +kernel
theorem dX6_axis_3 : decode cX6_axis 3 = .ok (.invokestatic 37, 3) := by decide +kernel
theorem dX6_axis_6 : decode cX6_axis 6 = .ok (.ifCond .ne 6, 3) := by decide +kernel
theorem dX6_axis_9 : decode cX6_axis 9 = .ok (.ldc 41, 2) := by decide +kernel
theorem dX6_axis_11 : decode cX6_axis 11 = .ok (.ireturn, 1) := by decide +kernel
theorem dX6_axis_12 : decode cX6_axis 12 = .ok (.aload_n 0, 1) := by decide +kernel
theorem dX6_axis_13 : decode cX6_axis 13 = .ok (.getfield 10, 3) := by decide +kernel
theorem dX6_axis_16 : decode cX6_axis 16 = .ok (.iload_n 1, 1) := by decide +kernel
theorem dX6_axis_17 : decode cX6_axis 17 = .ok (.invokevirtual 56, 3) := by decide +kernel
theorem dX6_axis_20 : decode cX6_axis 20 = .ok (.iload_n 2, 1) := by decide +kernel
theorem dX6_axis_21 : decode cX6_axis 21 = .ok (.invokevirtual 96, 3) := by decide +kernel
theorem dX6_axis_24 : decode cX6_axis 24 = .ok (.ireturn, 1) := by decide +kernel
set_option maxRecDepth 20000 in
theorem ggX6_slew_X6_isBetween : GoodIn wsX6_slew wsX6_isBetween := goodIn_r _ [10] (by decide +kernel) (by decide +kernel)
set_option maxRecDepth 20000 in
theorem gX6_slew_X6_isBetween : GoodIn wsX6_slew (va_wsS RX6 37 yX6_isBetween wsX6_isBetween) := goodIn_app (goodIn_of _ (by decide +kernel)) ggX6_slew_X6_isBetween
set_option maxRecDepth 20000 in
theorem ggX6_slew_X2_numberUnderWay : GoodIn wsX6_slew wsX2_numberUnderWay := goodIn_r _ [15, 16, 17, 171, 172, 173, 174, 175, 176, 177, 178, 179, 180, 181, 182, 183, 184, 185, 186, 187, 188, 189, 190, 191, 192, 193, 194, 195] (by decide +kernel) (by decide +kernel)
set_option maxRecDepth 20000 in
theorem gX6_slew_X2_numberUnderWay : GoodIn wsX6_slew (wsV RX6 77 RX2 yX2_numberUnderWay wsX2_numberUnderWay) := goodIn_app (goodIn_of _ (by decide +kernel)) ggX6_slew_X2_numberUnderWay
set_option maxRecDepth 20000 in
theorem ggX6_slew_X2_kindOfDay : GoodIn wsX6_slew wsX2_kindOfDay := goodIn_r _ [21, 22, 23, 24, 25, 14, 26, 27, 28, 29, 30, 31, 32, 171, 172, 173, 174, 175, 176, 177, 178, 179, 180, 181] (by decide +kernel) (by decide +kernel)
set_option maxRecDepth 20000 in
theorem gX6_slew_X2_kindOfDay : GoodIn wsX6_slew (wsV RX6 117 RX2 yX2_kindOfDay wsX2_kindOfDay) := goodIn_app (goodIn_of _ (by decide +kernel)) ggX6_slew_X2_kindOfDay
set_option maxRecDepth 20000 in
theorem ggX6_slew_X2_wayAround : GoodIn wsX6_slew wsX2_wayAround := goodIn_r _ [36, 37, 38, 39, 22, 40, 41, 42, 43, 44, 45, 46, 47, 48, 49, 50, 51, 52, 53, 54, 55, 56, 57, 58, 59, 60, 61, 62, 63, 64, 65, 66, 67, 68, 69, 70, 71, 72, 73, 74, 75, 76, 77, 78, 14, 79, 80, 81, 82, 171, 172, 173, 174, 175, 176, 177, 178, 179, 180, 181, 164, 165, 166, 167, 168, 169, 170, 196, 197, 198, 199, 200, 201, 202, 203, 204, 205] (by decide +kernel) (by decide +kernel)
set_option maxRecDepth 20000 in
theorem gX6_slew_X2_wayAround : GoodIn wsX6_slew (wsV RX6 105 RX2 yX2_wayAround wsX2_wayAround) := goodIn_app (goodIn_of _ (by decide +kernel)) ggX6_slew_X2_wayAround
set_option maxRecDepth 20000 in
theorem ggX6_slew_X2_wayRise : GoodIn wsX6_slew wsX2_wayRise := goodIn_r _ [86, 87, 88, 22, 42, 43, 44, 45, 46, 47, 48, 49, 50, 51, 52, 53, 54, 55, 56, 57, 58, 59, 60, 61, 62, 63, 64, 65, 66, 67, 68, 69, 70, 71, 72, 73, 74, 75, 171, 172, 173, 174, 175, 176, 177, 178, 179, 180, 181, 164, 165, 166, 167, 168, 169, 170, 196, 197, 198, 199, 200, 201, 202, 203, 204, 205] (by decide +kernel) (by decide +kernel)
set_option maxRecDepth 20000 in
theorem gX6_slew_X2_wayRise : GoodIn wsX6_slew (wsV RX6 120 RX2 yX2_wayRise wsX2_wayRise) := goodIn_app (goodIn_of _ (by decide +kernel)) ggX6_slew_X2_wayRise
set_option maxRecDepth 20000 in
theorem ggX6_slew_X1_record : GoodIn wsX6_slew wsX1_record := goodIn_r _ [93, 94, 95, 96, 97, 98, 92, 99, 100, 101, 102, 14, 103, 32, 104, 105, 22, 106, 107, 108, 109, 27, 38, 88, 16, 110, 111, 112, 66, 113, 114, 115, 116, 68, 69, 117, 118, 119, 120, 121, 122, 123, 124, 125, 126, 127, 128, 129, 130, 131, 132, 133, 134, 135, 136, 137, 206, 207, 171, 172, 173, 174, 175, 176, 177, 178, 179, 180, 181, 196, 197, 198, 199, 200, 201, 202, 203, 204, 205, 182, 183, 184, 185, 186, 187, 188, 189, 190, 191, 192, 193, 194, 195] (by decide +kernel) (by decide +kernel)
set_option maxRecDepth 20000 in
theorem gX6_slew_X1_record : GoodIn wsX6_slew (wsV RX6 42 RX1 yX1_record wsX1_record) := goodIn_app (goodIn_of _ (by decide +kernel)) ggX6_slew_X1_record
set_option maxRecDepth 20000 in
theorem ggX6_slew_X2_followWays : GoodIn wsX6_slew wsX2_followWays := goodIn_r _ [141, 38, 88, 104, 142, 143, 144, 58, 145, 146, 147, 148, 66, 149, 150, 151, 152, 153, 154, 155, 68, 117, 69, 114, 156, 157, 158, 118, 159, 171, 172, 173, 174, 175, 176, 177, 178, 179, 180, 181, 164, 165, 166, 167, 168, 169, 170, 196, 197, 198, 199, 200, 201, 202, 203, 204, 205] (by decide +kernel) (by decide +kernel)
set_option maxRecDepth 20000 in
theorem gX6_slew_X2_followWays : GoodIn wsX6_slew (wsV RX6 123 RX2 yX2_followWays wsX2_followWays) := goodIn_app (goodIn_of _ (by decide +kernel)) ggX6_slew_X2_followWays
theorem dX6_slew_0 : decode cX6_slew 0 = .ok (.iload_n 1, 1) := by decide +kernel
theorem dX6_slew_1 : decode cX6_slew 1 = .ok (.iconst 0, 1) := by decide +kernel
theorem dX6_slew_2 : decode cX6_slew 2 = .ok (.ldc 104, 2) := by decide +kernel
theorem dX6_slew_4 : decode cX6_slew 4 = .ok (.invokestatic 37, 3) := by decide +kernel
theorem dX6_slew_7 : decode cX6_slew 7 = .ok (.ifCond .eq 16, 3) := by decide +kernel
theorem dX6_slew_10 : decode cX6_slew 10 = .ok (.iload_n 2, 1) := by decide +kernel
theorem dX6_slew_11 : decode cX6_slew 11 = .ok (.sipush 500, 3) := by decide +kernel
theorem dX6_slew_14 : decode cX6_slew 14 = .ok (.sipush 9000, 3) := by decide +kernel
theorem dX6_slew_17 : decode cX6_slew 17 = .ok (.invokestatic 37, 3) := by decide +kernel
theorem dX6_slew_20 : decode cX6_slew 20 = .ok (.ifCond .ne 6, 3) := by decide +kernel
theorem dX6_slew_23 : decode cX6_slew 23 = .ok (.ldc 41, 2) := by decide +kernel
theorem dX6_slew_25 : decode cX6_slew 25 = .ok (.ireturn, 1) := by decide +kernel
theorem dX6_slew_26 : decode cX6_slew 26 = .ok (.aload_n 0, 1) := by decide +kernel
theorem dX6_slew_27 : decode cX6_slew 27 = .ok (.getfield 10, 3) := by decide +kernel
theorem dX6_slew_30 : decode cX6_slew 30 = .ok (.invokevirtual 77, 3) := by decide +kernel
theorem dX6_slew_33 : decode cX6_slew 33 = .ok (.iconst (-1), 1) := by decide +kernel
theorem dX6_slew_34 : decode cX6_slew 34 = .ok (.if_icmp .ne 13, 3) := by decide +kernel
theorem dX6_slew_37 : decode cX6_slew 37 = .ok (.aload_n 0, 1) := by decide +kernel
theorem dX6_slew_38 : decode cX6_slew 38 = .ok (.getfield 10, 3) := by decide +kernel
theorem dX6_slew_41 : decode cX6_slew 41 = .ok (.invokevirtual 117, 3) := by decide +kernel
theorem dX6_slew_44 : decode cX6_slew 44 = .ok (.ifCond .ne 6, 3) := by decide +kernel
theorem dX6_slew_47 : decode cX6_slew 47 = .ok (.ldc 69, 2) := by decide +kernel
theorem dX6_slew_49 : decode cX6_slew 49 = .ok (.ireturn, 1) := by decide +kernel
theorem dX6_slew_50 : decode cX6_slew 50 = .ok (.aload_n 0, 1) := by decide +kernel
theorem dX6_slew_51 : decode cX6_slew 51 = .ok (.getfield 10, 3) := by decide +kernel
theorem dX6_slew_54 : decode cX6_slew 54 = .ok (.iload_n 1, 1) := by decide +kernel
theorem dX6_slew_55 : decode cX6_slew 55 = .ok (.invokevirtual 105, 3) := by decide +kernel
theorem dX6_slew_58 : decode cX6_slew 58 = .ok (.astore_n 3, 1) := by decide +kernel
theorem dX6_slew_59 : decode cX6_slew 59 = .ok (.aload_n 0, 1) := by decide +kernel
theorem dX6_slew_60 : decode cX6_slew 60 = .ok (.getfield 10, 3) := by decide +kernel
theorem dX6_slew_63 : decode cX6_slew 63 = .ok (.iload_n 2, 1) := by decide +kernel
theorem dX6_slew_64 : decode cX6_slew 64 = .ok (.invokevirtual 120, 3) := by decide +kernel
theorem dX6_slew_67 : decode cX6_slew 67 = .ok (.astore 4, 2) := by decide +kernel
theorem dX6_slew_69 : decode cX6_slew 69 = .ok (.aload_n 3, 1) := by decide +kernel
theorem dX6_slew_70 : decode cX6_slew 70 = .ok (.getfield 109, 3) := by decide +kernel
theorem dX6_slew_73 : decode cX6_slew 73 = .ok (.ifCond .eq 11, 3) := by decide +kernel
theorem dX6_slew_76 : decode cX6_slew 76 = .ok (.aload 4, 2) := by decide +kernel
theorem dX6_slew_78 : decode cX6_slew 78 = .ok (.getfield 109, 3) := by decide +kernel
theorem dX6_slew_81 : decode cX6_slew 81 = .ok (.ifCond .ne 6, 3) := by decide +kernel
theorem dX6_slew_84 : decode cX6_slew 84 = .ok (.ldc 69, 2) := by decide +kernel
theorem dX6_slew_86 : decode cX6_slew 86 = .ok (.ireturn, 1) := by decide +kernel
theorem dX6_slew_87 : decode cX6_slew 87 = .ok (.aload_n 0, 1) := by decide +kernel
theorem dX6_slew_88 : decode cX6_slew 88 = .ok (.getfield 22, 3) := by decide +kernel
theorem dX6_slew_91 : decode cX6_slew 91 = .ok (.aload_n 0, 1) := by decide +kernel
theorem dX6_slew_92 : decode cX6_slew 92 = .ok (.getfield 10, 3) := by decide +kernel
theorem dX6_slew_95 : decode cX6_slew 95 = .ok (.invokevirtual 42, 3) := by decide +kernel
theorem dX6_slew_98 : decode cX6_slew 98 = .ok (.aload_n 0, 1) := by decide +kernel
theorem dX6_slew_99 : decode cX6_slew 99 = .ok (.getfield 10, 3) := by decide +kernel
theorem dX6_slew_102 : decode cX6_slew 102 = .ok (.aload_n 3, 1) := by decide +kernel
theorem dX6_slew_103 : decode cX6_slew 103 = .ok (.aload 4, 2) := by decide +kernel
theorem dX6_slew_105 : decode cX6_slew 105 = .ok (.invokevirtual 123, 3) := by decide +kernel
theorem dX6_slew_108 : decode cX6_slew 108 = .ok (.ireturn, 1) := by decide +kernel
theorem dX6_isWound_0 : decode cX6_isWound 0 = .ok (.aload_n 0, 1) := by decide +kernel
theorem dX6_isWound_1 : decode cX6_isWound 1 = .ok (.getfield 10, 3) := by decide +kernel
theorem dX6_isWound_4 : decode cX6_isWound 4 = .ok (.getfield 127, 3) := by decide +kernel
theorem dX6_isWound_7 : decode cX6_isWound 7 = .ok (.getfield 131, 3) := by decide +kernel
theorem dX6_isWound_10 : decode cX6_isWound 10 = .ok (.invokestatic 134, 3) := by decide +kernel
theorem dX6_isWound_13 : decode cX6_isWound 13 = .ok (.aload_n 0, 1) := by decide +kernel
theorem dX6_isWound_14 : decode cX6_isWound 14 = .ok (.getfield 10, 3) := by decide +kernel
theorem dX6_isWound_17 : decode cX6_isWound 17 = .ok (.getfield 139, 3) := by decide +kernel
theorem dX6_isWound_20 : decode cX6_isWound 20 = .ok (.iconst 1, 1) := by decide +kernel
theorem dX6_isWound_21 : decode cX6_isWound 21 = .ok (.iaload, 1) := by decide +kernel
theorem dX6_isWound_22 : decode cX6_isWound 22 = .ok (.if_icmp .le 7, 3) := by decide +kernel
theorem dX6_isWound_25 : decode cX6_isWound 25 = .ok (.iconst 1, 1) := by decide +kernel
theorem dX6_isWound_26 : decode cX6_isWound 26 = .ok (.goto 4, 3) := by decide +kernel
theorem dX6_isWound_29 : decode cX6_isWound 29 = .ok (.iconst 0, 1) := by decide +kernel
theorem dX6_isWound_30 : decode cX6_isWound 30 = .ok (.ireturn, 1) := by decide +kernel
set_option maxRecDepth 20000 in
theorem ggX6_add_X6_isTargetInRange : GoodIn wsX6_add wsX6_isTargetInRange := goodIn_r _ [8, 9, 10, 11, 12, 7, 13] (by decide +kernel) (by decide +kernel)
set_option maxRecDepth 20000 in
theorem gX6_add_X6_isTargetInRange : GoodIn wsX6_add (va_wsS RX6 142 yX6_isTargetInRange wsX6_isTargetInRange) := goodIn_app (goodIn_of _ (by decide +kernel)) ggX6_add_X6_isTargetInRange
set_option maxRecDepth 20000 in
theorem ggX6_add_X2_targetsIn : GoodIn wsX6_add wsX2_targetsIn := goodIn_r _ [18, 19, 20, 94, 95, 96, 97, 98, 99, 100, 101, 102, 103, 104, 105, 106, 107, 108, 109, 110, 111, 112, 113, 114, 115, 116, 117, 118] (by decide +kernel) (by decide +kernel)
set_option maxRecDepth 20000 in
theorem gX6_add_X2_targetsIn : GoodIn wsX6_add (wsV RX6 73 RX2 yX2_targetsIn wsX2_targetsIn) := goodIn_app (goodIn_of _ (by decide +kernel)) ggX6_add_X2_targetsIn
set_option maxRecDepth 20000 in
theorem ggX6_add_X1_record : GoodIn wsX6_add wsX1_record := goodIn_r _ [25, 26, 27, 28, 29, 30, 24, 31, 32, 33, 34, 17, 35, 36, 37, 38, 39, 40, 41, 42, 43, 44, 45, 46, 19, 47, 48, 49, 50, 51, 52, 53, 54, 55, 56, 57, 58, 59, 60, 61, 62, 63, 64, 65, 66, 67, 68, 69, 70, 71, 72, 73, 74, 75, 76, 77, 119, 120, 94, 95, 96, 97, 98, 99, 100, 101, 102, 103, 104, 121, 122, 123, 124, 125, 126, 127, 128, 129, 130, 105, 106, 107, 108, 109, 110, 111, 112, 113, 114, 115, 116, 117, 118] (by decide +kernel) (by decide +kernel)
set_option maxRecDepth 20000 in
theorem gX6_add_X1_record : GoodIn wsX6_add (wsV RX6 42 RX1 yX1_record wsX1_record) := goodIn_app (goodIn_of _ (by decide +kernel)) ggX6_add_X1_record
set_option maxRecDepth 20000 in
theorem ggX6_add_X2_append : GoodIn wsX6_add wsX2_append := goodIn_r _ [81, 19, 82, 83, 84, 85, 86, 87, 20, 88, 89, 15, 16, 17, 18, 94, 95, 96, 97, 98, 99, 100, 101, 102, 103, 104, 105, 106, 107, 108, 109, 110, 111, 112, 113, 114, 115, 116, 117, 118] (by decide +kernel) (by decide +kernel)
set_option maxRecDepth 20000 in
theorem gX6_add_X2_append : GoodIn wsX6_add (wsV RX6 147 RX2 yX2_append wsX2_append) := goodIn_app (goodIn_of _ (by decide +kernel)) ggX6_add_X2_append
theorem dX6_add_0 : decode cX6_add 0 = .ok (.iload_n 1, 1) := by decide +kernel
theorem dX6_add_1 : decode cX6_add 1 = .ok (.iload_n 2, 1) := by decide +kernel
theorem dX6_add_2 : decode cX6_add 2 = .ok (.iload_n 3, 1) := by decide +kernel
theorem dX6_add_3 : decode cX6_add 3 = .ok (.iload 4, 2) := by decide +kernel
theorem dX6_add_5 : decode cX6_add 5 = .ok (.iload 5, 2) := by decide +kernel
theorem dX6_add_7 : decode cX6_add 7 = .ok (.iload 6, 2) := by decide +kernel
theorem dX6_add_9 : decode cX6_add 9 = .ok (.invokestatic 142, 3) := by decide +kernel
theorem dX6_add_12 : decode cX6_add 12 = .ok (.ifCond .ne 6, 3) := by decide +kernel
theorem dX6_add_15 : decode cX6_add 15 = .ok (.ldc 41, 2) := by decide +kernel
theorem dX6_add_17 : decode cX6_add 17 = .ok (.ireturn, 1) := by decide +kernel
theorem dX6_add_18 : decode cX6_add 18 = .ok (.aload_n 0, 1) := by decide +kernel
theorem dX6_add_19 : decode cX6_add 19 = .ok (.getfield 10, 3) := by decide +kernel
theorem dX6_add_22 : decode cX6_add 22 = .ok (.iconst 4, 1) := by decide +kernel
theorem dX6_add_23 : decode cX6_add 23 = .ok (.invokevirtual 73, 3) := by decide +kernel
theorem dX6_add_26 : decode cX6_add 26 = .ok (.ifCond .ne 6, 3) := by decide +kernel
theorem dX6_add_29 : decode cX6_add 29 = .ok (.ldc 146, 2) := by decide +kernel
theorem dX6_add_31 : decode cX6_add 31 = .ok (.ireturn, 1) := by decide +kernel
theorem dX6_add_32 : decode cX6_add 32 = .ok (.aload_n 0, 1) := by decide +kernel
theorem dX6_add_33 : decode cX6_add 33 = .ok (.getfield 22, 3) := by decide +kernel
theorem dX6_add_36 : decode cX6_add 36 = .ok (.aload_n 0, 1) := by decide +kernel
theorem dX6_add_37 : decode cX6_add 37 = .ok (.getfield 10, 3) := by decide +kernel
theorem dX6_add_40 : decode cX6_add 40 = .ok (.invokevirtual 42, 3) := by decide +kernel
theorem dX6_add_43 : decode cX6_add 43 = .ok (.aload_n 0, 1) := by decide +kernel
theorem dX6_add_44 : decode cX6_add 44 = .ok (.getfield 10, 3) := by decide +kernel
theorem dX6_add_47 : decode cX6_add 47 = .ok (.iload_n 1, 1) := by decide +kernel
theorem dX6_add_48 : decode cX6_add 48 = .ok (.iload_n 2, 1) := by decide +kernel
theorem dX6_add_49 : decode cX6_add 49 = .ok (.iload_n 3, 1) := by decide +kernel
theorem dX6_add_50 : decode cX6_add 50 = .ok (.iload 4, 2) := by decide +kernel
theorem dX6_add_52 : decode cX6_add 52 = .ok (.iload 5, 2) := by decide +kernel
theorem dX6_add_54 : decode cX6_add 54 = .ok (.iload 6, 2) := by decide +kernel
theorem dX6_add_56 : decode cX6_add 56 = .ok (.invokevirtual 147, 3) := by decide +kernel
theorem dX6_add_59 : decode cX6_add 59 = .ok (.ireturn, 1) := by decide +kernel
set_option maxRecDepth 20000 in
theorem ggX6_drop_X2_hasTarget : GoodIn wsX6_drop wsX2_hasTarget := goodIn_r _ [11, 12, 13, 87, 88, 89, 90, 91, 92, 93, 94, 95, 96, 97, 98, 99, 100, 101, 102, 103, 104, 105, 106, 107, 108, 109, 110, 111] (by decide +kernel) (by decide +kernel)
set_option maxRecDepth 20000 in
theorem gX6_drop_X2_hasTarget : GoodIn wsX6_drop (wsV RX6 151 RX2 yX2_hasTarget wsX2_hasTarget) := goodIn_app (goodIn_of _ (by decide +kernel)) ggX6_drop_X2_hasTarget
set_option maxRecDepth 20000 in
theorem ggX6_drop_X1_record : GoodIn wsX6_drop wsX1_record := goodIn_r _ [18, 19, 20, 21, 22, 23, 17, 24, 25, 26, 27, 10, 28, 29, 30, 31, 32, 33, 34, 35, 36, 37, 38, 39, 12, 40, 41, 42, 43, 44, 45, 46, 47, 48, 49, 50, 51, 52, 53, 54, 55, 56, 57, 58, 59, 60, 61, 62, 63, 64, 65, 66, 67, 68, 69, 70, 112, 113, 87, 88, 89, 90, 91, 92, 93, 94, 95, 96, 97, 114, 115, 116, 117, 118, 119, 120, 121, 122, 123, 98, 99, 100, 101, 102, 103, 104, 105, 106, 107, 108, 109, 110, 111] (by decide +kernel) (by decide +kernel)
set_option maxRecDepth 20000 in
theorem gX6_drop_X1_record : GoodIn wsX6_drop (wsV RX6 42 RX1 yX1_record wsX1_record) := goodIn_app (goodIn_of _ (by decide +kernel)) ggX6_drop_X1_record
set_option maxRecDepth 20000 in
theorem ggX6_drop_X2_remove : GoodIn wsX6_drop wsX2_remove := goodIn_r _ [74, 75, 76, 77, 78, 12, 13, 52, 53, 54, 55, 56, 57, 58, 59, 60, 61, 62, 63, 64, 65, 66, 67, 68, 69, 70, 87, 88, 89, 90, 91, 92, 93, 94, 95, 96, 97, 98, 99, 100, 101, 102, 103, 104, 105, 106, 107, 108, 109, 110, 111] (by decide +kernel) (by decide +kernel)
set_option maxRecDepth 20000 in
theorem gX6_drop_X2_remove : GoodIn wsX6_drop (wsV RX6 164 RX2 yX2_remove wsX2_remove) := goodIn_app (goodIn_of _ (by decide +kernel)) ggX6_drop_X2_remove
set_option maxRecDepth 20000 in
theorem ggX6_drop_X2_targetsIn : GoodIn wsX6_drop wsX2_targetsIn := goodIn_r _ [82, 12, 13, 87, 88, 89, 90, 91, 92, 93, 94, 95, 96, 97, 98, 99, 100, 101, 102, 103, 104, 105, 106, 107, 108, 109, 110, 111] (by decide +kernel) (by decide +kernel)
set_option maxRecDepth 20000 in
theorem gX6_drop_X2_targetsIn : GoodIn wsX6_drop (wsV RX6 73 RX2 yX2_targetsIn wsX2_targetsIn) := goodIn_app (goodIn_of _ (by decide +kernel)) ggX6_drop_X2_targetsIn
theorem dX6_drop_0 : decode cX6_drop 0 = .ok (.aload_n 0, 1) := by decide +kernel
theorem dX6_drop_1 : decode cX6_drop 1 = .ok (.getfield 10, 3) := by decide +kernel
theorem dX6_drop_4 : decode cX6_drop 4 = .ok (.iload_n 1, 1) := by decide +kernel
theorem dX6_drop_5 : decode cX6_drop 5 = .ok (.invokevirtual 151, 3) := by decide +kernel
theorem dX6_drop_8 : decode cX6_drop 8 = .ok (.ifCond .ne 6, 3) := by decide +kernel
theorem dX6_drop_11 : decode cX6_drop 11 = .ok (.ldc 41, 2) := by decide +kernel
theorem dX6_drop_13 : decode cX6_drop 13 = .ok (.ireturn, 1) := by decide +kernel
theorem dX6_drop_14 : decode cX6_drop 14 = .ok (.aload_n 0, 1) := by decide +kernel
theorem dX6_drop_15 : decode cX6_drop 15 = .ok (.getfield 10, 3) := by decide +kernel
theorem dX6_drop_18 : decode cX6_drop 18 = .ok (.getfield 155, 3) := by decide +kernel
theorem dX6_drop_21 : decode cX6_drop 21 = .ok (.iload_n 1, 1) := by decide +kernel
theorem dX6_drop_22 : decode cX6_drop 22 = .ok (.aaload, 1) := by decide +kernel
theorem dX6_drop_23 : decode cX6_drop 23 = .ok (.getfield 159, 3) := by decide +kernel
theorem dX6_drop_26 : decode cX6_drop 26 = .ok (.iconst 1, 1) := by decide +kernel
theorem dX6_drop_27 : decode cX6_drop 27 = .ok (.if_icmp .ne 6, 3) := by decide +kernel
theorem dX6_drop_30 : decode cX6_drop 30 = .ok (.ldc 69, 2) := by decide +kernel
theorem dX6_drop_32 : decode cX6_drop 32 = .ok (.ireturn, 1) := by decide +kernel
theorem dX6_drop_33 : decode cX6_drop 33 = .ok (.aload_n 0, 1) := by decide +kernel
theorem dX6_drop_34 : decode cX6_drop 34 = .ok (.getfield 22, 3) := by decide +kernel
theorem dX6_drop_37 : decode cX6_drop 37 = .ok (.aload_n 0, 1) := by decide +kernel
theorem dX6_drop_38 : decode cX6_drop 38 = .ok (.getfield 10, 3) := by decide +kernel
theorem dX6_drop_41 : decode cX6_drop 41 = .ok (.invokevirtual 42, 3) := by decide +kernel
theorem dX6_drop_44 : decode cX6_drop 44 = .ok (.aload_n 0, 1) := by decide +kernel
theorem dX6_drop_45 : decode cX6_drop 45 = .ok (.getfield 10, 3) := by decide +kernel
theorem dX6_drop_48 : decode cX6_drop 48 = .ok (.iload_n 1, 1) := by decide +kernel
theorem dX6_drop_49 : decode cX6_drop 49 = .ok (.invokevirtual 164, 3) := by decide +kernel
theorem dX6_drop_52 : decode cX6_drop 52 = .ok (.bipush 10, 2) := by decide +kernel
theorem dX6_drop_54 : decode cX6_drop 54 = .ok (.aload_n 0, 1) := by decide +kernel
theorem dX6_drop_55 : decode cX6_drop 55 = .ok (.getfield 10, 3) := by decide +kernel
theorem dX6_drop_58 : decode cX6_drop 58 = .ok (.iconst 4, 1) := by decide +kernel
theorem dX6_drop_59 : decode cX6_drop 59 = .ok (.invokevirtual 73, 3) := by decide +kernel
theorem dX6_drop_62 : decode cX6_drop 62 = .ok (.isub, 1) := by decide +kernel
theorem dX6_drop_63 : decode cX6_drop 63 = .ok (.ireturn, 1) := by decide +kernel
set_option maxRecDepth 20000 in
theorem ggX6_target_X2_hasTarget : GoodIn wsX6_target wsX2_hasTarget := goodIn_r _ [8, 9, 10, 39, 40, 41, 42, 43, 44, 45, 46, 47, 48, 49, 50, 51, 52, 53, 54, 55, 56, 57, 58, 59, 60, 61, 62, 63] (by decide +kernel) (by decide +kernel)
set_option maxRecDepth 20000 in
theorem gX6_target_X2_hasTarget : GoodIn wsX6_target (wsV RX6 151 RX2 yX2_hasTarget wsX2_hasTarget) := goodIn_app (goodIn_of _ (by decide +kernel)) ggX6_target_X2_hasTarget
set_option maxRecDepth 20000 in
theorem ggX6_target_X3_tell : GoodIn wsX6_target wsX3_tell := goodIn_r _ [15, 16, 17, 18, 19, 20, 21, 22, 23, 24, 25, 26, 27, 28, 29, 30, 31, 32, 33, 14, 34, 50, 51, 52, 53, 54, 55, 56, 57, 58, 59, 60, 61, 62, 63] (by decide +kernel) (by decide +kernel)
set_option maxRecDepth 20000 in
theorem gX6_target_X3_tell : GoodIn wsX6_target (wsV RX6 168 RX3 yX3_tell wsX3_tell) := goodIn_app (goodIn_of _ (by decide +kernel)) ggX6_target_X3_tell
theorem dX6_target_0 : decode cX6_target 0 = .ok (.aload_n 0, 1) := by decide +kernel
theorem dX6_target_1 : decode cX6_target 1 = .ok (.getfield 10, 3) := by decide +kernel
theorem dX6_target_4 : decode cX6_target 4 = .ok (.iload_n 1, 1) := by decide +kernel
theorem dX6_target_5 : decode cX6_target 5 = .ok (.invokevirtual 151, 3) := by decide +kernel
theorem dX6_target_8 : decode cX6_target 8 = .ok (.ifCond .ne 6, 3) := by decide +kernel
theorem dX6_target_11 : decode cX6_target 11 = .ok (.ldc 41, 2) := by decide +kernel
theorem dX6_target_13 : decode cX6_target 13 = .ok (.ireturn, 1) := by decide +kernel
theorem dX6_target_14 : decode cX6_target 14 = .ok (.aload_n 0, 1) := by decide +kernel
theorem dX6_target_15 : decode cX6_target 15 = .ok (.getfield 10, 3) := by decide +kernel
theorem dX6_target_18 : decode cX6_target 18 = .ok (.getfield 155, 3) := by decide +kernel
theorem dX6_target_21 : decode cX6_target 21 = .ok (.iload_n 1, 1) := by decide +kernel
theorem dX6_target_22 : decode cX6_target 22 = .ok (.aaload, 1) := by decide +kernel
theorem dX6_target_23 : decode cX6_target 23 = .ok (.iload_n 2, 1) := by decide +kernel
theorem dX6_target_24 : decode cX6_target 24 = .ok (.invokevirtual 168, 3) := by decide +kernel
theorem dX6_target_27 : decode cX6_target 27 = .ok (.ireturn, 1) := by decide +kernel
set_option maxRecDepth 20000 in
theorem ggX6_why_X2_hasTarget : GoodIn wsX6_why wsX2_hasTarget := goodIn_r _ [8, 9, 10, 103, 104, 105, 106, 107, 108, 109, 110, 111, 112, 113, 114, 115, 116, 117, 118, 119, 120, 121, 122, 123, 124, 125, 126, 127] (by decide +kernel) (by decide +kernel)
set_option maxRecDepth 20000 in
theorem gX6_why_X2_hasTarget : GoodIn wsX6_why (wsV RX6 151 RX2 yX2_hasTarget wsX2_hasTarget) := goodIn_app (goodIn_of _ (by decide +kernel)) ggX6_why_X2_hasTarget
set_option maxRecDepth 20000 in
theorem ggX6_why_X2_reasonAgainst : GoodIn wsX6_why wsX2_reasonAgainst := goodIn_r _ [14, 10, 15, 16, 17, 18, 19, 20, 21, 22, 23, 24, 25, 26, 27, 28, 29, 7, 30, 9, 31, 32, 33, 34, 35, 36, 37, 38, 39, 40, 41, 42, 43, 44, 45, 46, 47, 48, 49, 50, 51, 52, 53, 54, 55, 56, 57, 58, 59, 60, 61, 62, 63, 64, 65, 66, 67, 68, 69, 70, 71, 72, 73, 74, 75, 76, 77, 78, 79, 80, 81, 82, 83, 84, 85, 86, 87, 88, 89, 90, 91, 92, 93, 94, 95, 96, 97, 98, 114, 115, 116, 117, 118, 119, 120, 121, 122, 123, 124, 125, 126, 127, 103, 104, 105, 106, 107, 108, 109, 110, 111, 112, 113, 128, 129, 130, 131, 132, 133, 134, 135, 136, 137, 138, 139, 140, 141, 142, 143, 144] (by decide +kernel) (by decide +kernel)
set_option maxRecDepth 20000 in
theorem gX6_why_X2_reasonAgainst : GoodIn wsX6_why (wsV RX6 169 RX2 yX2_reasonAgainst wsX2_reasonAgainst) := goodIn_app (goodIn_of _ (by decide +kernel)) ggX6_why_X2_reasonAgainst
theorem dX6_why_0 : decode cX6_why 0 = .ok (.aload_n 0, 1) := by decide +kernel
theorem dX6_why_1 : decode cX6_why 1 = .ok (.getfield 10, 3) := by decide +kernel
theorem dX6_why_4 : decode cX6_why 4 = .ok (.iload_n 1, 1) := by decide +kernel
theorem dX6_why_5 : decode cX6_why 5 = .ok (.invokevirtual 151, 3) := by decide +kernel
theorem dX6_why_8 : decode cX6_why 8 = .ok (.ifCond .ne 6, 3) := by decide +kernel
theorem dX6_why_11 : decode cX6_why 11 = .ok (.ldc 41, 2) := by decide +kernel
theorem dX6_why_13 : decode cX6_why 13 = .ok (.ireturn, 1) := by decide +kernel
theorem dX6_why_14 : decode cX6_why 14 = .ok (.aload_n 0, 1) := by decide +kernel
theorem dX6_why_15 : decode cX6_why 15 = .ok (.getfield 10, 3) := by decide +kernel
theorem dX6_why_18 : decode cX6_why 18 = .ok (.aload_n 0, 1) := by decide +kernel
theorem dX6_why_19 : decode cX6_why 19 = .ok (.getfield 10, 3) := by decide +kernel
theorem dX6_why_22 : decode cX6_why 22 = .ok (.getfield 155, 3) := by decide +kernel
theorem dX6_why_25 : decode cX6_why 25 = .ok (.iload_n 1, 1) := by decide +kernel
theorem dX6_why_26 : decode cX6_why 26 = .ok (.aaload, 1) := by decide +kernel
theorem dX6_why_27 : decode cX6_why 27 = .ok (.invokevirtual 169, 3) := by decide +kernel
theorem dX6_why_30 : decode cX6_why 30 = .ok (.ireturn, 1) := by decide +kernel
set_option maxRecDepth 20000 in
theorem ggX6_next_X2_bestToBegin : GoodIn wsX6_next wsX2_bestToBegin := goodIn_r _ [6, 7, 8, 9, 10, 5, 11, 12, 13, 14, 15, 16, 17, 18, 19, 20, 21, 22, 23, 24, 25, 26, 27, 28, 29, 30, 31, 32, 33, 34, 35, 36, 37, 38, 39, 40, 41, 42, 43, 44, 45, 46, 47, 48, 49, 50, 51, 52, 53, 54, 55, 56, 57, 58, 59, 60, 61, 62, 63, 64, 65, 66, 67, 68, 69, 70, 71, 72, 73, 74, 75, 76, 77, 78, 79, 80, 81, 82, 83, 84, 85, 86, 87, 88, 89, 90, 91, 92, 93, 94, 95, 96, 97, 98, 99, 100, 101, 102, 103, 113, 114, 115, 116, 117, 118, 119, 120, 121, 122, 123, 124, 125, 126, 127, 128, 129, 130, 131, 132, 133, 134, 135, 136, 137, 138, 139, 140, 141, 142, 143, 144, 145, 146, 147, 148, 149, 150, 151, 152, 153, 154] (by decide +kernel) (by decide +kernel)
set_option maxRecDepth 20000 in
theorem gX6_next_X2_bestToBegin : GoodIn wsX6_next (wsV RX6 173 RX2 yX2_bestToBegin wsX2_bestToBegin) := goodIn_app (goodIn_of _ (by decide +kernel)) ggX6_next_X2_bestToBegin
set_option maxRecDepth 20000 in
theorem ggX6_next_X6_foundTarget : GoodIn wsX6_next wsX6_foundTarget := goodIn_r _ [107, 108] (by decide +kernel) (by decide +kernel)
set_option maxRecDepth 20000 in
theorem gX6_next_X6_foundTarget : GoodIn wsX6_next (va_wsS RX6 81 yX6_foundTarget wsX6_foundTarget) := goodIn_app (goodIn_of _ (by decide +kernel)) ggX6_next_X6_foundTarget
theorem dX6_next_0 : decode cX6_next 0 = .ok (.aload_n 0, 1) := by decide +kernel
theorem dX6_next_1 : decode cX6_next 1 = .ok (.getfield 10, 3) := by decide +kernel
theorem dX6_next_4 : decode cX6_next 4 = .ok (.invokevirtual 173, 3) := by decide +kernel
theorem dX6_next_7 : decode cX6_next 7 = .ok (.invokestatic 81, 3) := by decide +kernel
theorem dX6_next_10 : decode cX6_next 10 = .ok (.ireturn, 1) := by decide +kernel
set_option maxRecDepth 20000 in
theorem ggX6_run_X6_isBetween : GoodIn wsX6_run wsX6_isBetween := goodIn_r _ [10] (by decide +kernel) (by decide +kernel)
set_option maxRecDepth 20000 in
theorem gX6_run_X6_isBetween : GoodIn wsX6_run (va_wsS RX6 37 yX6_isBetween wsX6_isBetween) := goodIn_app (goodIn_of _ (by decide +kernel)) ggX6_run_X6_isBetween
set_option maxRecDepth 20000 in
theorem ggX6_run_X1_record : GoodIn wsX6_run wsX1_record := goodIn_r _ [15, 16, 17, 18, 19, 20, 14, 21, 22, 23, 24, 25, 26, 27, 28, 29, 30, 31, 32, 33, 34, 35, 36, 37, 38, 39, 40, 41, 42, 43, 44, 45, 46, 47, 48, 49, 50, 51, 52, 53, 54, 55, 56, 57, 58, 59, 60, 61, 62, 63, 64, 65, 66, 67, 68, 69, 239, 240, 228, 229, 230, 231, 232, 233, 234, 235, 236, 237, 238, 241, 242, 243, 244, 245, 246, 247, 248, 249, 250, 251, 252, 253, 254, 255, 256, 257, 258, 259, 260, 261, 262, 263, 264] (by decide +kernel) (by decide +kernel)
set_option maxRecDepth 20000 in
theorem gX6_run_X1_record : GoodIn wsX6_run (wsV RX6 42 RX1 yX1_record wsX1_record) := goodIn_app (goodIn_of _ (by decide +kernel)) ggX6_run_X1_record
set_option maxRecDepth 20000 in
theorem ggX6_run_X2_targetsIn : GoodIn wsX6_run wsX2_targetsIn := goodIn_r _ [73, 38, 74, 228, 229, 230, 231, 232, 233, 234, 235, 236, 237, 238, 251, 252, 253, 254, 255, 256, 257, 258, 259, 260, 261, 262, 263, 264] (by decide +kernel) (by decide +kernel)
set_option maxRecDepth 20000 in
theorem gX6_run_X2_targetsIn : GoodIn wsX6_run (wsV RX6 73 RX2 yX2_targetsIn wsX2_targetsIn) := goodIn_app (goodIn_of _ (by decide +kernel)) ggX6_run_X2_targetsIn
set_option maxRecDepth 20000 in
theorem ggX6_run_X2_letPass : GoodIn wsX6_run wsX2_letPass := goodIn_r _ [78, 27, 38, 79, 80, 81, 25, 82, 30, 83, 84, 85, 86, 35, 87, 88, 89, 90, 91, 92, 93, 94, 29, 74, 95, 37, 96, 97, 98, 42, 99, 47, 49, 48, 44, 100, 101, 102, 103, 50, 104, 105, 106, 107, 108, 109, 110, 111, 112, 113, 114, 115, 116, 36, 117, 118, 119, 120, 121, 122, 123, 124, 125, 126, 127, 128, 129, 130, 131, 132, 133, 134, 135, 136, 137, 138, 139, 140, 141, 142, 143, 144, 145, 146, 147, 148, 149, 150, 151, 152, 153, 154, 155, 156, 157, 158, 159, 160, 161, 162, 163, 164, 165, 166, 167, 168, 169, 170, 171, 172, 173, 174, 175, 176, 177, 178, 179, 180, 181, 182, 183, 184, 185, 186, 187, 188, 189, 190, 191, 192, 193, 194, 195, 196, 197, 198, 54, 199, 61, 59, 200, 201, 202, 203, 204, 205, 206, 207, 208, 28, 209, 210, 211, 212, 213, 214, 215, 216, 217, 218, 219, 220, 221, 222, 223, 228, 229, 230, 231, 232, 233, 234, 235, 236, 237, 238, 251, 252, 253, 254, 255, 256, 257, 258, 259, 260, 261, 262, 263, 264, 241, 242, 243, 244, 245, 246, 247, 248, 249, 250, 265, 266, 267, 268, 269, 270, 271] (by decide +kernel) (by decide +kernel)
set_option maxRecDepth 20000 in
theorem gX6_run_X2_letPass : GoodIn wsX6_run (wsV RX6 177 RX2 yX2_letPass wsX2_letPass) := goodIn_app (goodIn_of _ (by decide +kernel)) ggX6_run_X2_letPass
theorem dX6_run_0 : decode cX6_run 0 = .ok (.iload_n 1, 1) := by decide +kernel
theorem dX6_run_1 : decode cX6_run 1 = .ok (.iconst 0, 1) := by decide +kernel
theorem dX6_run_2 : decode cX6_run 2 = .ok (.sipush 2000, 3) := by decide +kernel
theorem dX6_run_5 : decode cX6_run 5 = .ok (.invokestatic 37, 3) := by decide +kernel
theorem dX6_run_8 : decode cX6_run 8 = .ok (.ifCond .ne 6, 3) := by decide +kernel
theorem dX6_run_11 : decode cX6_run 11 = .ok (.ldc 41, 2) := by decide +kernel
theorem dX6_run_13 : decode cX6_run 13 = .ok (.ireturn, 1) := by decide +kernel
theorem dX6_run_14 : decode cX6_run 14 = .ok (.aload_n 0, 1) := by decide +kernel
theorem dX6_run_15 : decode cX6_run 15 = .ok (.getfield 10, 3) := by decide +kernel
theorem dX6_run_18 : decode cX6_run 18 = .ok (.getfield 65, 3) := by decide +kernel
theorem dX6_run_21 : decode cX6_run 21 = .ok (.iload_n 1, 1) := by decide +kernel
theorem dX6_run_22 : decode cX6_run 22 = .ok (.iadd, 1) := by decide +kernel
theorem dX6_run_23 : decode cX6_run 23 = .ok (.ldc 176, 2) := by decide +kernel
theorem dX6_run_25 : decode cX6_run 25 = .ok (.if_icmp .le 6, 3) := by decide +kernel
theorem dX6_run_28 : decode cX6_run 28 = .ok (.ldc 146, 2) := by decide +kernel
theorem dX6_run_30 : decode cX6_run 30 = .ok (.ireturn, 1) := by decide +kernel
theorem dX6_run_31 : decode cX6_run 31 = .ok (.aload_n 0, 1) := by decide +kernel
theorem dX6_run_32 : decode cX6_run 32 = .ok (.getfield 22, 3) := by decide +kernel
theorem dX6_run_35 : decode cX6_run 35 = .ok (.aload_n 0, 1) := by decide +kernel
theorem dX6_run_36 : decode cX6_run 36 = .ok (.getfield 10, 3) := by decide +kernel
theorem dX6_run_39 : decode cX6_run 39 = .ok (.invokevirtual 42, 3) := by decide +kernel
theorem dX6_run_42 : decode cX6_run 42 = .ok (.aload_n 0, 1) := by decide +kernel
theorem dX6_run_43 : decode cX6_run 43 = .ok (.getfield 10, 3) := by decide +kernel
theorem dX6_run_46 : decode cX6_run 46 = .ok (.iconst 2, 1) := by decide +kernel
theorem dX6_run_47 : decode cX6_run 47 = .ok (.invokevirtual 73, 3) := by decide +kernel
theorem dX6_run_50 : decode cX6_run 50 = .ok (.istore_n 2, 1) := by decide +kernel
theorem dX6_run_51 : decode cX6_run 51 = .ok (.aload_n 0, 1) := by decide +kernel
theorem dX6_run_52 : decode cX6_run 52 = .ok (.getfield 10, 3) := by decide +kernel
theorem dX6_run_55 : decode cX6_run 55 = .ok (.iload_n 1, 1) := by decide +kernel
theorem dX6_run_56 : decode cX6_run 56 = .ok (.invokevirtual 177, 3) := by decide +kernel
theorem dX6_run_59 : decode cX6_run 59 = .ok (.aload_n 0, 1) := by decide +kernel
theorem dX6_run_60 : decode cX6_run 60 = .ok (.getfield 10, 3) := by decide +kernel
theorem dX6_run_63 : decode cX6_run 63 = .ok (.iconst 2, 1) := by decide +kernel
theorem dX6_run_64 : decode cX6_run 64 = .ok (.invokevirtual 73, 3) := by decide +kernel
theorem dX6_run_67 : decode cX6_run 67 = .ok (.iload_n 2, 1) := by decide +kernel
theorem dX6_run_68 : decode cX6_run 68 = .ok (.isub, 1) := by decide +kernel
theorem dX6_run_69 : decode cX6_run 69 = .ok (.ireturn, 1) := by decide +kernel
theorem dX6_isBetween_0 : decode cX6_isBetween 0 = .ok (.iload_n 0, 1) := by decide +kernel
theorem dX6_isBetween_1 : decode cX6_isBetween 1 = .ok (.iload_n 1, 1) := by decide +kernel
theorem dX6_isBetween_2 : decode cX6_isBetween 2 = .ok (.if_icmp .lt 12, 3) := by decide +kernel
theorem dX6_isBetween_5 : decode cX6_isBetween 5 = .ok (.iload_n 0, 1) := by decide +kernel
theorem dX6_isBetween_6 : decode cX6_isBetween 6 = .ok (.iload_n 2, 1) := by decide +kernel
theorem dX6_isBetween_7 : decode cX6_isBetween 7 = .ok (.if_icmp .gt 7, 3) := by decide +kernel
theorem dX6_isBetween_10 : decode cX6_isBetween 10 = .ok (.iconst 1, 1) := by decide +kernel
theorem dX6_isBetween_11 : decode cX6_isBetween 11 = .ok (.goto 4, 3) := by decide +kernel
theorem dX6_isBetween_14 : decode cX6_isBetween 14 = .ok (.iconst 0, 1) := by decide +kernel
theorem dX6_isBetween_15 : decode cX6_isBetween 15 = .ok (.ireturn, 1) := by decide +kernel
theorem dX6_foundTarget_0 : decode cX6_foundTarget 0 = .ok (.iload_n 0, 1) := by decide +kernel
theorem dX6_foundTarget_1 : decode cX6_foundTarget 1 = .ok (.iconst (-1), 1) := by decide +kernel
theorem dX6_foundTarget_2 : decode cX6_foundTarget 2 = .ok (.if_icmp .ne 8, 3) := by decide +kernel
theorem dX6_foundTarget_5 : decode cX6_foundTarget 5 = .ok (.ldc 116, 2) := by decide +kernel
theorem dX6_foundTarget_7 : decode cX6_foundTarget 7 = .ok (.goto 4, 3) := by decide +kernel
theorem dX6_foundTarget_10 : decode cX6_foundTarget 10 = .ok (.iload_n 0, 1) := by decide +kernel
theorem dX6_foundTarget_11 : decode cX6_foundTarget 11 = .ok (.ireturn, 1) := by decide +kernel
set_option maxRecDepth 20000 in
theorem ggX6_isTargetInRange_X6_isBetween : GoodIn wsX6_isTargetInRange wsX6_isBetween := goodIn_r _ [6] (by decide +kernel) (by decide +kernel)
set_option maxRecDepth 20000 in
theorem gX6_isTargetInRange_X6_isBetween : GoodIn wsX6_isTargetInRange (va_wsS RX6 37 yX6_isBetween wsX6_isBetween) := goodIn_app (goodIn_of _ (by decide +kernel)) ggX6_isTargetInRange_X6_isBetween
theorem dX6_isTargetInRange_0 : decode cX6_isTargetInRange 0 = .ok (.iload_n 0, 1) := by decide +kernel
theorem dX6_isTargetInRange_1 : decode cX6_isTargetInRange 1 = .ok (.iconst 0, 1) := by decide +kernel
theorem dX6_isTargetInRange_2 : decode cX6_isTargetInRange 2 = .ok (.ldc 104, 2) := by decide +kernel
theorem dX6_isTargetInRange_4 : decode cX6_isTargetInRange 4 = .ok (.invokestatic 37, 3) := by decide +kernel
theorem dX6_isTargetInRange_7 : decode cX6_isTargetInRange 7 = .ok (.ifCond .eq 68, 3) := by decide +kernel
theorem dX6_isTargetInRange_10 : decode cX6_isTargetInRange 10 = .ok (.iload_n 1, 1) := by decide +kernel
theorem dX6_isTargetInRange_11 : decode cX6_isTargetInRange 11 = .ok (.sipush 500, 3) := by decide +kernel
theorem dX6_isTargetInRange_14 : decode cX6_isTargetInRange 14 = .ok (.sipush 8500, 3) := by decide +kernel
theorem dX6_isTargetInRange_17 : decode cX6_isTargetInRange 17 = .ok (.invokestatic 37, 3) := by decide +kernel
theorem dX6_isTargetInRange_20 : decode cX6_isTargetInRange 20 = .ok (.ifCond .eq 55, 3) := by decide +kernel
theorem dX6_isTargetInRange_23 : decode cX6_isTargetInRange 23 = .ok (.iload_n 2, 1) := by decide +kernel
theorem dX6_isTargetInRange_24 : decode cX6_isTargetInRange 24 = .ok (.iconst 0, 1) := by decide +kernel
theorem dX6_isTargetInRange_25 : decode cX6_isTargetInRange 25 = .ok (.ldc 176, 2) := by decide +kernel
theorem dX6_isTargetInRange_27 : decode cX6_isTargetInRange 27 = .ok (.invokestatic 37, 3) := by decide +kernel
theorem dX6_isTargetInRange_30 : decode cX6_isTargetInRange 30 = .ok (.ifCond .eq 45, 3) := by decide +kernel
theorem dX6_isTargetInRange_33 : decode cX6_isTargetInRange 33 = .ok (.iload_n 3, 1) := by decide +kernel
theorem dX6_isTargetInRange_34 : decode cX6_isTargetInRange 34 = .ok (.iconst 0, 1) := by decide +kernel
theorem dX6_isTargetInRange_35 : decode cX6_isTargetInRange 35 = .ok (.ldc 176, 2) := by decide +kernel
theorem dX6_isTargetInRange_37 : decode cX6_isTargetInRange 37 = .ok (.invokestatic 37, 3) := by decide +kernel
theorem dX6_isTargetInRange_40 : decode cX6_isTargetInRange 40 = .ok (.ifCond .eq 35, 3) := by decide +kernel
theorem dX6_isTargetInRange_43 : decode cX6_isTargetInRange 43 = .ok (.iload_n 2, 1) := by decide +kernel
theorem dX6_isTargetInRange_44 : decode cX6_isTargetInRange 44 = .ok (.iload_n 3, 1) := by decide +kernel
theorem dX6_isTargetInRange_45 : decode cX6_isTargetInRange 45 = .ok (.if_icmp .ge 30, 3) := by decide +kernel
theorem dX6_isTargetInRange_48 : decode cX6_isTargetInRange 48 = .ok (.iload 4, 2) := by decide +kernel
theorem dX6_isTargetInRange_50 : decode cX6_isTargetInRange 50 = .ok (.iconst 1, 1) := by decide +kernel
theorem dX6_isTargetInRange_51 : decode cX6_isTargetInRange 51 = .ok (.sipush 600, 3) := by decide +kernel
theorem dX6_isTargetInRange_54 : decode cX6_isTargetInRange 54 = .ok (.invokestatic 37, 3) := by decide +kernel
theorem dX6_isTargetInRange_57 : decode cX6_isTargetInRange 57 = .ok (.ifCond .eq 18, 3) := by decide +kernel
theorem dX6_isTargetInRange_60 : decode cX6_isTargetInRange 60 = .ok (.iload 5, 2) := by decide +kernel
theorem dX6_isTargetInRange_62 : decode cX6_isTargetInRange 62 = .ok (.iconst 0, 1) := by decide +kernel
theorem dX6_isTargetInRange_63 : decode cX6_isTargetInRange 63 = .ok (.bipush 9, 2) := by decide +kernel
theorem dX6_isTargetInRange_65 : decode cX6_isTargetInRange 65 = .ok (.invokestatic 37, 3) := by decide +kernel
theorem dX6_isTargetInRange_68 : decode cX6_isTargetInRange 68 = .ok (.ifCond .eq 7, 3) := by decide +kernel
theorem dX6_isTargetInRange_71 : decode cX6_isTargetInRange 71 = .ok (.iconst 1, 1) := by decide +kernel
theorem dX6_isTargetInRange_72 : decode cX6_isTargetInRange 72 = .ok (.goto 4, 3) := by decide +kernel
theorem dX6_isTargetInRange_75 : decode cX6_isTargetInRange 75 = .ok (.iconst 0, 1) := by decide +kernel
theorem dX6_isTargetInRange_76 : decode cX6_isTargetInRange 76 = .ok (.ireturn, 1) := by decide +kernel
theorem dJ9_floorMod_7cf53_0 : decode cJ9_floorMod_7cf53 0 = .ok (.iload_n 0, 1) := by decide +kernel
theorem dJ9_floorMod_7cf53_1 : decode cJ9_floorMod_7cf53 1 = .ok (.iload_n 1, 1) := by decide +kernel
theorem dJ9_floorMod_7cf53_2 : decode cJ9_floorMod_7cf53 2 = .ok (.irem, 1) := by decide +kernel
theorem dJ9_floorMod_7cf53_3 : decode cJ9_floorMod_7cf53 3 = .ok (.istore_n 2, 1) := by decide +kernel
theorem dJ9_floorMod_7cf53_4 : decode cJ9_floorMod_7cf53 4 = .ok (.iload_n 0, 1) := by decide +kernel
theorem dJ9_floorMod_7cf53_5 : decode cJ9_floorMod_7cf53 5 = .ok (.iload_n 1, 1) := by decide +kernel
theorem dJ9_floorMod_7cf53_6 : decode cJ9_floorMod_7cf53 6 = .ok (.ixor, 1) := by decide +kernel
theorem dJ9_floorMod_7cf53_7 : decode cJ9_floorMod_7cf53 7 = .ok (.ifCond .ge 11, 3) := by decide +kernel
theorem dJ9_floorMod_7cf53_10 : decode cJ9_floorMod_7cf53 10 = .ok (.iload_n 2, 1) := by decide +kernel
theorem dJ9_floorMod_7cf53_11 : decode cJ9_floorMod_7cf53 11 = .ok (.ifCond .eq 7, 3) := by decide +kernel
theorem dJ9_floorMod_7cf53_14 : decode cJ9_floorMod_7cf53 14 = .ok (.iload_n 2, 1) := by decide +kernel
theorem dJ9_floorMod_7cf53_15 : decode cJ9_floorMod_7cf53 15 = .ok (.iload_n 1, 1) := by decide +kernel
theorem dJ9_floorMod_7cf53_16 : decode cJ9_floorMod_7cf53 16 = .ok (.iadd, 1) := by decide +kernel
theorem dJ9_floorMod_7cf53_17 : decode cJ9_floorMod_7cf53 17 = .ok (.ireturn, 1) := by decide +kernel
theorem dJ9_floorMod_7cf53_18 : decode cJ9_floorMod_7cf53 18 = .ok (.iload_n 2, 1) := by decide +kernel
theorem dJ9_floorMod_7cf53_19 : decode cJ9_floorMod_7cf53 19 = .ok (.ireturn, 1) := by decide +kernel
theorem dJ9_abs_0f7a4_0 : decode cJ9_abs_0f7a4 0 = .ok (.iload_n 0, 1) := by decide +kernel
theorem dJ9_abs_0f7a4_1 : decode cJ9_abs_0f7a4 1 = .ok (.ifCond .ge 8, 3) := by decide +kernel
theorem dJ9_abs_0f7a4_4 : decode cJ9_abs_0f7a4 4 = .ok (.iload_n 0, 1) := by decide +kernel
theorem dJ9_abs_0f7a4_5 : decode cJ9_abs_0f7a4 5 = .ok (.ineg, 1) := by decide +kernel
theorem dJ9_abs_0f7a4_6 : decode cJ9_abs_0f7a4 6 = .ok (.goto 4, 3) := by decide +kernel
theorem dJ9_abs_0f7a4_9 : decode cJ9_abs_0f7a4 9 = .ok (.iload_n 0, 1) := by decide +kernel
theorem dJ9_abs_0f7a4_10 : decode cJ9_abs_0f7a4 10 = .ok (.ireturn, 1) := by decide +kernel
theorem dJ9_max_7cf53_0 : decode cJ9_max_7cf53 0 = .ok (.iload_n 0, 1) := by decide +kernel
theorem dJ9_max_7cf53_1 : decode cJ9_max_7cf53 1 = .ok (.iload_n 1, 1) := by decide +kernel
theorem dJ9_max_7cf53_2 : decode cJ9_max_7cf53 2 = .ok (.if_icmp .lt 7, 3) := by decide +kernel
theorem dJ9_max_7cf53_5 : decode cJ9_max_7cf53 5 = .ok (.iload_n 0, 1) := by decide +kernel
theorem dJ9_max_7cf53_6 : decode cJ9_max_7cf53 6 = .ok (.goto 4, 3) := by decide +kernel
theorem dJ9_max_7cf53_9 : decode cJ9_max_7cf53 9 = .ok (.iload_n 1, 1) := by decide +kernel
theorem dJ9_max_7cf53_10 : decode cJ9_max_7cf53 10 = .ok (.ireturn, 1) := by decide +kernel
theorem dJ9_min_7cf53_0 : decode cJ9_min_7cf53 0 = .ok (.iload_n 0, 1) := by decide +kernel
theorem dJ9_min_7cf53_1 : decode cJ9_min_7cf53 1 = .ok (.iload_n 1, 1) := by decide +kernel
theorem dJ9_min_7cf53_2 : decode cJ9_min_7cf53 2 = .ok (.if_icmp .gt 7, 3) := by decide +kernel
theorem dJ9_min_7cf53_5 : decode cJ9_min_7cf53 5 = .ok (.iload_n 0, 1) := by decide +kernel
theorem dJ9_min_7cf53_6 : decode cJ9_min_7cf53 6 = .ok (.goto 4, 3) := by decide +kernel
theorem dJ9_min_7cf53_9 : decode cJ9_min_7cf53 9 = .ok (.iload_n 1, 1) := by decide +kernel
theorem dJ9_min_7cf53_10 : decode cJ9_min_7cf53 10 = .ok (.ireturn, 1) := by decide +kernel

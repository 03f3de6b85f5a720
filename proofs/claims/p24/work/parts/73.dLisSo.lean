set_option maxRecDepth 20000 in
theorem ggL_isSo_L_under : GoodIn wsL_isSo wsL_under := goodIn_r _ [8, 3] (by decide +kernel) (by decide +kernel)
set_option maxRecDepth 20000 in
theorem gL_isSo_L_under : GoodIn wsL_isSo (va_wsS RL 51 yL_under wsL_under) := goodIn_app (goodIn_of _ (by decide +kernel)) ggL_isSo_L_under
set_option maxRecDepth 20000 in
theorem ggL_isSo_L_dish : GoodIn wsL_isSo wsL_dish := goodIn_r _ [11] (by decide +kernel) (by decide +kernel)
set_option maxRecDepth 20000 in
theorem gL_isSo_L_dish : GoodIn wsL_isSo (va_wsS RL 9 yL_dish wsL_dish) := goodIn_app (goodIn_of _ (by decide +kernel)) ggL_isSo_L_dish
set_option maxRecDepth 20000 in
theorem ggL_isSo_X6_count : GoodIn wsL_isSo wsX6_count := goodIn_r _ [16, 17, 18, 19, 20, 21, 22, 23, 24, 25, 26, 27, 28, 29, 30, 31, 32, 33, 34, 15, 35, 36, 37, 38, 39, 40, 41, 42, 43, 44, 45, 46, 47, 48, 49, 50, 51, 52, 53, 54, 55, 56, 57, 58, 59, 60, 61, 62, 63, 64, 65, 66, 67, 68, 69, 70, 71, 72, 73, 74, 75, 76, 77, 254, 255, 256, 257, 258, 259, 260, 261, 262, 263, 264, 265, 266, 267, 268, 269, 270, 271, 272, 273, 274, 275, 276, 277, 278, 279, 280, 281, 282, 283, 284, 285, 286, 287, 288, 289, 290, 291, 292, 293, 294, 295, 296, 297, 298, 299, 300] (by decide +kernel) (by decide +kernel)
set_option maxRecDepth 20000 in
theorem gL_isSo_X6_count : GoodIn wsL_isSo (wsV RL 113 RX6 yX6_count wsX6_count) := goodIn_app (goodIn_of _ (by decide +kernel)) ggL_isSo_X6_count
set_option maxRecDepth 20000 in
theorem ggL_isSo_L_day : GoodIn wsL_isSo wsL_day := goodIn_r _ [80] (by decide +kernel) (by decide +kernel)
set_option maxRecDepth 20000 in
theorem gL_isSo_L_day : GoodIn wsL_isSo (va_wsS RL 55 yL_day wsL_day) := goodIn_app (goodIn_of _ (by decide +kernel)) ggL_isSo_L_day
set_option maxRecDepth 20000 in
theorem ggL_isSo_X6_next : GoodIn wsL_isSo wsX6_next := goodIn_r _ [84, 17, 85, 86, 87, 25, 88, 27, 89, 90, 91, 92, 28, 42, 93, 94, 95, 96, 97, 98, 99, 100, 101, 102, 103, 104, 30, 31, 32, 63, 64, 65, 66, 48, 58, 59, 60, 61, 62, 54, 55, 56, 57, 105, 106, 107, 108, 109, 110, 111, 112, 113, 114, 115, 116, 117, 118, 119, 120, 121, 122, 123, 124, 125, 126, 127, 128, 129, 130, 131, 68, 69, 70, 71, 72, 73, 132, 133, 134, 135, 136, 137, 138, 139, 140, 141, 142, 51, 52, 143, 144, 145, 146, 147, 148, 149, 150, 151, 152, 153, 154, 155, 156, 157, 33, 34, 15, 35, 36, 254, 255, 256, 257, 266, 267, 268, 269, 270, 271, 272, 273, 274, 275, 276, 277, 278, 279, 280, 281, 282, 283, 284, 285, 286, 287, 288, 289, 290, 301, 302, 303, 304, 305, 306, 307, 291, 292, 293, 294, 295, 296, 297, 298, 299, 300] (by decide +kernel) (by decide +kernel)
set_option maxRecDepth 20000 in
theorem gL_isSo_X6_next : GoodIn wsL_isSo (wsV RL 116 RX6 yX6_next wsX6_next) := goodIn_app (goodIn_of _ (by decide +kernel)) ggL_isSo_X6_next
set_option maxRecDepth 20000 in
theorem ggL_isSo_L_next : GoodIn wsL_isSo wsL_next := goodIn_r _ [160, 3, 161, 162, 7, 163, 164, 165, 166, 167, 168, 169, 170, 9, 10, 11, 171, 172, 173, 174, 175, 176, 177, 178, 179, 180, 2, 181, 182, 183, 184, 185, 186, 5, 6, 8, 78, 79, 80] (by decide +kernel) (by decide +kernel)
set_option maxRecDepth 20000 in
theorem gL_isSo_L_next : GoodIn wsL_isSo (va_wsS RL 67 yL_next wsL_next) := goodIn_app (goodIn_of _ (by decide +kernel)) ggL_isSo_L_next
set_option maxRecDepth 20000 in
theorem ggL_isSo_X6_isWound : GoodIn wsL_isSo wsX6_isWound := goodIn_r _ [190, 17, 191, 192, 193, 126, 100, 127, 194, 254, 255, 256, 257, 266, 267, 268, 269, 270, 271, 272, 273, 274, 275, 276, 291, 292, 293, 294, 295, 296, 297, 298, 299, 300] (by decide +kernel) (by decide +kernel)
set_option maxRecDepth 20000 in
theorem gL_isSo_X6_isWound : GoodIn wsL_isSo (wsV RL 119 RX6 yX6_isWound wsX6_isWound) := goodIn_app (goodIn_of _ (by decide +kernel)) ggL_isSo_X6_isWound
set_option maxRecDepth 20000 in
theorem ggL_isSo_L_size : GoodIn wsL_isSo wsL_size := goodIn_r _ [176] (by decide +kernel) (by decide +kernel)
set_option maxRecDepth 20000 in
theorem gL_isSo_L_size : GoodIn wsL_isSo (va_wsS RL 23 yL_size wsL_size) := goodIn_app (goodIn_of _ (by decide +kernel)) ggL_isSo_L_size
set_option maxRecDepth 20000 in
theorem ggL_isSo_X6_axis : GoodIn wsL_isSo wsX6_axis := goodIn_r _ [198, 199, 17, 200, 201, 15, 202, 203, 204, 205, 25, 206, 51, 110, 207, 208, 209, 70, 210, 211, 212, 213, 72, 73, 214, 215, 216, 217, 218, 68, 69, 71, 254, 255, 256, 257, 266, 267, 268, 269, 270, 271, 272, 273, 274, 275, 276, 291, 292, 293, 294, 295, 296, 297, 298, 299, 300] (by decide +kernel) (by decide +kernel)
set_option maxRecDepth 20000 in
theorem gL_isSo_X6_axis : GoodIn wsL_isSo (wsV RL 122 RX6 yX6_axis wsX6_axis) := goodIn_app (goodIn_of _ (by decide +kernel)) ggL_isSo_X6_axis
set_option maxRecDepth 20000 in
theorem ggL_isSo_X6_target : GoodIn wsL_isSo wsX6_target := goodIn_r _ [222, 17, 199, 223, 224, 225, 226, 25, 227, 27, 28, 228, 229, 230, 154, 231, 232, 233, 234, 157, 235, 156, 236, 237, 238, 239, 240, 241, 242, 243, 244, 245, 246, 247, 248, 254, 255, 256, 257, 266, 267, 268, 269, 270, 271, 272, 273, 274, 275, 276, 277, 278, 279, 280, 281, 282, 283, 284, 285, 286, 287, 288, 289, 290] (by decide +kernel) (by decide +kernel)
set_option maxRecDepth 20000 in
theorem gL_isSo_X6_target : GoodIn wsL_isSo (wsV RL 125 RX6 yX6_target wsX6_target) := goodIn_app (goodIn_of _ (by decide +kernel)) ggL_isSo_X6_target
set_option maxRecDepth 20000 in
theorem ggL_isSo_X6_why : GoodIn wsL_isSo wsX6_why := goodIn_r _ [252, 17, 199, 223, 224, 225, 226, 25, 227, 27, 28, 253, 90, 91, 92, 42, 93, 94, 95, 96, 97, 98, 99, 100, 101, 102, 103, 104, 30, 31, 32, 63, 64, 65, 66, 48, 58, 59, 60, 61, 62, 54, 55, 56, 57, 105, 106, 107, 108, 109, 110, 111, 112, 113, 114, 115, 116, 117, 118, 119, 120, 121, 122, 123, 124, 125, 126, 127, 128, 129, 130, 131, 68, 69, 70, 71, 72, 73, 132, 133, 134, 135, 136, 137, 138, 139, 140, 141, 142, 51, 52, 143, 144, 145, 146, 147, 148, 149, 150, 254, 255, 256, 257, 266, 267, 268, 269, 270, 271, 272, 273, 274, 275, 276, 277, 278, 279, 280, 281, 282, 283, 284, 285, 286, 287, 288, 289, 290, 301, 302, 303, 304, 305, 306, 307, 291, 292, 293, 294, 295, 296, 297, 298, 299, 300] (by decide +kernel) (by decide +kernel)
set_option maxRecDepth 20000 in
theorem gL_isSo_X6_why : GoodIn wsL_isSo (wsV RL 128 RX6 yX6_why wsX6_why) := goodIn_app (goodIn_of _ (by decide +kernel)) ggL_isSo_X6_why
set_option maxRecDepth 20000 in
theorem ggL_isSo_L_why : GoodIn wsL_isSo wsL_why := goodIn_r _ [163, 164, 165, 166, 7, 167, 168, 169, 170, 9, 10, 11, 171, 172, 173, 174, 175, 176, 177, 178, 179, 180, 3, 2, 181, 182, 183, 184, 185, 186, 5, 6, 8, 78, 79, 80] (by decide +kernel) (by decide +kernel)
set_option maxRecDepth 20000 in
theorem gL_isSo_L_why : GoodIn wsL_isSo (va_wsS RL 59 yL_why wsL_why) := goodIn_app (goodIn_of _ (by decide +kernel)) ggL_isSo_L_why
theorem dL_isSo_0 : decode cL_isSo 0 = .ok (.iconst 4, 1) := by decide +kernel
theorem dL_isSo_1 : decode cL_isSo 1 = .ok (.newarray .int, 2) := by decide +kernel
theorem dL_isSo_3 : decode cL_isSo 3 = .ok (.astore_n 3, 1) := by decide +kernel
theorem dL_isSo_4 : decode cL_isSo 4 = .ok (.iconst 0, 1) := by decide +kernel
theorem dL_isSo_5 : decode cL_isSo 5 = .ok (.istore 4, 2) := by decide +kernel
theorem dL_isSo_7 : decode cL_isSo 7 = .ok (.iload 4, 2) := by decide +kernel
theorem dL_isSo_9 : decode cL_isSo 9 = .ok (.aload_n 1, 1) := by decide +kernel
theorem dL_isSo_10 : decode cL_isSo 10 = .ok (.bipush 7, 2) := by decide +kernel
theorem dL_isSo_12 : decode cL_isSo 12 = .ok (.iaload, 1) := by decide +kernel
theorem dL_isSo_13 : decode cL_isSo 13 = .ok (.if_icmp .ge 25, 3) := by decide +kernel
theorem dL_isSo_16 : decode cL_isSo 16 = .ok (.aload_n 3, 1) := by decide +kernel
theorem dL_isSo_17 : decode cL_isSo 17 = .ok (.aload_n 2, 1) := by decide +kernel
theorem dL_isSo_18 : decode cL_isSo 18 = .ok (.bipush 14, 2) := by decide +kernel
theorem dL_isSo_20 : decode cL_isSo 20 = .ok (.iload 4, 2) := by decide +kernel
theorem dL_isSo_22 : decode cL_isSo 22 = .ok (.imul, 1) := by decide +kernel
theorem dL_isSo_23 : decode cL_isSo 23 = .ok (.bipush 6, 2) := by decide +kernel
theorem dL_isSo_25 : decode cL_isSo 25 = .ok (.iadd, 1) := by decide +kernel
theorem dL_isSo_26 : decode cL_isSo 26 = .ok (.iaload, 1) := by decide +kernel
theorem dL_isSo_27 : decode cL_isSo 27 = .ok (.dup2, 1) := by decide +kernel
theorem dL_isSo_28 : decode cL_isSo 28 = .ok (.iaload, 1) := by decide +kernel
theorem dL_isSo_29 : decode cL_isSo 29 = .ok (.iconst 1, 1) := by decide +kernel
theorem dL_isSo_30 : decode cL_isSo 30 = .ok (.iadd, 1) := by decide +kernel
theorem dL_isSo_31 : decode cL_isSo 31 = .ok (.iastore, 1) := by decide +kernel
theorem dL_isSo_32 : decode cL_isSo 32 = .ok (.iinc 4 1, 3) := by decide +kernel
theorem dL_isSo_35 : decode cL_isSo 35 = .ok (.goto (-28), 3) := by decide +kernel
theorem dL_isSo_38 : decode cL_isSo 38 = .ok (.aload_n 1, 1) := by decide +kernel
theorem dL_isSo_39 : decode cL_isSo 39 = .ok (.aload_n 2, 1) := by decide +kernel
theorem dL_isSo_40 : decode cL_isSo 40 = .ok (.invokestatic 51, 3) := by decide +kernel
theorem dL_isSo_43 : decode cL_isSo 43 = .ok (.istore 4, 2) := by decide +kernel
theorem dL_isSo_45 : decode cL_isSo 45 = .ok (.aload_n 1, 1) := by decide +kernel
theorem dL_isSo_46 : decode cL_isSo 46 = .ok (.iconst 0, 1) := by decide +kernel
theorem dL_isSo_47 : decode cL_isSo 47 = .ok (.invokestatic 9, 3) := by decide +kernel
theorem dL_isSo_50 : decode cL_isSo 50 = .ok (.ifCond .ge 14, 3) := by decide +kernel
theorem dL_isSo_53 : decode cL_isSo 53 = .ok (.aload_n 1, 1) := by decide +kernel
theorem dL_isSo_54 : decode cL_isSo 54 = .ok (.iconst 0, 1) := by decide +kernel
theorem dL_isSo_55 : decode cL_isSo 55 = .ok (.invokestatic 9, 3) := by decide +kernel
theorem dL_isSo_58 : decode cL_isSo 58 = .ok (.ldc 33, 2) := by decide +kernel
theorem dL_isSo_60 : decode cL_isSo 60 = .ok (.iadd, 1) := by decide +kernel
theorem dL_isSo_61 : decode cL_isSo 61 = .ok (.goto 8, 3) := by decide +kernel
theorem dL_isSo_64 : decode cL_isSo 64 = .ok (.aload_n 1, 1) := by decide +kernel
theorem dL_isSo_65 : decode cL_isSo 65 = .ok (.iconst 0, 1) := by decide +kernel
theorem dL_isSo_66 : decode cL_isSo 66 = .ok (.invokestatic 9, 3) := by decide +kernel
theorem dL_isSo_69 : decode cL_isSo 69 = .ok (.istore 5, 2) := by decide +kernel
theorem dL_isSo_71 : decode cL_isSo 71 = .ok (.aload_n 0, 1) := by decide +kernel
theorem dL_isSo_72 : decode cL_isSo 72 = .ok (.iconst 0, 1) := by decide +kernel
theorem dL_isSo_73 : decode cL_isSo 73 = .ok (.invokevirtual 113, 3) := by decide +kernel
theorem dL_isSo_76 : decode cL_isSo 76 = .ok (.aload_n 1, 1) := by decide +kernel
theorem dL_isSo_77 : decode cL_isSo 77 = .ok (.iconst 4, 1) := by decide +kernel
theorem dL_isSo_78 : decode cL_isSo 78 = .ok (.iaload, 1) := by decide +kernel
theorem dL_isSo_79 : decode cL_isSo 79 = .ok (.if_icmp .ne 218, 3) := by decide +kernel
theorem dL_isSo_82 : decode cL_isSo 82 = .ok (.aload_n 0, 1) := by decide +kernel
theorem dL_isSo_83 : decode cL_isSo 83 = .ok (.iconst 1, 1) := by decide +kernel
theorem dL_isSo_84 : decode cL_isSo 84 = .ok (.invokevirtual 113, 3) := by decide +kernel
theorem dL_isSo_87 : decode cL_isSo 87 = .ok (.aload_n 1, 1) := by decide +kernel
theorem dL_isSo_88 : decode cL_isSo 88 = .ok (.iconst 4, 1) := by decide +kernel
theorem dL_isSo_89 : decode cL_isSo 89 = .ok (.iaload, 1) := by decide +kernel
theorem dL_isSo_90 : decode cL_isSo 90 = .ok (.sipush 1440, 3) := by decide +kernel
theorem dL_isSo_93 : decode cL_isSo 93 = .ok (.idiv, 1) := by decide +kernel
theorem dL_isSo_94 : decode cL_isSo 94 = .ok (.if_icmp .ne 203, 3) := by decide +kernel
theorem dL_isSo_97 : decode cL_isSo 97 = .ok (.aload_n 0, 1) := by decide +kernel
theorem dL_isSo_98 : decode cL_isSo 98 = .ok (.iconst 2, 1) := by decide +kernel
theorem dL_isSo_99 : decode cL_isSo 99 = .ok (.invokevirtual 113, 3) := by decide +kernel
theorem dL_isSo_102 : decode cL_isSo 102 = .ok (.aload_n 1, 1) := by decide +kernel
theorem dL_isSo_103 : decode cL_isSo 103 = .ok (.bipush 22, 2) := by decide +kernel
theorem dL_isSo_105 : decode cL_isSo 105 = .ok (.aload_n 1, 1) := by decide +kernel
theorem dL_isSo_106 : decode cL_isSo 106 = .ok (.iconst 4, 1) := by decide +kernel
theorem dL_isSo_107 : decode cL_isSo 107 = .ok (.iaload, 1) := by decide +kernel
theorem dL_isSo_108 : decode cL_isSo 108 = .ok (.sipush 1440, 3) := by decide +kernel
theorem dL_isSo_111 : decode cL_isSo 111 = .ok (.idiv, 1) := by decide +kernel
theorem dL_isSo_112 : decode cL_isSo 112 = .ok (.iadd, 1) := by decide +kernel
theorem dL_isSo_113 : decode cL_isSo 113 = .ok (.iaload, 1) := by decide +kernel
theorem dL_isSo_114 : decode cL_isSo 114 = .ok (.if_icmp .ne 183, 3) := by decide +kernel
theorem dL_isSo_117 : decode cL_isSo 117 = .ok (.aload_n 0, 1) := by decide +kernel
theorem dL_isSo_118 : decode cL_isSo 118 = .ok (.iconst 3, 1) := by decide +kernel
theorem dL_isSo_119 : decode cL_isSo 119 = .ok (.invokevirtual 113, 3) := by decide +kernel
theorem dL_isSo_122 : decode cL_isSo 122 = .ok (.aload_n 1, 1) := by decide +kernel
theorem dL_isSo_123 : decode cL_isSo 123 = .ok (.invokestatic 55, 3) := by decide +kernel
theorem dL_isSo_126 : decode cL_isSo 126 = .ok (.if_icmp .ne 171, 3) := by decide +kernel
theorem dL_isSo_129 : decode cL_isSo 129 = .ok (.aload_n 0, 1) := by decide +kernel
theorem dL_isSo_130 : decode cL_isSo 130 = .ok (.iconst 4, 1) := by decide +kernel
theorem dL_isSo_131 : decode cL_isSo 131 = .ok (.invokevirtual 113, 3) := by decide +kernel
theorem dL_isSo_134 : decode cL_isSo 134 = .ok (.aload_n 1, 1) := by decide +kernel
theorem dL_isSo_135 : decode cL_isSo 135 = .ok (.bipush 7, 2) := by decide +kernel
theorem dL_isSo_137 : decode cL_isSo 137 = .ok (.iaload, 1) := by decide +kernel
theorem dL_isSo_138 : decode cL_isSo 138 = .ok (.if_icmp .ne 159, 3) := by decide +kernel
theorem dL_isSo_141 : decode cL_isSo 141 = .ok (.aload_n 0, 1) := by decide +kernel
theorem dL_isSo_142 : decode cL_isSo 142 = .ok (.iconst 5, 1) := by decide +kernel
theorem dL_isSo_143 : decode cL_isSo 143 = .ok (.invokevirtual 113, 3) := by decide +kernel
theorem dL_isSo_146 : decode cL_isSo 146 = .ok (.aload_n 3, 1) := by decide +kernel
theorem dL_isSo_147 : decode cL_isSo 147 = .ok (.iconst 0, 1) := by decide +kernel
theorem dL_isSo_148 : decode cL_isSo 148 = .ok (.iaload, 1) := by decide +kernel
theorem dL_isSo_149 : decode cL_isSo 149 = .ok (.if_icmp .ne 148, 3) := by decide +kernel
theorem dL_isSo_152 : decode cL_isSo 152 = .ok (.aload_n 0, 1) := by decide +kernel
theorem dL_isSo_153 : decode cL_isSo 153 = .ok (.bipush 6, 2) := by decide +kernel
theorem dL_isSo_155 : decode cL_isSo 155 = .ok (.invokevirtual 113, 3) := by decide +kernel
theorem dL_isSo_158 : decode cL_isSo 158 = .ok (.aload_n 3, 1) := by decide +kernel
theorem dL_isSo_159 : decode cL_isSo 159 = .ok (.iconst 2, 1) := by decide +kernel
theorem dL_isSo_160 : decode cL_isSo 160 = .ok (.iaload, 1) := by decide +kernel
theorem dL_isSo_161 : decode cL_isSo 161 = .ok (.if_icmp .ne 136, 3) := by decide +kernel
theorem dL_isSo_164 : decode cL_isSo 164 = .ok (.aload_n 0, 1) := by decide +kernel
theorem dL_isSo_165 : decode cL_isSo 165 = .ok (.bipush 7, 2) := by decide +kernel
theorem dL_isSo_167 : decode cL_isSo 167 = .ok (.invokevirtual 113, 3) := by decide +kernel
theorem dL_isSo_170 : decode cL_isSo 170 = .ok (.aload_n 3, 1) := by decide +kernel
theorem dL_isSo_171 : decode cL_isSo 171 = .ok (.iconst 3, 1) := by decide +kernel
theorem dL_isSo_172 : decode cL_isSo 172 = .ok (.iaload, 1) := by decide +kernel
theorem dL_isSo_173 : decode cL_isSo 173 = .ok (.if_icmp .ne 124, 3) := by decide +kernel
theorem dL_isSo_176 : decode cL_isSo 176 = .ok (.aload_n 0, 1) := by decide +kernel
theorem dL_isSo_177 : decode cL_isSo 177 = .ok (.bipush 8, 2) := by decide +kernel
theorem dL_isSo_179 : decode cL_isSo 179 = .ok (.invokevirtual 113, 3) := by decide +kernel
theorem dL_isSo_182 : decode cL_isSo 182 = .ok (.iload 4, 2) := by decide +kernel
theorem dL_isSo_184 : decode cL_isSo 184 = .ok (.if_icmp .ne 113, 3) := by decide +kernel
theorem dL_isSo_187 : decode cL_isSo 187 = .ok (.aload_n 0, 1) := by decide +kernel
theorem dL_isSo_188 : decode cL_isSo 188 = .ok (.bipush 9, 2) := by decide +kernel
theorem dL_isSo_190 : decode cL_isSo 190 = .ok (.invokevirtual 113, 3) := by decide +kernel
theorem dL_isSo_193 : decode cL_isSo 193 = .ok (.iload 4, 2) := by decide +kernel
theorem dL_isSo_195 : decode cL_isSo 195 = .ok (.ifCond .ge 8, 3) := by decide +kernel
theorem dL_isSo_198 : decode cL_isSo 198 = .ok (.ldc 32, 2) := by decide +kernel
theorem dL_isSo_200 : decode cL_isSo 200 = .ok (.goto 17, 3) := by decide +kernel
theorem dL_isSo_203 : decode cL_isSo 203 = .ok (.aload_n 2, 1) := by decide +kernel
theorem dL_isSo_204 : decode cL_isSo 204 = .ok (.bipush 14, 2) := by decide +kernel
theorem dL_isSo_206 : decode cL_isSo 206 = .ok (.iload 4, 2) := by decide +kernel
theorem dL_isSo_208 : decode cL_isSo 208 = .ok (.imul, 1) := by decide +kernel
theorem dL_isSo_209 : decode cL_isSo 209 = .ok (.bipush 9, 2) := by decide +kernel
theorem dL_isSo_211 : decode cL_isSo 211 = .ok (.iadd, 1) := by decide +kernel
theorem dL_isSo_212 : decode cL_isSo 212 = .ok (.iaload, 1) := by decide +kernel
theorem dL_isSo_213 : decode cL_isSo 213 = .ok (.aload_n 1, 1) := by decide +kernel
theorem dL_isSo_214 : decode cL_isSo 214 = .ok (.iconst 4, 1) := by decide +kernel
theorem dL_isSo_215 : decode cL_isSo 215 = .ok (.iaload, 1) := by decide +kernel
theorem dL_isSo_216 : decode cL_isSo 216 = .ok (.isub, 1) := by decide +kernel
theorem dL_isSo_217 : decode cL_isSo 217 = .ok (.if_icmp .ne 80, 3) := by decide +kernel
theorem dL_isSo_220 : decode cL_isSo 220 = .ok (.aload_n 0, 1) := by decide +kernel
theorem dL_isSo_221 : decode cL_isSo 221 = .ok (.bipush 16, 2) := by decide +kernel
theorem dL_isSo_223 : decode cL_isSo 223 = .ok (.invokevirtual 113, 3) := by decide +kernel
theorem dL_isSo_226 : decode cL_isSo 226 = .ok (.aload_n 1, 1) := by decide +kernel
theorem dL_isSo_227 : decode cL_isSo 227 = .ok (.iconst 5, 1) := by decide +kernel
theorem dL_isSo_228 : decode cL_isSo 228 = .ok (.iaload, 1) := by decide +kernel
theorem dL_isSo_229 : decode cL_isSo 229 = .ok (.if_icmp .ne 68, 3) := by decide +kernel
theorem dL_isSo_232 : decode cL_isSo 232 = .ok (.aload_n 0, 1) := by decide +kernel
theorem dL_isSo_233 : decode cL_isSo 233 = .ok (.bipush 17, 2) := by decide +kernel
theorem dL_isSo_235 : decode cL_isSo 235 = .ok (.invokevirtual 113, 3) := by decide +kernel
theorem dL_isSo_238 : decode cL_isSo 238 = .ok (.aload_n 1, 1) := by decide +kernel
theorem dL_isSo_239 : decode cL_isSo 239 = .ok (.bipush 6, 2) := by decide +kernel
theorem dL_isSo_241 : decode cL_isSo 241 = .ok (.iaload, 1) := by decide +kernel
theorem dL_isSo_242 : decode cL_isSo 242 = .ok (.if_icmp .ne 55, 3) := by decide +kernel
theorem dL_isSo_245 : decode cL_isSo 245 = .ok (.aload_n 0, 1) := by decide +kernel
theorem dL_isSo_246 : decode cL_isSo 246 = .ok (.bipush 18, 2) := by decide +kernel
theorem dL_isSo_248 : decode cL_isSo 248 = .ok (.invokevirtual 113, 3) := by decide +kernel
theorem dL_isSo_251 : decode cL_isSo 251 = .ok (.iload 5, 2) := by decide +kernel
theorem dL_isSo_253 : decode cL_isSo 253 = .ok (.if_icmp .ne 44, 3) := by decide +kernel
theorem dL_isSo_256 : decode cL_isSo 256 = .ok (.aload_n 0, 1) := by decide +kernel
theorem dL_isSo_257 : decode cL_isSo 257 = .ok (.invokevirtual 116, 3) := by decide +kernel
theorem dL_isSo_260 : decode cL_isSo 260 = .ok (.aload_n 1, 1) := by decide +kernel
theorem dL_isSo_261 : decode cL_isSo 261 = .ok (.aload_n 2, 1) := by decide +kernel
theorem dL_isSo_262 : decode cL_isSo 262 = .ok (.invokestatic 67, 3) := by decide +kernel
theorem dL_isSo_265 : decode cL_isSo 265 = .ok (.if_icmp .ne 32, 3) := by decide +kernel
theorem dL_isSo_268 : decode cL_isSo 268 = .ok (.aload_n 0, 1) := by decide +kernel
theorem dL_isSo_269 : decode cL_isSo 269 = .ok (.invokevirtual 119, 3) := by decide +kernel
theorem dL_isSo_272 : decode cL_isSo 272 = .ok (.aload_n 1, 1) := by decide +kernel
theorem dL_isSo_273 : decode cL_isSo 273 = .ok (.bipush 11, 2) := by decide +kernel
theorem dL_isSo_275 : decode cL_isSo 275 = .ok (.iaload, 1) := by decide +kernel
theorem dL_isSo_276 : decode cL_isSo 276 = .ok (.invokestatic 23, 3) := by decide +kernel
theorem dL_isSo_279 : decode cL_isSo 279 = .ok (.aload_n 1, 1) := by decide +kernel
theorem dL_isSo_280 : decode cL_isSo 280 = .ok (.iconst 1, 1) := by decide +kernel
theorem dL_isSo_281 : decode cL_isSo 281 = .ok (.iaload, 1) := by decide +kernel
theorem dL_isSo_282 : decode cL_isSo 282 = .ok (.if_icmp .le 7, 3) := by decide +kernel
theorem dL_isSo_285 : decode cL_isSo 285 = .ok (.iconst 1, 1) := by decide +kernel
theorem dL_isSo_286 : decode cL_isSo 286 = .ok (.goto 4, 3) := by decide +kernel
theorem dL_isSo_289 : decode cL_isSo 289 = .ok (.iconst 0, 1) := by decide +kernel
theorem dL_isSo_290 : decode cL_isSo 290 = .ok (.if_icmp .ne 7, 3) := by decide +kernel
theorem dL_isSo_293 : decode cL_isSo 293 = .ok (.iconst 1, 1) := by decide +kernel
theorem dL_isSo_294 : decode cL_isSo 294 = .ok (.goto 4, 3) := by decide +kernel
theorem dL_isSo_297 : decode cL_isSo 297 = .ok (.iconst 0, 1) := by decide +kernel
theorem dL_isSo_298 : decode cL_isSo 298 = .ok (.istore 6, 2) := by decide +kernel
theorem dL_isSo_300 : decode cL_isSo 300 = .ok (.iconst 0, 1) := by decide +kernel
theorem dL_isSo_301 : decode cL_isSo 301 = .ok (.istore 7, 2) := by decide +kernel
theorem dL_isSo_303 : decode cL_isSo 303 = .ok (.iload 7, 2) := by decide +kernel
theorem dL_isSo_305 : decode cL_isSo 305 = .ok (.iconst 4, 1) := by decide +kernel
theorem dL_isSo_306 : decode cL_isSo 306 = .ok (.if_icmp .ge 37, 3) := by decide +kernel
theorem dL_isSo_309 : decode cL_isSo 309 = .ok (.iload 6, 2) := by decide +kernel
theorem dL_isSo_311 : decode cL_isSo 311 = .ok (.ifCond .eq 23, 3) := by decide +kernel
theorem dL_isSo_314 : decode cL_isSo 314 = .ok (.aload_n 0, 1) := by decide +kernel
theorem dL_isSo_315 : decode cL_isSo 315 = .ok (.bipush 12, 2) := by decide +kernel
theorem dL_isSo_317 : decode cL_isSo 317 = .ok (.iload 7, 2) := by decide +kernel
theorem dL_isSo_319 : decode cL_isSo 319 = .ok (.iadd, 1) := by decide +kernel
theorem dL_isSo_320 : decode cL_isSo 320 = .ok (.invokevirtual 113, 3) := by decide +kernel
theorem dL_isSo_323 : decode cL_isSo 323 = .ok (.aload_n 1, 1) := by decide +kernel
theorem dL_isSo_324 : decode cL_isSo 324 = .ok (.iload 7, 2) := by decide +kernel
theorem dL_isSo_326 : decode cL_isSo 326 = .ok (.iaload, 1) := by decide +kernel
theorem dL_isSo_327 : decode cL_isSo 327 = .ok (.if_icmp .ne 7, 3) := by decide +kernel
theorem dL_isSo_330 : decode cL_isSo 330 = .ok (.iconst 1, 1) := by decide +kernel
theorem dL_isSo_331 : decode cL_isSo 331 = .ok (.goto 4, 3) := by decide +kernel
theorem dL_isSo_334 : decode cL_isSo 334 = .ok (.iconst 0, 1) := by decide +kernel
theorem dL_isSo_335 : decode cL_isSo 335 = .ok (.istore 6, 2) := by decide +kernel
theorem dL_isSo_337 : decode cL_isSo 337 = .ok (.iinc 7 1, 3) := by decide +kernel
theorem dL_isSo_340 : decode cL_isSo 340 = .ok (.goto (-37), 3) := by decide +kernel
theorem dL_isSo_343 : decode cL_isSo 343 = .ok (.iconst 0, 1) := by decide +kernel
theorem dL_isSo_344 : decode cL_isSo 344 = .ok (.istore 7, 2) := by decide +kernel
theorem dL_isSo_346 : decode cL_isSo 346 = .ok (.iload 7, 2) := by decide +kernel
theorem dL_isSo_348 : decode cL_isSo 348 = .ok (.iconst 2, 1) := by decide +kernel
theorem dL_isSo_349 : decode cL_isSo 349 = .ok (.if_icmp .ge 180, 3) := by decide +kernel
theorem dL_isSo_352 : decode cL_isSo 352 = .ok (.bipush 8, 2) := by decide +kernel
theorem dL_isSo_354 : decode cL_isSo 354 = .ok (.bipush 7, 2) := by decide +kernel
theorem dL_isSo_356 : decode cL_isSo 356 = .ok (.iload 7, 2) := by decide +kernel
theorem dL_isSo_358 : decode cL_isSo 358 = .ok (.imul, 1) := by decide +kernel
theorem dL_isSo_359 : decode cL_isSo 359 = .ok (.iadd, 1) := by decide +kernel
theorem dL_isSo_360 : decode cL_isSo 360 = .ok (.istore 8, 2) := by decide +kernel
theorem dL_isSo_362 : decode cL_isSo 362 = .ok (.iconst 0, 1) := by decide +kernel
theorem dL_isSo_363 : decode cL_isSo 363 = .ok (.istore 9, 2) := by decide +kernel
theorem dL_isSo_365 : decode cL_isSo 365 = .ok (.iload 9, 2) := by decide +kernel
theorem dL_isSo_367 : decode cL_isSo 367 = .ok (.iconst 5, 1) := by decide +kernel
theorem dL_isSo_368 : decode cL_isSo 368 = .ok (.if_icmp .ge 39, 3) := by decide +kernel
theorem dL_isSo_371 : decode cL_isSo 371 = .ok (.iload 6, 2) := by decide +kernel
theorem dL_isSo_373 : decode cL_isSo 373 = .ok (.ifCond .eq 25, 3) := by decide +kernel
theorem dL_isSo_376 : decode cL_isSo 376 = .ok (.aload_n 0, 1) := by decide +kernel
theorem dL_isSo_377 : decode cL_isSo 377 = .ok (.iload 7, 2) := by decide +kernel
theorem dL_isSo_379 : decode cL_isSo 379 = .ok (.iload 9, 2) := by decide +kernel
theorem dL_isSo_381 : decode cL_isSo 381 = .ok (.invokevirtual 122, 3) := by decide +kernel
theorem dL_isSo_384 : decode cL_isSo 384 = .ok (.aload_n 1, 1) := by decide +kernel
theorem dL_isSo_385 : decode cL_isSo 385 = .ok (.iload 8, 2) := by decide +kernel
theorem dL_isSo_387 : decode cL_isSo 387 = .ok (.iload 9, 2) := by decide +kernel
theorem dL_isSo_389 : decode cL_isSo 389 = .ok (.iadd, 1) := by decide +kernel
theorem dL_isSo_390 : decode cL_isSo 390 = .ok (.iaload, 1) := by decide +kernel
theorem dL_isSo_391 : decode cL_isSo 391 = .ok (.if_icmp .ne 7, 3) := by decide +kernel
theorem dL_isSo_394 : decode cL_isSo 394 = .ok (.iconst 1, 1) := by decide +kernel
theorem dL_isSo_395 : decode cL_isSo 395 = .ok (.goto 4, 3) := by decide +kernel
theorem dL_isSo_398 : decode cL_isSo 398 = .ok (.iconst 0, 1) := by decide +kernel
theorem dL_isSo_399 : decode cL_isSo 399 = .ok (.istore 6, 2) := by decide +kernel
theorem dL_isSo_401 : decode cL_isSo 401 = .ok (.iinc 9 1, 3) := by decide +kernel
theorem dL_isSo_404 : decode cL_isSo 404 = .ok (.goto (-39), 3) := by decide +kernel
theorem dL_isSo_407 : decode cL_isSo 407 = .ok (.iload 6, 2) := by decide +kernel
theorem dL_isSo_409 : decode cL_isSo 409 = .ok (.ifCond .eq 111, 3) := by decide +kernel
theorem dL_isSo_412 : decode cL_isSo 412 = .ok (.aload_n 0, 1) := by decide +kernel
theorem dL_isSo_413 : decode cL_isSo 413 = .ok (.iload 7, 2) := by decide +kernel
theorem dL_isSo_415 : decode cL_isSo 415 = .ok (.iconst 5, 1) := by decide +kernel
theorem dL_isSo_416 : decode cL_isSo 416 = .ok (.invokevirtual 122, 3) := by decide +kernel
theorem dL_isSo_419 : decode cL_isSo 419 = .ok (.aload_n 1, 1) := by decide +kernel
theorem dL_isSo_420 : decode cL_isSo 420 = .ok (.iload 7, 2) := by decide +kernel
theorem dL_isSo_422 : decode cL_isSo 422 = .ok (.invokestatic 9, 3) := by decide +kernel
theorem dL_isSo_425 : decode cL_isSo 425 = .ok (.if_icmp .ne 95, 3) := by decide +kernel
theorem dL_isSo_428 : decode cL_isSo 428 = .ok (.aload_n 0, 1) := by decide +kernel
theorem dL_isSo_429 : decode cL_isSo 429 = .ok (.iload 7, 2) := by decide +kernel
theorem dL_isSo_431 : decode cL_isSo 431 = .ok (.bipush 6, 2) := by decide +kernel
theorem dL_isSo_433 : decode cL_isSo 433 = .ok (.invokevirtual 122, 3) := by decide +kernel
theorem dL_isSo_436 : decode cL_isSo 436 = .ok (.aload_n 1, 1) := by decide +kernel
theorem dL_isSo_437 : decode cL_isSo 437 = .ok (.iload 8, 2) := by decide +kernel
theorem dL_isSo_439 : decode cL_isSo 439 = .ok (.iconst 5, 1) := by decide +kernel
theorem dL_isSo_440 : decode cL_isSo 440 = .ok (.iadd, 1) := by decide +kernel
theorem dL_isSo_441 : decode cL_isSo 441 = .ok (.iaload, 1) := by decide +kernel
theorem dL_isSo_442 : decode cL_isSo 442 = .ok (.if_icmp .ne 78, 3) := by decide +kernel
theorem dL_isSo_445 : decode cL_isSo 445 = .ok (.aload_n 0, 1) := by decide +kernel
theorem dL_isSo_446 : decode cL_isSo 446 = .ok (.iload 7, 2) := by decide +kernel
theorem dL_isSo_448 : decode cL_isSo 448 = .ok (.bipush 7, 2) := by decide +kernel
theorem dL_isSo_450 : decode cL_isSo 450 = .ok (.invokevirtual 122, 3) := by decide +kernel
theorem dL_isSo_453 : decode cL_isSo 453 = .ok (.aload_n 1, 1) := by decide +kernel
theorem dL_isSo_454 : decode cL_isSo 454 = .ok (.iload 8, 2) := by decide +kernel
theorem dL_isSo_456 : decode cL_isSo 456 = .ok (.bipush 6, 2) := by decide +kernel
theorem dL_isSo_458 : decode cL_isSo 458 = .ok (.iadd, 1) := by decide +kernel
theorem dL_isSo_459 : decode cL_isSo 459 = .ok (.iaload, 1) := by decide +kernel
theorem dL_isSo_460 : decode cL_isSo 460 = .ok (.if_icmp .ne 60, 3) := by decide +kernel
theorem dL_isSo_463 : decode cL_isSo 463 = .ok (.aload_n 0, 1) := by decide +kernel
theorem dL_isSo_464 : decode cL_isSo 464 = .ok (.iload 7, 2) := by decide +kernel
theorem dL_isSo_466 : decode cL_isSo 466 = .ok (.bipush 8, 2) := by decide +kernel
theorem dL_isSo_468 : decode cL_isSo 468 = .ok (.invokevirtual 122, 3) := by decide +kernel
theorem dL_isSo_471 : decode cL_isSo 471 = .ok (.aload_n 1, 1) := by decide +kernel
theorem dL_isSo_472 : decode cL_isSo 472 = .ok (.iload 8, 2) := by decide +kernel
theorem dL_isSo_474 : decode cL_isSo 474 = .ok (.iconst 3, 1) := by decide +kernel
theorem dL_isSo_475 : decode cL_isSo 475 = .ok (.iadd, 1) := by decide +kernel
theorem dL_isSo_476 : decode cL_isSo 476 = .ok (.iaload, 1) := by decide +kernel
theorem dL_isSo_477 : decode cL_isSo 477 = .ok (.if_icmp .ne 43, 3) := by decide +kernel
theorem dL_isSo_480 : decode cL_isSo 480 = .ok (.aload_n 1, 1) := by decide +kernel
theorem dL_isSo_481 : decode cL_isSo 481 = .ok (.iload 8, 2) := by decide +kernel
theorem dL_isSo_483 : decode cL_isSo 483 = .ok (.iconst 3, 1) := by decide +kernel
theorem dL_isSo_484 : decode cL_isSo 484 = .ok (.iadd, 1) := by decide +kernel
theorem dL_isSo_485 : decode cL_isSo 485 = .ok (.iaload, 1) := by decide +kernel
theorem dL_isSo_486 : decode cL_isSo 486 = .ok (.iload 7, 2) := by decide +kernel
theorem dL_isSo_488 : decode cL_isSo 488 = .ok (.ifCond .ne 7, 3) := by decide +kernel
theorem dL_isSo_491 : decode cL_isSo 491 = .ok (.iconst 0, 1) := by decide +kernel
theorem dL_isSo_492 : decode cL_isSo 492 = .ok (.goto 6, 3) := by decide +kernel
theorem dL_isSo_495 : decode cL_isSo 495 = .ok (.sipush 9000, 3) := by decide +kernel
theorem dL_isSo_498 : decode cL_isSo 498 = .ok (.aload_n 1, 1) := by decide +kernel
theorem dL_isSo_499 : decode cL_isSo 499 = .ok (.iload 8, 2) := by decide +kernel
theorem dL_isSo_501 : decode cL_isSo 501 = .ok (.iconst 5, 1) := by decide +kernel
theorem dL_isSo_502 : decode cL_isSo 502 = .ok (.iadd, 1) := by decide +kernel
theorem dL_isSo_503 : decode cL_isSo 503 = .ok (.iaload, 1) := by decide +kernel
theorem dL_isSo_504 : decode cL_isSo 504 = .ok (.iadd, 1) := by decide +kernel
theorem dL_isSo_505 : decode cL_isSo 505 = .ok (.aload_n 1, 1) := by decide +kernel
theorem dL_isSo_506 : decode cL_isSo 506 = .ok (.iload 8, 2) := by decide +kernel
theorem dL_isSo_508 : decode cL_isSo 508 = .ok (.bipush 6, 2) := by decide +kernel
theorem dL_isSo_510 : decode cL_isSo 510 = .ok (.iadd, 1) := by decide +kernel
theorem dL_isSo_511 : decode cL_isSo 511 = .ok (.iaload, 1) := by decide +kernel
theorem dL_isSo_512 : decode cL_isSo 512 = .ok (.isub, 1) := by decide +kernel
theorem dL_isSo_513 : decode cL_isSo 513 = .ok (.if_icmp .ne 7, 3) := by decide +kernel
theorem dL_isSo_516 : decode cL_isSo 516 = .ok (.iconst 1, 1) := by decide +kernel
theorem dL_isSo_517 : decode cL_isSo 517 = .ok (.goto 4, 3) := by decide +kernel
theorem dL_isSo_520 : decode cL_isSo 520 = .ok (.iconst 0, 1) := by decide +kernel
theorem dL_isSo_521 : decode cL_isSo 521 = .ok (.istore 6, 2) := by decide +kernel
theorem dL_isSo_523 : decode cL_isSo 523 = .ok (.iinc 7 1, 3) := by decide +kernel
theorem dL_isSo_526 : decode cL_isSo 526 = .ok (.goto (-180), 3) := by decide +kernel
theorem dL_isSo_529 : decode cL_isSo 529 = .ok (.iconst 0, 1) := by decide +kernel
theorem dL_isSo_530 : decode cL_isSo 530 = .ok (.istore 7, 2) := by decide +kernel
theorem dL_isSo_532 : decode cL_isSo 532 = .ok (.iload 7, 2) := by decide +kernel
theorem dL_isSo_534 : decode cL_isSo 534 = .ok (.aload_n 1, 1) := by decide +kernel
theorem dL_isSo_535 : decode cL_isSo 535 = .ok (.bipush 7, 2) := by decide +kernel
theorem dL_isSo_537 : decode cL_isSo 537 = .ok (.iaload, 1) := by decide +kernel
theorem dL_isSo_538 : decode cL_isSo 538 = .ok (.if_icmp .ge 153, 3) := by decide +kernel
theorem dL_isSo_541 : decode cL_isSo 541 = .ok (.iload 6, 2) := by decide +kernel
theorem dL_isSo_543 : decode cL_isSo 543 = .ok (.ifCond .eq 148, 3) := by decide +kernel
theorem dL_isSo_546 : decode cL_isSo 546 = .ok (.aload_n 2, 1) := by decide +kernel
theorem dL_isSo_547 : decode cL_isSo 547 = .ok (.bipush 14, 2) := by decide +kernel
theorem dL_isSo_549 : decode cL_isSo 549 = .ok (.iload 7, 2) := by decide +kernel
theorem dL_isSo_551 : decode cL_isSo 551 = .ok (.imul, 1) := by decide +kernel
theorem dL_isSo_552 : decode cL_isSo 552 = .ok (.bipush 6, 2) := by decide +kernel
theorem dL_isSo_554 : decode cL_isSo 554 = .ok (.iadd, 1) := by decide +kernel
theorem dL_isSo_555 : decode cL_isSo 555 = .ok (.iaload, 1) := by decide +kernel
theorem dL_isSo_556 : decode cL_isSo 556 = .ok (.istore 8, 2) := by decide +kernel
theorem dL_isSo_558 : decode cL_isSo 558 = .ok (.iconst 0, 1) := by decide +kernel
theorem dL_isSo_559 : decode cL_isSo 559 = .ok (.istore 9, 2) := by decide +kernel
theorem dL_isSo_561 : decode cL_isSo 561 = .ok (.iload 9, 2) := by decide +kernel
theorem dL_isSo_563 : decode cL_isSo 563 = .ok (.bipush 13, 2) := by decide +kernel
theorem dL_isSo_565 : decode cL_isSo 565 = .ok (.if_icmp .ge 92, 3) := by decide +kernel
theorem dL_isSo_568 : decode cL_isSo 568 = .ok (.iload 9, 2) := by decide +kernel
theorem dL_isSo_570 : decode cL_isSo 570 = .ok (.bipush 7, 2) := by decide +kernel
theorem dL_isSo_572 : decode cL_isSo 572 = .ok (.if_icmp .lt 29, 3) := by decide +kernel
theorem dL_isSo_575 : decode cL_isSo 575 = .ok (.iload 9, 2) := by decide +kernel
theorem dL_isSo_577 : decode cL_isSo 577 = .ok (.bipush 11, 2) := by decide +kernel
theorem dL_isSo_579 : decode cL_isSo 579 = .ok (.if_icmp .eq 22, 3) := by decide +kernel
theorem dL_isSo_582 : decode cL_isSo 582 = .ok (.iload 8, 2) := by decide +kernel
theorem dL_isSo_584 : decode cL_isSo 584 = .ok (.iconst 2, 1) := by decide +kernel
theorem dL_isSo_585 : decode cL_isSo 585 = .ok (.if_icmp .eq 16, 3) := by decide +kernel
theorem dL_isSo_588 : decode cL_isSo 588 = .ok (.iload 8, 2) := by decide +kernel
theorem dL_isSo_590 : decode cL_isSo 590 = .ok (.iconst 1, 1) := by decide +kernel
theorem dL_isSo_591 : decode cL_isSo 591 = .ok (.if_icmp .ne 14, 3) := by decide +kernel
theorem dL_isSo_594 : decode cL_isSo 594 = .ok (.iload 9, 2) := by decide +kernel
theorem dL_isSo_596 : decode cL_isSo 596 = .ok (.bipush 10, 2) := by decide +kernel
theorem dL_isSo_598 : decode cL_isSo 598 = .ok (.if_icmp .eq 7, 3) := by decide +kernel
theorem dL_isSo_601 : decode cL_isSo 601 = .ok (.iconst 1, 1) := by decide +kernel
theorem dL_isSo_602 : decode cL_isSo 602 = .ok (.goto 4, 3) := by decide +kernel
theorem dL_isSo_605 : decode cL_isSo 605 = .ok (.iconst 0, 1) := by decide +kernel
theorem dL_isSo_606 : decode cL_isSo 606 = .ok (.istore 10, 2) := by decide +kernel
theorem dL_isSo_608 : decode cL_isSo 608 = .ok (.iload 6, 2) := by decide +kernel
theorem dL_isSo_610 : decode cL_isSo 610 = .ok (.ifCond .eq 38, 3) := by decide +kernel
theorem dL_isSo_613 : decode cL_isSo 613 = .ok (.aload_n 0, 1) := by decide +kernel
theorem dL_isSo_614 : decode cL_isSo 614 = .ok (.iload 7, 2) := by decide +kernel
theorem dL_isSo_616 : decode cL_isSo 616 = .ok (.iload 9, 2) := by decide +kernel
theorem dL_isSo_618 : decode cL_isSo 618 = .ok (.invokevirtual 125, 3) := by decide +kernel
theorem dL_isSo_621 : decode cL_isSo 621 = .ok (.iload 10, 2) := by decide +kernel
theorem dL_isSo_623 : decode cL_isSo 623 = .ok (.ifCond .eq 16, 3) := by decide +kernel
theorem dL_isSo_626 : decode cL_isSo 626 = .ok (.aload_n 2, 1) := by decide +kernel
theorem dL_isSo_627 : decode cL_isSo 627 = .ok (.bipush 14, 2) := by decide +kernel
theorem dL_isSo_629 : decode cL_isSo 629 = .ok (.iload 7, 2) := by decide +kernel
theorem dL_isSo_631 : decode cL_isSo 631 = .ok (.imul, 1) := by decide +kernel
theorem dL_isSo_632 : decode cL_isSo 632 = .ok (.iload 9, 2) := by decide +kernel
theorem dL_isSo_634 : decode cL_isSo 634 = .ok (.iadd, 1) := by decide +kernel
theorem dL_isSo_635 : decode cL_isSo 635 = .ok (.iaload, 1) := by decide +kernel
theorem dL_isSo_636 : decode cL_isSo 636 = .ok (.goto 5, 3) := by decide +kernel
theorem dL_isSo_639 : decode cL_isSo 639 = .ok (.ldc 32, 2) := by decide +kernel
theorem dL_isSo_641 : decode cL_isSo 641 = .ok (.if_icmp .ne 7, 3) := by decide +kernel
theorem dL_isSo_644 : decode cL_isSo 644 = .ok (.iconst 1, 1) := by decide +kernel
theorem dL_isSo_645 : decode cL_isSo 645 = .ok (.goto 4, 3) := by decide +kernel
theorem dL_isSo_648 : decode cL_isSo 648 = .ok (.iconst 0, 1) := by decide +kernel
theorem dL_isSo_649 : decode cL_isSo 649 = .ok (.istore 6, 2) := by decide +kernel
theorem dL_isSo_651 : decode cL_isSo 651 = .ok (.iinc 9 1, 3) := by decide +kernel
theorem dL_isSo_654 : decode cL_isSo 654 = .ok (.goto (-93), 3) := by decide +kernel
theorem dL_isSo_657 : decode cL_isSo 657 = .ok (.iload 6, 2) := by decide +kernel
theorem dL_isSo_659 : decode cL_isSo 659 = .ok (.ifCond .eq 23, 3) := by decide +kernel
theorem dL_isSo_662 : decode cL_isSo 662 = .ok (.aload_n 0, 1) := by decide +kernel
theorem dL_isSo_663 : decode cL_isSo 663 = .ok (.iload 7, 2) := by decide +kernel
theorem dL_isSo_665 : decode cL_isSo 665 = .ok (.invokevirtual 128, 3) := by decide +kernel
theorem dL_isSo_668 : decode cL_isSo 668 = .ok (.aload_n 1, 1) := by decide +kernel
theorem dL_isSo_669 : decode cL_isSo 669 = .ok (.aload_n 2, 1) := by decide +kernel
theorem dL_isSo_670 : decode cL_isSo 670 = .ok (.iload 7, 2) := by decide +kernel
theorem dL_isSo_672 : decode cL_isSo 672 = .ok (.invokestatic 59, 3) := by decide +kernel
theorem dL_isSo_675 : decode cL_isSo 675 = .ok (.if_icmp .ne 7, 3) := by decide +kernel
theorem dL_isSo_678 : decode cL_isSo 678 = .ok (.iconst 1, 1) := by decide +kernel
theorem dL_isSo_679 : decode cL_isSo 679 = .ok (.goto 4, 3) := by decide +kernel
theorem dL_isSo_682 : decode cL_isSo 682 = .ok (.iconst 0, 1) := by decide +kernel
theorem dL_isSo_683 : decode cL_isSo 683 = .ok (.istore 6, 2) := by decide +kernel
theorem dL_isSo_685 : decode cL_isSo 685 = .ok (.iinc 7 1, 3) := by decide +kernel
theorem dL_isSo_688 : decode cL_isSo 688 = .ok (.goto (-156), 3) := by decide +kernel
theorem dL_isSo_691 : decode cL_isSo 691 = .ok (.iload 6, 2) := by decide +kernel
theorem dL_isSo_693 : decode cL_isSo 693 = .ok (.ifCond .eq 21, 3) := by decide +kernel
theorem dL_isSo_696 : decode cL_isSo 696 = .ok (.aload_n 0, 1) := by decide +kernel
theorem dL_isSo_697 : decode cL_isSo 697 = .ok (.aload_n 1, 1) := by decide +kernel
theorem dL_isSo_698 : decode cL_isSo 698 = .ok (.bipush 7, 2) := by decide +kernel
theorem dL_isSo_700 : decode cL_isSo 700 = .ok (.iaload, 1) := by decide +kernel
theorem dL_isSo_701 : decode cL_isSo 701 = .ok (.iconst 0, 1) := by decide +kernel
theorem dL_isSo_702 : decode cL_isSo 702 = .ok (.invokevirtual 125, 3) := by decide +kernel
theorem dL_isSo_705 : decode cL_isSo 705 = .ok (.ldc 100, 2) := by decide +kernel
theorem dL_isSo_707 : decode cL_isSo 707 = .ok (.if_icmp .ne 7, 3) := by decide +kernel
theorem dL_isSo_710 : decode cL_isSo 710 = .ok (.iconst 1, 1) := by decide +kernel
theorem dL_isSo_711 : decode cL_isSo 711 = .ok (.goto 4, 3) := by decide +kernel
theorem dL_isSo_714 : decode cL_isSo 714 = .ok (.iconst 0, 1) := by decide +kernel
theorem dL_isSo_715 : decode cL_isSo 715 = .ok (.ireturn, 1) := by decide +kernel

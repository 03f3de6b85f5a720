set_option maxRecDepth 20000 in
theorem ggL_acts_L_low : GoodIn wsL_acts wsL_low := goodIn_r _ [11, 12] (by decide +kernel) (by decide +kernel)
set_option maxRecDepth 20000 in
theorem gL_acts_L_low : GoodIn wsL_acts (va_wsS RL 77 yL_low wsL_low) := goodIn_app (goodIn_of _ (by decide +kernel)) ggL_acts_L_low
set_option maxRecDepth 20000 in
theorem ggL_acts_X6_set : GoodIn wsL_acts wsX6_set := goodIn_r _ [17, 18, 19, 20, 21, 22, 23, 16, 24, 25, 26, 27, 28, 29, 30, 31, 32, 33, 34, 35, 36, 37, 38, 39, 40, 41, 42, 43, 44, 45, 46, 47, 48, 49, 50, 51, 52, 53, 54, 55, 56, 57, 58, 59, 60, 61, 62, 63, 64, 65, 66, 67, 68, 69, 70, 71, 72, 73, 74, 75, 76, 77, 78, 79, 80, 81, 82, 83, 84, 85, 86, 87, 370, 371, 372, 373, 374, 375, 376, 377, 378, 379, 380, 381, 382, 383, 384, 385, 386, 387, 388, 389, 390, 391, 392, 393, 394, 395, 396, 397, 398, 399, 400, 401, 402, 403, 404, 405, 406, 407, 408, 409, 410] (by decide +kernel) (by decide +kernel)
set_option maxRecDepth 20000 in
theorem gL_acts_X6_set : GoodIn wsL_acts (wsV RL 81 RX6 yX6_set wsX6_set) := goodIn_app (goodIn_of _ (by decide +kernel)) ggL_acts_X6_set
set_option maxRecDepth 20000 in
theorem ggL_acts_X6_setAxis : GoodIn wsL_acts wsX6_setAxis := goodIn_r _ [91, 92, 93, 19, 20, 21, 22, 23, 16, 24, 25, 26, 27, 28, 29, 30, 31, 32, 33, 34, 35, 36, 37, 38, 39, 40, 41, 42, 43, 44, 45, 46, 47, 48, 49, 50, 51, 52, 53, 54, 55, 56, 57, 58, 59, 60, 61, 62, 63, 64, 65, 66, 67, 68, 69, 70, 71, 72, 73, 74, 75, 76, 77, 78, 79, 80, 81, 82, 83, 94, 95, 96, 97, 98, 99, 100, 101, 102, 103, 104, 105, 106, 107, 108, 109, 110, 111, 112, 113, 114, 115, 370, 371, 372, 373, 374, 375, 376, 377, 378, 379, 380, 381, 382, 383, 384, 385, 386, 387, 388, 389, 390, 391, 392, 393, 394, 395, 396, 397, 398, 399, 400, 401, 402, 403, 404, 405, 406, 407, 408, 409, 410] (by decide +kernel) (by decide +kernel)
set_option maxRecDepth 20000 in
theorem gL_acts_X6_setAxis : GoodIn wsL_acts (wsV RL 86 RX6 yX6_setAxis wsX6_setAxis) := goodIn_app (goodIn_of _ (by decide +kernel)) ggL_acts_X6_setAxis
set_option maxRecDepth 20000 in
theorem ggL_acts_X6_gust : GoodIn wsL_acts wsX6_gust := goodIn_r _ [119, 19, 21, 120, 121, 20, 22, 23, 16, 24, 25, 26, 27, 28, 29, 30, 31, 32, 33, 34, 35, 36, 37, 38, 39, 40, 41, 42, 43, 44, 45, 46, 47, 48, 49, 50, 51, 52, 53, 54, 55, 56, 57, 58, 59, 60, 61, 62, 63, 64, 65, 66, 67, 68, 69, 70, 71, 72, 73, 74, 75, 76, 77, 78, 79, 80, 81, 82, 83, 122, 123, 124, 125, 370, 371, 372, 373, 376, 377, 378, 379, 380, 381, 382, 383, 384, 385, 386, 374, 375, 387, 388, 389, 390, 391, 392, 393, 394, 395, 396, 397, 398, 399, 400, 401, 402, 403, 404, 405, 406, 407, 408, 409, 410] (by decide +kernel) (by decide +kernel)
set_option maxRecDepth 20000 in
theorem gL_acts_X6_gust : GoodIn wsL_acts (wsV RL 90 RX6 yX6_gust wsX6_gust) := goodIn_app (goodIn_of _ (by decide +kernel)) ggL_acts_X6_gust
set_option maxRecDepth 20000 in
theorem ggL_acts_L_pick : GoodIn wsL_acts wsL_pick := goodIn_r _ [128, 129, 130, 3, 131, 132, 133, 134, 135, 10, 136, 137, 138, 139, 140, 141, 142, 143, 144, 145, 146, 147, 148] (by decide +kernel) (by decide +kernel)
set_option maxRecDepth 20000 in
theorem gL_acts_L_pick : GoodIn wsL_acts (va_wsS RL 47 yL_pick wsL_pick) := goodIn_app (goodIn_of _ (by decide +kernel)) ggL_acts_L_pick
set_option maxRecDepth 20000 in
theorem ggL_acts_L_under : GoodIn wsL_acts wsL_under := goodIn_r _ [151, 130] (by decide +kernel) (by decide +kernel)
set_option maxRecDepth 20000 in
theorem gL_acts_L_under : GoodIn wsL_acts (va_wsS RL 51 yL_under wsL_under) := goodIn_app (goodIn_of _ (by decide +kernel)) ggL_acts_L_under
set_option maxRecDepth 20000 in
theorem ggL_acts_L_day : GoodIn wsL_acts wsL_day := goodIn_r _ [154] (by decide +kernel) (by decide +kernel)
set_option maxRecDepth 20000 in
theorem gL_acts_L_day : GoodIn wsL_acts (va_wsS RL 55 yL_day wsL_day) := goodIn_app (goodIn_of _ (by decide +kernel)) ggL_acts_L_day
set_option maxRecDepth 20000 in
theorem ggL_acts_L_length : GoodIn wsL_acts wsL_length := goodIn_r _ [136, 137, 138, 10, 139, 140, 141, 142, 143, 144, 145, 146, 147, 148] (by decide +kernel) (by decide +kernel)
set_option maxRecDepth 20000 in
theorem gL_acts_L_length : GoodIn wsL_acts (va_wsS RL 27 yL_length wsL_length) := goodIn_app (goodIn_of _ (by decide +kernel)) ggL_acts_L_length
set_option maxRecDepth 20000 in
theorem ggL_acts_X6_slew : GoodIn wsL_acts wsX6_slew := goodIn_r _ [158, 159, 19, 21, 121, 160, 20, 22, 23, 16, 24, 161, 162, 163, 39, 164, 52, 165, 166, 167, 168, 169, 44, 170, 171, 172, 173, 49, 174, 175, 176, 177, 41, 178, 179, 180, 181, 182, 50, 183, 184, 185, 186, 187, 188, 189, 190, 191, 192, 193, 194, 195, 196, 197, 198, 199, 200, 201, 104, 202, 203, 204, 205, 206, 113, 114, 56, 115, 61, 62, 207, 208, 209, 210, 211, 212, 213, 214, 215, 216, 217, 218, 219, 220, 221, 222, 223, 224, 51, 25, 26, 27, 28, 29, 30, 31, 32, 33, 34, 35, 36, 37, 38, 40, 42, 43, 45, 46, 47, 48, 53, 54, 55, 57, 58, 59, 60, 63, 64, 65, 66, 67, 68, 69, 70, 71, 72, 73, 74, 75, 76, 77, 78, 79, 80, 81, 82, 83, 225, 226, 227, 228, 229, 230, 231, 232, 233, 234, 235, 236, 237, 238, 239, 240, 241, 242, 102, 103, 105, 243, 370, 371, 372, 373, 411, 412, 413, 414, 415, 416, 417, 376, 377, 378, 379, 380, 381, 382, 383, 384, 385, 386, 397, 398, 399, 400, 401, 402, 403, 404, 405, 406, 407, 408, 409, 410, 387, 388, 389, 390, 391, 392, 393, 394, 395, 396, 374, 375] (by decide +kernel) (by decide +kernel)
set_option maxRecDepth 20000 in
theorem gL_acts_X6_slew : GoodIn wsL_acts (wsV RL 94 RX6 yX6_slew wsX6_slew) := goodIn_app (goodIn_of _ (by decide +kernel)) ggL_acts_X6_slew
set_option maxRecDepth 20000 in
theorem ggL_acts_L_slews : GoodIn wsL_acts wsL_slews := goodIn_r _ [246, 247, 248, 10, 249, 134, 135, 136, 137, 138, 139, 140, 141, 142, 143, 144, 145, 146, 147, 148, 250, 251, 252] (by decide +kernel) (by decide +kernel)
set_option maxRecDepth 20000 in
theorem gL_acts_L_slews : GoodIn wsL_acts (va_wsS RL 70 yL_slews wsL_slews) := goodIn_app (goodIn_of _ (by decide +kernel)) ggL_acts_L_slews
set_option maxRecDepth 20000 in
theorem ggL_acts_X6_drop : GoodIn wsL_acts wsX6_drop := goodIn_r _ [256, 21, 19, 257, 258, 121, 20, 259, 260, 261, 39, 262, 52, 165, 25, 26, 27, 28, 29, 30, 31, 32, 33, 34, 35, 36, 37, 38, 40, 41, 42, 43, 44, 45, 46, 47, 48, 49, 50, 51, 53, 54, 55, 56, 57, 58, 59, 60, 61, 62, 63, 64, 65, 66, 67, 68, 69, 70, 71, 72, 73, 74, 75, 76, 77, 78, 79, 80, 81, 82, 83, 263, 264, 265, 266, 230, 231, 104, 232, 267, 268, 269, 270, 370, 371, 372, 373, 376, 377, 378, 379, 380, 381, 382, 383, 384, 385, 386, 397, 398, 399, 400, 401, 402, 403, 404, 405, 406, 407, 408, 409, 410, 374, 375, 387, 388, 389, 390, 391, 392, 393, 394, 395, 396] (by decide +kernel) (by decide +kernel)
set_option maxRecDepth 20000 in
theorem gL_acts_X6_drop : GoodIn wsL_acts (wsV RL 97 RX6 yX6_drop wsX6_drop) := goodIn_app (goodIn_of _ (by decide +kernel)) ggL_acts_X6_drop
set_option maxRecDepth 20000 in
theorem ggL_acts_X6_run : GoodIn wsL_acts wsX6_run := goodIn_r _ [274, 19, 21, 120, 275, 276, 20, 22, 23, 16, 24, 25, 26, 27, 28, 29, 30, 31, 32, 33, 34, 35, 36, 37, 38, 39, 40, 41, 42, 43, 44, 45, 46, 47, 48, 49, 50, 51, 52, 53, 54, 55, 56, 57, 58, 59, 60, 61, 62, 63, 64, 65, 66, 67, 68, 69, 70, 71, 72, 73, 74, 75, 76, 77, 78, 79, 80, 81, 82, 83, 267, 268, 269, 270, 165, 277, 278, 279, 280, 281, 167, 168, 169, 170, 171, 172, 173, 174, 175, 176, 177, 282, 283, 284, 285, 286, 287, 240, 241, 242, 102, 103, 104, 105, 243, 231, 232, 288, 289, 290, 291, 292, 293, 294, 295, 296, 297, 298, 299, 300, 301, 302, 303, 304, 305, 306, 307, 308, 113, 114, 115, 309, 310, 311, 312, 313, 314, 315, 316, 317, 318, 185, 319, 229, 230, 320, 321, 162, 163, 164, 322, 221, 222, 223, 224, 186, 187, 188, 189, 190, 191, 192, 193, 194, 195, 196, 197, 198, 199, 200, 201, 202, 203, 204, 205, 206, 207, 208, 209, 210, 211, 212, 323, 179, 180, 181, 182, 183, 184, 213, 214, 215, 216, 217, 218, 219, 324, 325, 326, 327, 328, 329, 330, 331, 332, 333, 226, 227, 228, 233, 234, 235, 236, 237, 238, 239, 334, 335, 336, 337, 338, 339, 340, 341, 370, 371, 372, 373, 376, 377, 378, 379, 380, 381, 382, 383, 384, 385, 386, 374, 375, 387, 388, 389, 390, 391, 392, 393, 394, 395, 396, 397, 398, 399, 400, 401, 402, 403, 404, 405, 406, 407, 408, 409, 410, 411, 412, 413, 414, 415, 416, 417] (by decide +kernel) (by decide +kernel)
set_option maxRecDepth 20000 in
theorem gL_acts_X6_run : GoodIn wsL_acts (wsV RL 102 RX6 yX6_run wsX6_run) := goodIn_app (goodIn_of _ (by decide +kernel)) ggL_acts_X6_run
set_option maxRecDepth 20000 in
theorem ggL_acts_L_runs : GoodIn wsL_acts wsL_runs := goodIn_r _ [344, 345, 346, 10, 347, 149, 150, 151, 130, 348, 349, 350, 152, 153, 154, 140, 141, 142, 351, 352, 353, 354, 355, 356, 4, 134, 135, 136, 137, 138, 139, 143, 144, 145, 146, 147, 148, 126, 127, 128, 129, 3, 131, 132, 133, 247, 248, 249, 244, 245, 246, 250, 251, 252] (by decide +kernel) (by decide +kernel)
set_option maxRecDepth 20000 in
theorem gL_acts_L_runs : GoodIn wsL_acts (va_wsS RL 106 yL_runs wsL_runs) := goodIn_app (goodIn_of _ (by decide +kernel)) ggL_acts_L_runs
set_option maxRecDepth 20000 in
theorem ggL_acts_X6_add : GoodIn wsL_acts wsX6_add := goodIn_r _ [360, 19, 21, 276, 20, 361, 362, 16, 363, 159, 275, 22, 23, 24, 267, 268, 269, 39, 270, 52, 165, 25, 26, 27, 28, 29, 30, 31, 32, 33, 34, 35, 36, 37, 38, 40, 41, 42, 43, 44, 45, 46, 47, 48, 49, 50, 51, 53, 54, 55, 56, 57, 58, 59, 60, 61, 62, 63, 64, 65, 66, 67, 68, 69, 70, 71, 72, 73, 74, 75, 76, 77, 78, 79, 80, 81, 82, 83, 364, 365, 366, 367, 319, 318, 317, 292, 320, 368, 286, 369, 370, 371, 372, 373, 376, 377, 378, 379, 380, 381, 382, 383, 384, 385, 386, 397, 398, 399, 400, 401, 402, 403, 404, 405, 406, 407, 408, 409, 410, 374, 375, 387, 388, 389, 390, 391, 392, 393, 394, 395, 396] (by decide +kernel) (by decide +kernel)
set_option maxRecDepth 20000 in
theorem gL_acts_X6_add : GoodIn wsL_acts (wsV RL 109 RX6 yX6_add wsX6_add) := goodIn_app (goodIn_of _ (by decide +kernel)) ggL_acts_X6_add
theorem dL_acts_0 : decode cL_acts 0 = .ok (.iload_n 3, 1) := by decide +kernel
theorem dL_acts_1 : decode cL_acts 1 = .ok (.iconst 5, 1) := by decide +kernel
theorem dL_acts_2 : decode cL_acts 2 = .ok (.ishr, 1) := by decide +kernel
theorem dL_acts_3 : decode cL_acts 3 = .ok (.ldc 76, 2) := by decide +kernel
theorem dL_acts_5 : decode cL_acts 5 = .ok (.invokestatic 77, 3) := by decide +kernel
theorem dL_acts_8 : decode cL_acts 8 = .ok (.istore 4, 2) := by decide +kernel
theorem dL_acts_10 : decode cL_acts 10 = .ok (.aload_n 1, 1) := by decide +kernel
theorem dL_acts_11 : decode cL_acts 11 = .ok (.bipush 7, 2) := by decide +kernel
theorem dL_acts_13 : decode cL_acts 13 = .ok (.iaload, 1) := by decide +kernel
theorem dL_acts_14 : decode cL_acts 14 = .ok (.istore 5, 2) := by decide +kernel
theorem dL_acts_16 : decode cL_acts 16 = .ok (.iload_n 3, 1) := by decide +kernel
theorem dL_acts_17 : decode cL_acts 17 = .ok (.bipush 20, 2) := by decide +kernel
theorem dL_acts_19 : decode cL_acts 19 = .ok (.invokestatic 77, 3) := by decide +kernel
theorem dL_acts_22 : decode cL_acts 22 = .ok (.tableswitch 748 0 14 #[74, 74, 143, 143, 143, 322, 322, 322, 436, 436, 541, 671, 671, 671, 671], 74) := by decide +kernel
theorem dL_acts_96 : decode cL_acts 96 = .ok (.iload 4, 2) := by decide +kernel
theorem dL_acts_98 : decode cL_acts 98 = .ok (.iconst 4, 1) := by decide +kernel
theorem dL_acts_99 : decode cL_acts 99 = .ok (.irem, 1) := by decide +kernel
theorem dL_acts_100 : decode cL_acts 100 = .ok (.istore 6, 2) := by decide +kernel
theorem dL_acts_102 : decode cL_acts 102 = .ok (.iload 4, 2) := by decide +kernel
theorem dL_acts_104 : decode cL_acts 104 = .ok (.iconst 4, 1) := by decide +kernel
theorem dL_acts_105 : decode cL_acts 105 = .ok (.idiv, 1) := by decide +kernel
theorem dL_acts_106 : decode cL_acts 106 = .ok (.iload 6, 2) := by decide +kernel
theorem dL_acts_108 : decode cL_acts 108 = .ok (.ifCond .ne 9, 3) := by decide +kernel
theorem dL_acts_111 : decode cL_acts 111 = .ok (.sipush 501, 3) := by decide +kernel
theorem dL_acts_114 : decode cL_acts 114 = .ok (.goto 17, 3) := by decide +kernel
theorem dL_acts_117 : decode cL_acts 117 = .ok (.iload 6, 2) := by decide +kernel
theorem dL_acts_119 : decode cL_acts 119 = .ok (.iconst 1, 1) := by decide +kernel
theorem dL_acts_120 : decode cL_acts 120 = .ok (.if_icmp .ne 9, 3) := by decide +kernel
theorem dL_acts_123 : decode cL_acts 123 = .ok (.sipush 27001, 3) := by decide +kernel
theorem dL_acts_126 : decode cL_acts 126 = .ok (.goto 5, 3) := by decide +kernel
theorem dL_acts_129 : decode cL_acts 129 = .ok (.bipush 101, 2) := by decide +kernel
theorem dL_acts_131 : decode cL_acts 131 = .ok (.irem, 1) := by decide +kernel
theorem dL_acts_132 : decode cL_acts 132 = .ok (.istore 7, 2) := by decide +kernel
theorem dL_acts_134 : decode cL_acts 134 = .ok (.aload_n 1, 1) := by decide +kernel
theorem dL_acts_135 : decode cL_acts 135 = .ok (.iload 6, 2) := by decide +kernel
theorem dL_acts_137 : decode cL_acts 137 = .ok (.iaload, 1) := by decide +kernel
theorem dL_acts_138 : decode cL_acts 138 = .ok (.istore 8, 2) := by decide +kernel
theorem dL_acts_140 : decode cL_acts 140 = .ok (.aload_n 1, 1) := by decide +kernel
theorem dL_acts_141 : decode cL_acts 141 = .ok (.iload 6, 2) := by decide +kernel
theorem dL_acts_143 : decode cL_acts 143 = .ok (.iload 7, 2) := by decide +kernel
theorem dL_acts_145 : decode cL_acts 145 = .ok (.iastore, 1) := by decide +kernel
theorem dL_acts_146 : decode cL_acts 146 = .ok (.aload_n 0, 1) := by decide +kernel
theorem dL_acts_147 : decode cL_acts 147 = .ok (.iload 6, 2) := by decide +kernel
theorem dL_acts_149 : decode cL_acts 149 = .ok (.iload 7, 2) := by decide +kernel
theorem dL_acts_151 : decode cL_acts 151 = .ok (.invokevirtual 81, 3) := by decide +kernel
theorem dL_acts_154 : decode cL_acts 154 = .ok (.iload 8, 2) := by decide +kernel
theorem dL_acts_156 : decode cL_acts 156 = .ok (.if_icmp .ne 7, 3) := by decide +kernel
theorem dL_acts_159 : decode cL_acts 159 = .ok (.iconst 1, 1) := by decide +kernel
theorem dL_acts_160 : decode cL_acts 160 = .ok (.goto 4, 3) := by decide +kernel
theorem dL_acts_163 : decode cL_acts 163 = .ok (.iconst 0, 1) := by decide +kernel
theorem dL_acts_164 : decode cL_acts 164 = .ok (.ireturn, 1) := by decide +kernel
theorem dL_acts_165 : decode cL_acts 165 = .ok (.iload 4, 2) := by decide +kernel
theorem dL_acts_167 : decode cL_acts 167 = .ok (.iconst 2, 1) := by decide +kernel
theorem dL_acts_168 : decode cL_acts 168 = .ok (.irem, 1) := by decide +kernel
theorem dL_acts_169 : decode cL_acts 169 = .ok (.istore 9, 2) := by decide +kernel
theorem dL_acts_171 : decode cL_acts 171 = .ok (.iload 4, 2) := by decide +kernel
theorem dL_acts_173 : decode cL_acts 173 = .ok (.iconst 2, 1) := by decide +kernel
theorem dL_acts_174 : decode cL_acts 174 = .ok (.idiv, 1) := by decide +kernel
theorem dL_acts_175 : decode cL_acts 175 = .ok (.iconst 3, 1) := by decide +kernel
theorem dL_acts_176 : decode cL_acts 176 = .ok (.irem, 1) := by decide +kernel
theorem dL_acts_177 : decode cL_acts 177 = .ok (.istore 10, 2) := by decide +kernel
theorem dL_acts_179 : decode cL_acts 179 = .ok (.iload 10, 2) := by decide +kernel
theorem dL_acts_181 : decode cL_acts 181 = .ok (.ifCond .ne 15, 3) := by decide +kernel
theorem dL_acts_184 : decode cL_acts 184 = .ok (.iload 4, 2) := by decide +kernel
theorem dL_acts_186 : decode cL_acts 186 = .ok (.bipush 6, 2) := by decide +kernel
theorem dL_acts_188 : decode cL_acts 188 = .ok (.idiv, 1) := by decide +kernel
theorem dL_acts_189 : decode cL_acts 189 = .ok (.sipush 301, 3) := by decide +kernel
theorem dL_acts_192 : decode cL_acts 192 = .ok (.irem, 1) := by decide +kernel
theorem dL_acts_193 : decode cL_acts 193 = .ok (.goto 42, 3) := by decide +kernel
theorem dL_acts_196 : decode cL_acts 196 = .ok (.iload 10, 2) := by decide +kernel
theorem dL_acts_198 : decode cL_acts 198 = .ok (.iconst 1, 1) := by decide +kernel
theorem dL_acts_199 : decode cL_acts 199 = .ok (.if_icmp .ne 13, 3) := by decide +kernel
theorem dL_acts_202 : decode cL_acts 202 = .ok (.iload 4, 2) := by decide +kernel
theorem dL_acts_204 : decode cL_acts 204 = .ok (.bipush 6, 2) := by decide +kernel
theorem dL_acts_206 : decode cL_acts 206 = .ok (.idiv, 1) := by decide +kernel
theorem dL_acts_207 : decode cL_acts 207 = .ok (.iconst 3, 1) := by decide +kernel
theorem dL_acts_208 : decode cL_acts 208 = .ok (.irem, 1) := by decide +kernel
theorem dL_acts_209 : decode cL_acts 209 = .ok (.goto 26, 3) := by decide +kernel
theorem dL_acts_212 : decode cL_acts 212 = .ok (.iconst 1, 1) := by decide +kernel
theorem dL_acts_213 : decode cL_acts 213 = .ok (.iload 4, 2) := by decide +kernel
theorem dL_acts_215 : decode cL_acts 215 = .ok (.bipush 6, 2) := by decide +kernel
theorem dL_acts_217 : decode cL_acts 217 = .ok (.idiv, 1) := by decide +kernel
theorem dL_acts_218 : decode cL_acts 218 = .ok (.iload 4, 2) := by decide +kernel
theorem dL_acts_220 : decode cL_acts 220 = .ok (.iconst 3, 1) := by decide +kernel
theorem dL_acts_221 : decode cL_acts 221 = .ok (.irem, 1) := by decide +kernel
theorem dL_acts_222 : decode cL_acts 222 = .ok (.ifCond .ne 9, 3) := by decide +kernel
theorem dL_acts_225 : decode cL_acts 225 = .ok (.sipush 2000, 3) := by decide +kernel
theorem dL_acts_228 : decode cL_acts 228 = .ok (.goto 5, 3) := by decide +kernel
theorem dL_acts_231 : decode cL_acts 231 = .ok (.bipush 60, 2) := by decide +kernel
theorem dL_acts_233 : decode cL_acts 233 = .ok (.irem, 1) := by decide +kernel
theorem dL_acts_234 : decode cL_acts 234 = .ok (.iadd, 1) := by decide +kernel
theorem dL_acts_235 : decode cL_acts 235 = .ok (.istore 11, 2) := by decide +kernel
theorem dL_acts_237 : decode cL_acts 237 = .ok (.aload_n 1, 1) := by decide +kernel
theorem dL_acts_238 : decode cL_acts 238 = .ok (.bipush 8, 2) := by decide +kernel
theorem dL_acts_240 : decode cL_acts 240 = .ok (.bipush 7, 2) := by decide +kernel
theorem dL_acts_242 : decode cL_acts 242 = .ok (.iload 9, 2) := by decide +kernel
theorem dL_acts_244 : decode cL_acts 244 = .ok (.imul, 1) := by decide +kernel
theorem dL_acts_245 : decode cL_acts 245 = .ok (.iadd, 1) := by decide +kernel
theorem dL_acts_246 : decode cL_acts 246 = .ok (.iload 10, 2) := by decide +kernel
theorem dL_acts_248 : decode cL_acts 248 = .ok (.iadd, 1) := by decide +kernel
theorem dL_acts_249 : decode cL_acts 249 = .ok (.iaload, 1) := by decide +kernel
theorem dL_acts_250 : decode cL_acts 250 = .ok (.istore 12, 2) := by decide +kernel
theorem dL_acts_252 : decode cL_acts 252 = .ok (.aload_n 1, 1) := by decide +kernel
theorem dL_acts_253 : decode cL_acts 253 = .ok (.bipush 8, 2) := by decide +kernel
theorem dL_acts_255 : decode cL_acts 255 = .ok (.bipush 7, 2) := by decide +kernel
theorem dL_acts_257 : decode cL_acts 257 = .ok (.iload 9, 2) := by decide +kernel
theorem dL_acts_259 : decode cL_acts 259 = .ok (.imul, 1) := by decide +kernel
theorem dL_acts_260 : decode cL_acts 260 = .ok (.iadd, 1) := by decide +kernel
theorem dL_acts_261 : decode cL_acts 261 = .ok (.iload 10, 2) := by decide +kernel
theorem dL_acts_263 : decode cL_acts 263 = .ok (.iadd, 1) := by decide +kernel
theorem dL_acts_264 : decode cL_acts 264 = .ok (.iload 11, 2) := by decide +kernel
theorem dL_acts_266 : decode cL_acts 266 = .ok (.iastore, 1) := by decide +kernel
theorem dL_acts_267 : decode cL_acts 267 = .ok (.aload_n 1, 1) := by decide +kernel
theorem dL_acts_268 : decode cL_acts 268 = .ok (.bipush 12, 2) := by decide +kernel
theorem dL_acts_270 : decode cL_acts 270 = .ok (.bipush 7, 2) := by decide +kernel
theorem dL_acts_272 : decode cL_acts 272 = .ok (.iload 9, 2) := by decide +kernel
theorem dL_acts_274 : decode cL_acts 274 = .ok (.imul, 1) := by decide +kernel
theorem dL_acts_275 : decode cL_acts 275 = .ok (.iadd, 1) := by decide +kernel
theorem dL_acts_276 : decode cL_acts 276 = .ok (.aload_n 1, 1) := by decide +kernel
theorem dL_acts_277 : decode cL_acts 277 = .ok (.bipush 12, 2) := by decide +kernel
theorem dL_acts_279 : decode cL_acts 279 = .ok (.bipush 7, 2) := by decide +kernel
theorem dL_acts_281 : decode cL_acts 281 = .ok (.iload 9, 2) := by decide +kernel
theorem dL_acts_283 : decode cL_acts 283 = .ok (.imul, 1) := by decide +kernel
theorem dL_acts_284 : decode cL_acts 284 = .ok (.iadd, 1) := by decide +kernel
theorem dL_acts_285 : decode cL_acts 285 = .ok (.iaload, 1) := by decide +kernel
theorem dL_acts_286 : decode cL_acts 286 = .ok (.aload_n 1, 1) := by decide +kernel
theorem dL_acts_287 : decode cL_acts 287 = .ok (.bipush 8, 2) := by decide +kernel
theorem dL_acts_289 : decode cL_acts 289 = .ok (.bipush 7, 2) := by decide +kernel
theorem dL_acts_291 : decode cL_acts 291 = .ok (.iload 9, 2) := by decide +kernel
theorem dL_acts_293 : decode cL_acts 293 = .ok (.imul, 1) := by decide +kernel
theorem dL_acts_294 : decode cL_acts 294 = .ok (.iadd, 1) := by decide +kernel
theorem dL_acts_295 : decode cL_acts 295 = .ok (.iaload, 1) := by decide +kernel
theorem dL_acts_296 : decode cL_acts 296 = .ok (.if_icmp .le 16, 3) := by decide +kernel
theorem dL_acts_299 : decode cL_acts 299 = .ok (.aload_n 1, 1) := by decide +kernel
theorem dL_acts_300 : decode cL_acts 300 = .ok (.bipush 8, 2) := by decide +kernel
theorem dL_acts_302 : decode cL_acts 302 = .ok (.bipush 7, 2) := by decide +kernel
theorem dL_acts_304 : decode cL_acts 304 = .ok (.iload 9, 2) := by decide +kernel
theorem dL_acts_306 : decode cL_acts 306 = .ok (.imul, 1) := by decide +kernel
theorem dL_acts_307 : decode cL_acts 307 = .ok (.iadd, 1) := by decide +kernel
theorem dL_acts_308 : decode cL_acts 308 = .ok (.iaload, 1) := by decide +kernel
theorem dL_acts_309 : decode cL_acts 309 = .ok (.goto 13, 3) := by decide +kernel
theorem dL_acts_312 : decode cL_acts 312 = .ok (.aload_n 1, 1) := by decide +kernel
theorem dL_acts_313 : decode cL_acts 313 = .ok (.bipush 12, 2) := by decide +kernel
theorem dL_acts_315 : decode cL_acts 315 = .ok (.bipush 7, 2) := by decide +kernel
theorem dL_acts_317 : decode cL_acts 317 = .ok (.iload 9, 2) := by decide +kernel
theorem dL_acts_319 : decode cL_acts 319 = .ok (.imul, 1) := by decide +kernel
theorem dL_acts_320 : decode cL_acts 320 = .ok (.iadd, 1) := by decide +kernel
theorem dL_acts_321 : decode cL_acts 321 = .ok (.iaload, 1) := by decide +kernel
theorem dL_acts_322 : decode cL_acts 322 = .ok (.iastore, 1) := by decide +kernel
theorem dL_acts_323 : decode cL_acts 323 = .ok (.aload_n 0, 1) := by decide +kernel
theorem dL_acts_324 : decode cL_acts 324 = .ok (.iload 9, 2) := by decide +kernel
theorem dL_acts_326 : decode cL_acts 326 = .ok (.iload 10, 2) := by decide +kernel
theorem dL_acts_328 : decode cL_acts 328 = .ok (.iload 11, 2) := by decide +kernel
theorem dL_acts_330 : decode cL_acts 330 = .ok (.invokevirtual 86, 3) := by decide +kernel
theorem dL_acts_333 : decode cL_acts 333 = .ok (.iload 12, 2) := by decide +kernel
theorem dL_acts_335 : decode cL_acts 335 = .ok (.if_icmp .ne 7, 3) := by decide +kernel
theorem dL_acts_338 : decode cL_acts 338 = .ok (.iconst 1, 1) := by decide +kernel
theorem dL_acts_339 : decode cL_acts 339 = .ok (.goto 4, 3) := by decide +kernel
theorem dL_acts_342 : decode cL_acts 342 = .ok (.iconst 0, 1) := by decide +kernel
theorem dL_acts_343 : decode cL_acts 343 = .ok (.ireturn, 1) := by decide +kernel
theorem dL_acts_344 : decode cL_acts 344 = .ok (.iload 4, 2) := by decide +kernel
theorem dL_acts_346 : decode cL_acts 346 = .ok (.iconst 2, 1) := by decide +kernel
theorem dL_acts_347 : decode cL_acts 347 = .ok (.irem, 1) := by decide +kernel
theorem dL_acts_348 : decode cL_acts 348 = .ok (.ifCond .ne 13, 3) := by decide +kernel
theorem dL_acts_351 : decode cL_acts 351 = .ok (.iload 4, 2) := by decide +kernel
theorem dL_acts_353 : decode cL_acts 353 = .ok (.iconst 2, 1) := by decide +kernel
theorem dL_acts_354 : decode cL_acts 354 = .ok (.idiv, 1) := by decide +kernel
theorem dL_acts_355 : decode cL_acts 355 = .ok (.bipush 30, 2) := by decide +kernel
theorem dL_acts_357 : decode cL_acts 357 = .ok (.irem, 1) := by decide +kernel
theorem dL_acts_358 : decode cL_acts 358 = .ok (.goto 20, 3) := by decide +kernel
theorem dL_acts_361 : decode cL_acts 361 = .ok (.aload_n 1, 1) := by decide +kernel
theorem dL_acts_362 : decode cL_acts 362 = .ok (.iconst 4, 1) := by decide +kernel
theorem dL_acts_363 : decode cL_acts 363 = .ok (.iaload, 1) := by decide +kernel
theorem dL_acts_364 : decode cL_acts 364 = .ok (.sipush 1440, 3) := by decide +kernel
theorem dL_acts_367 : decode cL_acts 367 = .ok (.idiv, 1) := by decide +kernel
theorem dL_acts_368 : decode cL_acts 368 = .ok (.iload 4, 2) := by decide +kernel
theorem dL_acts_370 : decode cL_acts 370 = .ok (.iconst 2, 1) := by decide +kernel
theorem dL_acts_371 : decode cL_acts 371 = .ok (.idiv, 1) := by decide +kernel
theorem dL_acts_372 : decode cL_acts 372 = .ok (.iconst 3, 1) := by decide +kernel
theorem dL_acts_373 : decode cL_acts 373 = .ok (.irem, 1) := by decide +kernel
theorem dL_acts_374 : decode cL_acts 374 = .ok (.iadd, 1) := by decide +kernel
theorem dL_acts_375 : decode cL_acts 375 = .ok (.bipush 30, 2) := by decide +kernel
theorem dL_acts_377 : decode cL_acts 377 = .ok (.irem, 1) := by decide +kernel
theorem dL_acts_378 : decode cL_acts 378 = .ok (.istore 13, 2) := by decide +kernel
theorem dL_acts_380 : decode cL_acts 380 = .ok (.iload 4, 2) := by decide +kernel
theorem dL_acts_382 : decode cL_acts 382 = .ok (.bipush 60, 2) := by decide +kernel
theorem dL_acts_384 : decode cL_acts 384 = .ok (.idiv, 1) := by decide +kernel
theorem dL_acts_385 : decode cL_acts 385 = .ok (.bipush 100, 2) := by decide +kernel
theorem dL_acts_387 : decode cL_acts 387 = .ok (.irem, 1) := by decide +kernel
theorem dL_acts_388 : decode cL_acts 388 = .ok (.istore 14, 2) := by decide +kernel
theorem dL_acts_390 : decode cL_acts 390 = .ok (.sipush 1440, 3) := by decide +kernel
theorem dL_acts_393 : decode cL_acts 393 = .ok (.iload 13, 2) := by decide +kernel
theorem dL_acts_395 : decode cL_acts 395 = .ok (.imul, 1) := by decide +kernel
theorem dL_acts_396 : decode cL_acts 396 = .ok (.aload_n 1, 1) := by decide +kernel
theorem dL_acts_397 : decode cL_acts 397 = .ok (.iconst 4, 1) := by decide +kernel
theorem dL_acts_398 : decode cL_acts 398 = .ok (.iaload, 1) := by decide +kernel
theorem dL_acts_399 : decode cL_acts 399 = .ok (.if_icmp .ge 22, 3) := by decide +kernel
theorem dL_acts_402 : decode cL_acts 402 = .ok (.aload_n 0, 1) := by decide +kernel
theorem dL_acts_403 : decode cL_acts 403 = .ok (.iload 13, 2) := by decide +kernel
theorem dL_acts_405 : decode cL_acts 405 = .ok (.iload 14, 2) := by decide +kernel
theorem dL_acts_407 : decode cL_acts 407 = .ok (.invokevirtual 90, 3) := by decide +kernel
theorem dL_acts_410 : decode cL_acts 410 = .ok (.ldc 93, 2) := by decide +kernel
theorem dL_acts_412 : decode cL_acts 412 = .ok (.if_icmp .ne 7, 3) := by decide +kernel
theorem dL_acts_415 : decode cL_acts 415 = .ok (.iconst 1, 1) := by decide +kernel
theorem dL_acts_416 : decode cL_acts 416 = .ok (.goto 4, 3) := by decide +kernel
theorem dL_acts_419 : decode cL_acts 419 = .ok (.iconst 0, 1) := by decide +kernel
theorem dL_acts_420 : decode cL_acts 420 = .ok (.ireturn, 1) := by decide +kernel
theorem dL_acts_421 : decode cL_acts 421 = .ok (.aload_n 1, 1) := by decide +kernel
theorem dL_acts_422 : decode cL_acts 422 = .ok (.bipush 22, 2) := by decide +kernel
theorem dL_acts_424 : decode cL_acts 424 = .ok (.iload 13, 2) := by decide +kernel
theorem dL_acts_426 : decode cL_acts 426 = .ok (.iadd, 1) := by decide +kernel
theorem dL_acts_427 : decode cL_acts 427 = .ok (.iaload, 1) := by decide +kernel
theorem dL_acts_428 : decode cL_acts 428 = .ok (.istore 15, 2) := by decide +kernel
theorem dL_acts_430 : decode cL_acts 430 = .ok (.aload_n 1, 1) := by decide +kernel
theorem dL_acts_431 : decode cL_acts 431 = .ok (.bipush 22, 2) := by decide +kernel
theorem dL_acts_433 : decode cL_acts 433 = .ok (.iload 13, 2) := by decide +kernel
theorem dL_acts_435 : decode cL_acts 435 = .ok (.iadd, 1) := by decide +kernel
theorem dL_acts_436 : decode cL_acts 436 = .ok (.iload 14, 2) := by decide +kernel
theorem dL_acts_438 : decode cL_acts 438 = .ok (.iastore, 1) := by decide +kernel
theorem dL_acts_439 : decode cL_acts 439 = .ok (.aload_n 0, 1) := by decide +kernel
theorem dL_acts_440 : decode cL_acts 440 = .ok (.iload 13, 2) := by decide +kernel
theorem dL_acts_442 : decode cL_acts 442 = .ok (.iload 14, 2) := by decide +kernel
theorem dL_acts_444 : decode cL_acts 444 = .ok (.invokevirtual 90, 3) := by decide +kernel
theorem dL_acts_447 : decode cL_acts 447 = .ok (.iload 15, 2) := by decide +kernel
theorem dL_acts_449 : decode cL_acts 449 = .ok (.if_icmp .ne 7, 3) := by decide +kernel
theorem dL_acts_452 : decode cL_acts 452 = .ok (.iconst 1, 1) := by decide +kernel
theorem dL_acts_453 : decode cL_acts 453 = .ok (.goto 4, 3) := by decide +kernel
theorem dL_acts_456 : decode cL_acts 456 = .ok (.iconst 0, 1) := by decide +kernel
theorem dL_acts_457 : decode cL_acts 457 = .ok (.ireturn, 1) := by decide +kernel
theorem dL_acts_458 : decode cL_acts 458 = .ok (.iload 4, 2) := by decide +kernel
theorem dL_acts_460 : decode cL_acts 460 = .ok (.ldc 33, 2) := by decide +kernel
theorem dL_acts_462 : decode cL_acts 462 = .ok (.irem, 1) := by decide +kernel
theorem dL_acts_463 : decode cL_acts 463 = .ok (.istore 16, 2) := by decide +kernel
theorem dL_acts_465 : decode cL_acts 465 = .ok (.sipush 500, 3) := by decide +kernel
theorem dL_acts_468 : decode cL_acts 468 = .ok (.iload 4, 2) := by decide +kernel
theorem dL_acts_470 : decode cL_acts 470 = .ok (.iconst 3, 1) := by decide +kernel
theorem dL_acts_471 : decode cL_acts 471 = .ok (.idiv, 1) := by decide +kernel
theorem dL_acts_472 : decode cL_acts 472 = .ok (.sipush 8501, 3) := by decide +kernel
theorem dL_acts_475 : decode cL_acts 475 = .ok (.irem, 1) := by decide +kernel
theorem dL_acts_476 : decode cL_acts 476 = .ok (.iadd, 1) := by decide +kernel
theorem dL_acts_477 : decode cL_acts 477 = .ok (.istore 17, 2) := by decide +kernel
theorem dL_acts_479 : decode cL_acts 479 = .ok (.aload_n 1, 1) := by decide +kernel
theorem dL_acts_480 : decode cL_acts 480 = .ok (.iload 16, 2) := by decide +kernel
theorem dL_acts_482 : decode cL_acts 482 = .ok (.invokestatic 47, 3) := by decide +kernel
theorem dL_acts_485 : decode cL_acts 485 = .ok (.istore 18, 2) := by decide +kernel
theorem dL_acts_487 : decode cL_acts 487 = .ok (.aload_n 1, 1) := by decide +kernel
theorem dL_acts_488 : decode cL_acts 488 = .ok (.aload_n 2, 1) := by decide +kernel
theorem dL_acts_489 : decode cL_acts 489 = .ok (.invokestatic 51, 3) := by decide +kernel
theorem dL_acts_492 : decode cL_acts 492 = .ok (.ifCond .ge 27, 3) := by decide +kernel
theorem dL_acts_495 : decode cL_acts 495 = .ok (.aload_n 1, 1) := by decide +kernel
theorem dL_acts_496 : decode cL_acts 496 = .ok (.invokestatic 55, 3) := by decide +kernel
theorem dL_acts_499 : decode cL_acts 499 = .ok (.ifCond .eq 20, 3) := by decide +kernel
theorem dL_acts_502 : decode cL_acts 502 = .ok (.iload 18, 2) := by decide +kernel
theorem dL_acts_504 : decode cL_acts 504 = .ok (.ldc 50, 2) := by decide +kernel
theorem dL_acts_506 : decode cL_acts 506 = .ok (.if_icmp .lt 13, 3) := by decide +kernel
theorem dL_acts_509 : decode cL_acts 509 = .ok (.aload_n 1, 1) := by decide +kernel
theorem dL_acts_510 : decode cL_acts 510 = .ok (.iconst 1, 1) := by decide +kernel
theorem dL_acts_511 : decode cL_acts 511 = .ok (.iload 17, 2) := by decide +kernel
theorem dL_acts_513 : decode cL_acts 513 = .ok (.invokestatic 27, 3) := by decide +kernel
theorem dL_acts_516 : decode cL_acts 516 = .ok (.ifCond .ge 22, 3) := by decide +kernel
theorem dL_acts_519 : decode cL_acts 519 = .ok (.aload_n 0, 1) := by decide +kernel
theorem dL_acts_520 : decode cL_acts 520 = .ok (.iload 16, 2) := by decide +kernel
theorem dL_acts_522 : decode cL_acts 522 = .ok (.iload 17, 2) := by decide +kernel
theorem dL_acts_524 : decode cL_acts 524 = .ok (.invokevirtual 94, 3) := by decide +kernel
theorem dL_acts_527 : decode cL_acts 527 = .ok (.ldc 93, 2) := by decide +kernel
theorem dL_acts_529 : decode cL_acts 529 = .ok (.if_icmp .ne 7, 3) := by decide +kernel
theorem dL_acts_532 : decode cL_acts 532 = .ok (.iconst 1, 1) := by decide +kernel
theorem dL_acts_533 : decode cL_acts 533 = .ok (.goto 4, 3) := by decide +kernel
theorem dL_acts_536 : decode cL_acts 536 = .ok (.iconst 0, 1) := by decide +kernel
theorem dL_acts_537 : decode cL_acts 537 = .ok (.ireturn, 1) := by decide +kernel
theorem dL_acts_538 : decode cL_acts 538 = .ok (.aload_n 0, 1) := by decide +kernel
theorem dL_acts_539 : decode cL_acts 539 = .ok (.iload 16, 2) := by decide +kernel
theorem dL_acts_541 : decode cL_acts 541 = .ok (.iload 17, 2) := by decide +kernel
theorem dL_acts_543 : decode cL_acts 543 = .ok (.invokevirtual 94, 3) := by decide +kernel
theorem dL_acts_546 : decode cL_acts 546 = .ok (.aload_n 1, 1) := by decide +kernel
theorem dL_acts_547 : decode cL_acts 547 = .ok (.iload 18, 2) := by decide +kernel
theorem dL_acts_549 : decode cL_acts 549 = .ok (.iload 17, 2) := by decide +kernel
theorem dL_acts_551 : decode cL_acts 551 = .ok (.invokestatic 70, 3) := by decide +kernel
theorem dL_acts_554 : decode cL_acts 554 = .ok (.if_icmp .ne 7, 3) := by decide +kernel
theorem dL_acts_557 : decode cL_acts 557 = .ok (.iconst 1, 1) := by decide +kernel
theorem dL_acts_558 : decode cL_acts 558 = .ok (.goto 4, 3) := by decide +kernel
theorem dL_acts_561 : decode cL_acts 561 = .ok (.iconst 0, 1) := by decide +kernel
theorem dL_acts_562 : decode cL_acts 562 = .ok (.ireturn, 1) := by decide +kernel
theorem dL_acts_563 : decode cL_acts 563 = .ok (.iload 5, 2) := by decide +kernel
theorem dL_acts_565 : decode cL_acts 565 = .ok (.ifCond .eq 10, 3) := by decide +kernel
theorem dL_acts_568 : decode cL_acts 568 = .ok (.iload 4, 2) := by decide +kernel
theorem dL_acts_570 : decode cL_acts 570 = .ok (.iconst 3, 1) := by decide +kernel
theorem dL_acts_571 : decode cL_acts 571 = .ok (.irem, 1) := by decide +kernel
theorem dL_acts_572 : decode cL_acts 572 = .ok (.ifCond .le 20, 3) := by decide +kernel
theorem dL_acts_575 : decode cL_acts 575 = .ok (.aload_n 0, 1) := by decide +kernel
theorem dL_acts_576 : decode cL_acts 576 = .ok (.iload 5, 2) := by decide +kernel
theorem dL_acts_578 : decode cL_acts 578 = .ok (.invokevirtual 97, 3) := by decide +kernel
theorem dL_acts_581 : decode cL_acts 581 = .ok (.ldc 100, 2) := by decide +kernel
theorem dL_acts_583 : decode cL_acts 583 = .ok (.if_icmp .ne 7, 3) := by decide +kernel
theorem dL_acts_586 : decode cL_acts 586 = .ok (.iconst 1, 1) := by decide +kernel
theorem dL_acts_587 : decode cL_acts 587 = .ok (.goto 4, 3) := by decide +kernel
theorem dL_acts_590 : decode cL_acts 590 = .ok (.iconst 0, 1) := by decide +kernel
theorem dL_acts_591 : decode cL_acts 591 = .ok (.ireturn, 1) := by decide +kernel
theorem dL_acts_592 : decode cL_acts 592 = .ok (.iload 4, 2) := by decide +kernel
theorem dL_acts_594 : decode cL_acts 594 = .ok (.iconst 3, 1) := by decide +kernel
theorem dL_acts_595 : decode cL_acts 595 = .ok (.idiv, 1) := by decide +kernel
theorem dL_acts_596 : decode cL_acts 596 = .ok (.iload 5, 2) := by decide +kernel
theorem dL_acts_598 : decode cL_acts 598 = .ok (.irem, 1) := by decide +kernel
theorem dL_acts_599 : decode cL_acts 599 = .ok (.istore 19, 2) := by decide +kernel
theorem dL_acts_601 : decode cL_acts 601 = .ok (.aload_n 2, 1) := by decide +kernel
theorem dL_acts_602 : decode cL_acts 602 = .ok (.bipush 14, 2) := by decide +kernel
theorem dL_acts_604 : decode cL_acts 604 = .ok (.iload 19, 2) := by decide +kernel
theorem dL_acts_606 : decode cL_acts 606 = .ok (.imul, 1) := by decide +kernel
theorem dL_acts_607 : decode cL_acts 607 = .ok (.bipush 6, 2) := by decide +kernel
theorem dL_acts_609 : decode cL_acts 609 = .ok (.iadd, 1) := by decide +kernel
theorem dL_acts_610 : decode cL_acts 610 = .ok (.iaload, 1) := by decide +kernel
theorem dL_acts_611 : decode cL_acts 611 = .ok (.iconst 1, 1) := by decide +kernel
theorem dL_acts_612 : decode cL_acts 612 = .ok (.if_icmp .ne 20, 3) := by decide +kernel
theorem dL_acts_615 : decode cL_acts 615 = .ok (.aload_n 0, 1) := by decide +kernel
theorem dL_acts_616 : decode cL_acts 616 = .ok (.iload 19, 2) := by decide +kernel
theorem dL_acts_618 : decode cL_acts 618 = .ok (.invokevirtual 97, 3) := by decide +kernel
theorem dL_acts_621 : decode cL_acts 621 = .ok (.ldc 93, 2) := by decide +kernel
theorem dL_acts_623 : decode cL_acts 623 = .ok (.if_icmp .ne 7, 3) := by decide +kernel
theorem dL_acts_626 : decode cL_acts 626 = .ok (.iconst 1, 1) := by decide +kernel
theorem dL_acts_627 : decode cL_acts 627 = .ok (.goto 4, 3) := by decide +kernel
theorem dL_acts_630 : decode cL_acts 630 = .ok (.iconst 0, 1) := by decide +kernel
theorem dL_acts_631 : decode cL_acts 631 = .ok (.ireturn, 1) := by decide +kernel
theorem dL_acts_632 : decode cL_acts 632 = .ok (.bipush 14, 2) := by decide +kernel
theorem dL_acts_634 : decode cL_acts 634 = .ok (.iload 19, 2) := by decide +kernel
theorem dL_acts_636 : decode cL_acts 636 = .ok (.imul, 1) := by decide +kernel
theorem dL_acts_637 : decode cL_acts 637 = .ok (.istore 20, 2) := by decide +kernel
theorem dL_acts_639 : decode cL_acts 639 = .ok (.iload 20, 2) := by decide +kernel
theorem dL_acts_641 : decode cL_acts 641 = .ok (.bipush 14, 2) := by decide +kernel
theorem dL_acts_643 : decode cL_acts 643 = .ok (.iadd, 1) := by decide +kernel
theorem dL_acts_644 : decode cL_acts 644 = .ok (.bipush 56, 2) := by decide +kernel
theorem dL_acts_646 : decode cL_acts 646 = .ok (.if_icmp .ge 20, 3) := by decide +kernel
theorem dL_acts_649 : decode cL_acts 649 = .ok (.aload_n 2, 1) := by decide +kernel
theorem dL_acts_650 : decode cL_acts 650 = .ok (.iload 20, 2) := by decide +kernel
theorem dL_acts_652 : decode cL_acts 652 = .ok (.aload_n 2, 1) := by decide +kernel
theorem dL_acts_653 : decode cL_acts 653 = .ok (.iload 20, 2) := by decide +kernel
theorem dL_acts_655 : decode cL_acts 655 = .ok (.bipush 14, 2) := by decide +kernel
theorem dL_acts_657 : decode cL_acts 657 = .ok (.iadd, 1) := by decide +kernel
theorem dL_acts_658 : decode cL_acts 658 = .ok (.iaload, 1) := by decide +kernel
theorem dL_acts_659 : decode cL_acts 659 = .ok (.iastore, 1) := by decide +kernel
theorem dL_acts_660 : decode cL_acts 660 = .ok (.iinc 20 1, 3) := by decide +kernel
theorem dL_acts_663 : decode cL_acts 663 = .ok (.goto (-24), 3) := by decide +kernel
theorem dL_acts_666 : decode cL_acts 666 = .ok (.aload_n 1, 1) := by decide +kernel
theorem dL_acts_667 : decode cL_acts 667 = .ok (.bipush 7, 2) := by decide +kernel
theorem dL_acts_669 : decode cL_acts 669 = .ok (.dup2, 1) := by decide +kernel
theorem dL_acts_670 : decode cL_acts 670 = .ok (.iaload, 1) := by decide +kernel
theorem dL_acts_671 : decode cL_acts 671 = .ok (.iconst 1, 1) := by decide +kernel
theorem dL_acts_672 : decode cL_acts 672 = .ok (.isub, 1) := by decide +kernel
theorem dL_acts_673 : decode cL_acts 673 = .ok (.iastore, 1) := by decide +kernel
theorem dL_acts_674 : decode cL_acts 674 = .ok (.aload_n 0, 1) := by decide +kernel
theorem dL_acts_675 : decode cL_acts 675 = .ok (.iload 19, 2) := by decide +kernel
theorem dL_acts_677 : decode cL_acts 677 = .ok (.invokevirtual 97, 3) := by decide +kernel
theorem dL_acts_680 : decode cL_acts 680 = .ok (.iload 5, 2) := by decide +kernel
theorem dL_acts_682 : decode cL_acts 682 = .ok (.iconst 1, 1) := by decide +kernel
theorem dL_acts_683 : decode cL_acts 683 = .ok (.isub, 1) := by decide +kernel
theorem dL_acts_684 : decode cL_acts 684 = .ok (.if_icmp .ne 7, 3) := by decide +kernel
theorem dL_acts_687 : decode cL_acts 687 = .ok (.iconst 1, 1) := by decide +kernel
theorem dL_acts_688 : decode cL_acts 688 = .ok (.goto 4, 3) := by decide +kernel
theorem dL_acts_691 : decode cL_acts 691 = .ok (.iconst 0, 1) := by decide +kernel
theorem dL_acts_692 : decode cL_acts 692 = .ok (.ireturn, 1) := by decide +kernel
theorem dL_acts_693 : decode cL_acts 693 = .ok (.iload 4, 2) := by decide +kernel
theorem dL_acts_695 : decode cL_acts 695 = .ok (.iconst 4, 1) := by decide +kernel
theorem dL_acts_696 : decode cL_acts 696 = .ok (.irem, 1) := by decide +kernel
theorem dL_acts_697 : decode cL_acts 697 = .ok (.ifCond .ne 14, 3) := by decide +kernel
theorem dL_acts_700 : decode cL_acts 700 = .ok (.iload 4, 2) := by decide +kernel
theorem dL_acts_702 : decode cL_acts 702 = .ok (.iconst 4, 1) := by decide +kernel
theorem dL_acts_703 : decode cL_acts 703 = .ok (.idiv, 1) := by decide +kernel
theorem dL_acts_704 : decode cL_acts 704 = .ok (.sipush 1500, 3) := by decide +kernel
theorem dL_acts_707 : decode cL_acts 707 = .ok (.irem, 1) := by decide +kernel
theorem dL_acts_708 : decode cL_acts 708 = .ok (.goto 10, 3) := by decide +kernel
theorem dL_acts_711 : decode cL_acts 711 = .ok (.iload 4, 2) := by decide +kernel
theorem dL_acts_713 : decode cL_acts 713 = .ok (.iconst 4, 1) := by decide +kernel
theorem dL_acts_714 : decode cL_acts 714 = .ok (.idiv, 1) := by decide +kernel
theorem dL_acts_715 : decode cL_acts 715 = .ok (.bipush 90, 2) := by decide +kernel
theorem dL_acts_717 : decode cL_acts 717 = .ok (.irem, 1) := by decide +kernel
theorem dL_acts_718 : decode cL_acts 718 = .ok (.istore 20, 2) := by decide +kernel
theorem dL_acts_720 : decode cL_acts 720 = .ok (.aload_n 1, 1) := by decide +kernel
theorem dL_acts_721 : decode cL_acts 721 = .ok (.iconst 4, 1) := by decide +kernel
theorem dL_acts_722 : decode cL_acts 722 = .ok (.iaload, 1) := by decide +kernel
theorem dL_acts_723 : decode cL_acts 723 = .ok (.iload 20, 2) := by decide +kernel
theorem dL_acts_725 : decode cL_acts 725 = .ok (.iadd, 1) := by decide +kernel
theorem dL_acts_726 : decode cL_acts 726 = .ok (.ldc 101, 2) := by decide +kernel
theorem dL_acts_728 : decode cL_acts 728 = .ok (.if_icmp .le 20, 3) := by decide +kernel
theorem dL_acts_731 : decode cL_acts 731 = .ok (.aload_n 0, 1) := by decide +kernel
theorem dL_acts_732 : decode cL_acts 732 = .ok (.iload 20, 2) := by decide +kernel
theorem dL_acts_734 : decode cL_acts 734 = .ok (.invokevirtual 102, 3) := by decide +kernel
theorem dL_acts_737 : decode cL_acts 737 = .ok (.ldc 105, 2) := by decide +kernel
theorem dL_acts_739 : decode cL_acts 739 = .ok (.if_icmp .ne 7, 3) := by decide +kernel
theorem dL_acts_742 : decode cL_acts 742 = .ok (.iconst 1, 1) := by decide +kernel
theorem dL_acts_743 : decode cL_acts 743 = .ok (.goto 4, 3) := by decide +kernel
theorem dL_acts_746 : decode cL_acts 746 = .ok (.iconst 0, 1) := by decide +kernel
theorem dL_acts_747 : decode cL_acts 747 = .ok (.ireturn, 1) := by decide +kernel
theorem dL_acts_748 : decode cL_acts 748 = .ok (.aload_n 0, 1) := by decide +kernel
theorem dL_acts_749 : decode cL_acts 749 = .ok (.iload 20, 2) := by decide +kernel
theorem dL_acts_751 : decode cL_acts 751 = .ok (.invokevirtual 102, 3) := by decide +kernel
theorem dL_acts_754 : decode cL_acts 754 = .ok (.aload_n 1, 1) := by decide +kernel
theorem dL_acts_755 : decode cL_acts 755 = .ok (.aload_n 2, 1) := by decide +kernel
theorem dL_acts_756 : decode cL_acts 756 = .ok (.iload 20, 2) := by decide +kernel
theorem dL_acts_758 : decode cL_acts 758 = .ok (.invokestatic 106, 3) := by decide +kernel
theorem dL_acts_761 : decode cL_acts 761 = .ok (.if_icmp .ne 7, 3) := by decide +kernel
theorem dL_acts_764 : decode cL_acts 764 = .ok (.iconst 1, 1) := by decide +kernel
theorem dL_acts_765 : decode cL_acts 765 = .ok (.goto 4, 3) := by decide +kernel
theorem dL_acts_768 : decode cL_acts 768 = .ok (.iconst 0, 1) := by decide +kernel
theorem dL_acts_769 : decode cL_acts 769 = .ok (.ireturn, 1) := by decide +kernel
theorem dL_acts_770 : decode cL_acts 770 = .ok (.iload 5, 2) := by decide +kernel
theorem dL_acts_772 : decode cL_acts 772 = .ok (.iconst 4, 1) := by decide +kernel
theorem dL_acts_773 : decode cL_acts 773 = .ok (.if_icmp .ne 26, 3) := by decide +kernel
theorem dL_acts_776 : decode cL_acts 776 = .ok (.aload_n 0, 1) := by decide +kernel
theorem dL_acts_777 : decode cL_acts 777 = .ok (.iconst 0, 1) := by decide +kernel
theorem dL_acts_778 : decode cL_acts 778 = .ok (.sipush 499, 3) := by decide +kernel
theorem dL_acts_781 : decode cL_acts 781 = .ok (.iconst 0, 1) := by decide +kernel
theorem dL_acts_782 : decode cL_acts 782 = .ok (.iconst 1, 1) := by decide +kernel
theorem dL_acts_783 : decode cL_acts 783 = .ok (.iconst 1, 1) := by decide +kernel
theorem dL_acts_784 : decode cL_acts 784 = .ok (.iconst 0, 1) := by decide +kernel
theorem dL_acts_785 : decode cL_acts 785 = .ok (.invokevirtual 109, 3) := by decide +kernel
theorem dL_acts_788 : decode cL_acts 788 = .ok (.ldc 100, 2) := by decide +kernel
theorem dL_acts_790 : decode cL_acts 790 = .ok (.if_icmp .ne 7, 3) := by decide +kernel
theorem dL_acts_793 : decode cL_acts 793 = .ok (.iconst 1, 1) := by decide +kernel
theorem dL_acts_794 : decode cL_acts 794 = .ok (.goto 4, 3) := by decide +kernel
theorem dL_acts_797 : decode cL_acts 797 = .ok (.iconst 0, 1) := by decide +kernel
theorem dL_acts_798 : decode cL_acts 798 = .ok (.ireturn, 1) := by decide +kernel
theorem dL_acts_799 : decode cL_acts 799 = .ok (.bipush 14, 2) := by decide +kernel
theorem dL_acts_801 : decode cL_acts 801 = .ok (.iload 5, 2) := by decide +kernel
theorem dL_acts_803 : decode cL_acts 803 = .ok (.imul, 1) := by decide +kernel
theorem dL_acts_804 : decode cL_acts 804 = .ok (.istore 21, 2) := by decide +kernel
theorem dL_acts_806 : decode cL_acts 806 = .ok (.iconst 0, 1) := by decide +kernel
theorem dL_acts_807 : decode cL_acts 807 = .ok (.istore 22, 2) := by decide +kernel
theorem dL_acts_809 : decode cL_acts 809 = .ok (.iload 22, 2) := by decide +kernel
theorem dL_acts_811 : decode cL_acts 811 = .ok (.bipush 14, 2) := by decide +kernel
theorem dL_acts_813 : decode cL_acts 813 = .ok (.if_icmp .ge 17, 3) := by decide +kernel
theorem dL_acts_816 : decode cL_acts 816 = .ok (.aload_n 2, 1) := by decide +kernel
theorem dL_acts_817 : decode cL_acts 817 = .ok (.iload 21, 2) := by decide +kernel
theorem dL_acts_819 : decode cL_acts 819 = .ok (.iload 22, 2) := by decide +kernel
theorem dL_acts_821 : decode cL_acts 821 = .ok (.iadd, 1) := by decide +kernel
theorem dL_acts_822 : decode cL_acts 822 = .ok (.iconst 0, 1) := by decide +kernel
theorem dL_acts_823 : decode cL_acts 823 = .ok (.iastore, 1) := by decide +kernel
theorem dL_acts_824 : decode cL_acts 824 = .ok (.iinc 22 1, 3) := by decide +kernel
theorem dL_acts_827 : decode cL_acts 827 = .ok (.goto (-18), 3) := by decide +kernel
theorem dL_acts_830 : decode cL_acts 830 = .ok (.aload_n 2, 1) := by decide +kernel
theorem dL_acts_831 : decode cL_acts 831 = .ok (.iload 21, 2) := by decide +kernel
theorem dL_acts_833 : decode cL_acts 833 = .ok (.iload 4, 2) := by decide +kernel
theorem dL_acts_835 : decode cL_acts 835 = .ok (.ldc 33, 2) := by decide +kernel
theorem dL_acts_837 : decode cL_acts 837 = .ok (.irem, 1) := by decide +kernel
theorem dL_acts_838 : decode cL_acts 838 = .ok (.iastore, 1) := by decide +kernel
theorem dL_acts_839 : decode cL_acts 839 = .ok (.aload_n 2, 1) := by decide +kernel
theorem dL_acts_840 : decode cL_acts 840 = .ok (.iload 21, 2) := by decide +kernel
theorem dL_acts_842 : decode cL_acts 842 = .ok (.iconst 1, 1) := by decide +kernel
theorem dL_acts_843 : decode cL_acts 843 = .ok (.iadd, 1) := by decide +kernel
theorem dL_acts_844 : decode cL_acts 844 = .ok (.sipush 500, 3) := by decide +kernel
theorem dL_acts_847 : decode cL_acts 847 = .ok (.iload 4, 2) := by decide +kernel
theorem dL_acts_849 : decode cL_acts 849 = .ok (.bipush 7, 2) := by decide +kernel
theorem dL_acts_851 : decode cL_acts 851 = .ok (.idiv, 1) := by decide +kernel
theorem dL_acts_852 : decode cL_acts 852 = .ok (.sipush 8001, 3) := by decide +kernel
theorem dL_acts_855 : decode cL_acts 855 = .ok (.irem, 1) := by decide +kernel
theorem dL_acts_856 : decode cL_acts 856 = .ok (.iadd, 1) := by decide +kernel
theorem dL_acts_857 : decode cL_acts 857 = .ok (.iastore, 1) := by decide +kernel
theorem dL_acts_858 : decode cL_acts 858 = .ok (.aload_n 2, 1) := by decide +kernel
theorem dL_acts_859 : decode cL_acts 859 = .ok (.iload 21, 2) := by decide +kernel
theorem dL_acts_861 : decode cL_acts 861 = .ok (.iconst 2, 1) := by decide +kernel
theorem dL_acts_862 : decode cL_acts 862 = .ok (.iadd, 1) := by decide +kernel
theorem dL_acts_863 : decode cL_acts 863 = .ok (.aload_n 1, 1) := by decide +kernel
theorem dL_acts_864 : decode cL_acts 864 = .ok (.iconst 4, 1) := by decide +kernel
theorem dL_acts_865 : decode cL_acts 865 = .ok (.iaload, 1) := by decide +kernel
theorem dL_acts_866 : decode cL_acts 866 = .ok (.iload 4, 2) := by decide +kernel
theorem dL_acts_868 : decode cL_acts 868 = .ok (.bipush 11, 2) := by decide +kernel
theorem dL_acts_870 : decode cL_acts 870 = .ok (.idiv, 1) := by decide +kernel
theorem dL_acts_871 : decode cL_acts 871 = .ok (.sipush 300, 3) := by decide +kernel
theorem dL_acts_874 : decode cL_acts 874 = .ok (.irem, 1) := by decide +kernel
theorem dL_acts_875 : decode cL_acts 875 = .ok (.iadd, 1) := by decide +kernel
theorem dL_acts_876 : decode cL_acts 876 = .ok (.ldc 101, 2) := by decide +kernel
theorem dL_acts_878 : decode cL_acts 878 = .ok (.irem, 1) := by decide +kernel
theorem dL_acts_879 : decode cL_acts 879 = .ok (.iastore, 1) := by decide +kernel
theorem dL_acts_880 : decode cL_acts 880 = .ok (.aload_n 2, 1) := by decide +kernel
theorem dL_acts_881 : decode cL_acts 881 = .ok (.iload 21, 2) := by decide +kernel
theorem dL_acts_883 : decode cL_acts 883 = .ok (.iconst 3, 1) := by decide +kernel
theorem dL_acts_884 : decode cL_acts 884 = .ok (.iadd, 1) := by decide +kernel
theorem dL_acts_885 : decode cL_acts 885 = .ok (.aload_n 2, 1) := by decide +kernel
theorem dL_acts_886 : decode cL_acts 886 = .ok (.iload 21, 2) := by decide +kernel
theorem dL_acts_888 : decode cL_acts 888 = .ok (.iconst 2, 1) := by decide +kernel
theorem dL_acts_889 : decode cL_acts 889 = .ok (.iadd, 1) := by decide +kernel
theorem dL_acts_890 : decode cL_acts 890 = .ok (.iaload, 1) := by decide +kernel
theorem dL_acts_891 : decode cL_acts 891 = .ok (.iconst 1, 1) := by decide +kernel
theorem dL_acts_892 : decode cL_acts 892 = .ok (.iadd, 1) := by decide +kernel
theorem dL_acts_893 : decode cL_acts 893 = .ok (.iload 4, 2) := by decide +kernel
theorem dL_acts_895 : decode cL_acts 895 = .ok (.bipush 13, 2) := by decide +kernel
theorem dL_acts_897 : decode cL_acts 897 = .ok (.idiv, 1) := by decide +kernel
theorem dL_acts_898 : decode cL_acts 898 = .ok (.sipush 900, 3) := by decide +kernel
theorem dL_acts_901 : decode cL_acts 901 = .ok (.irem, 1) := by decide +kernel
theorem dL_acts_902 : decode cL_acts 902 = .ok (.iadd, 1) := by decide +kernel
theorem dL_acts_903 : decode cL_acts 903 = .ok (.iastore, 1) := by decide +kernel
theorem dL_acts_904 : decode cL_acts 904 = .ok (.aload_n 2, 1) := by decide +kernel
theorem dL_acts_905 : decode cL_acts 905 = .ok (.iload 21, 2) := by decide +kernel
theorem dL_acts_907 : decode cL_acts 907 = .ok (.iconst 3, 1) := by decide +kernel
theorem dL_acts_908 : decode cL_acts 908 = .ok (.iadd, 1) := by decide +kernel
theorem dL_acts_909 : decode cL_acts 909 = .ok (.aload_n 2, 1) := by decide +kernel
theorem dL_acts_910 : decode cL_acts 910 = .ok (.iload 21, 2) := by decide +kernel
theorem dL_acts_912 : decode cL_acts 912 = .ok (.iconst 3, 1) := by decide +kernel
theorem dL_acts_913 : decode cL_acts 913 = .ok (.iadd, 1) := by decide +kernel
theorem dL_acts_914 : decode cL_acts 914 = .ok (.iaload, 1) := by decide +kernel
theorem dL_acts_915 : decode cL_acts 915 = .ok (.ldc 101, 2) := by decide +kernel
theorem dL_acts_917 : decode cL_acts 917 = .ok (.if_icmp .le 8, 3) := by decide +kernel
theorem dL_acts_920 : decode cL_acts 920 = .ok (.ldc 101, 2) := by decide +kernel
theorem dL_acts_922 : decode cL_acts 922 = .ok (.goto 9, 3) := by decide +kernel
theorem dL_acts_925 : decode cL_acts 925 = .ok (.aload_n 2, 1) := by decide +kernel
theorem dL_acts_926 : decode cL_acts 926 = .ok (.iload 21, 2) := by decide +kernel
theorem dL_acts_928 : decode cL_acts 928 = .ok (.iconst 3, 1) := by decide +kernel
theorem dL_acts_929 : decode cL_acts 929 = .ok (.iadd, 1) := by decide +kernel
theorem dL_acts_930 : decode cL_acts 930 = .ok (.iaload, 1) := by decide +kernel
theorem dL_acts_931 : decode cL_acts 931 = .ok (.iastore, 1) := by decide +kernel
theorem dL_acts_932 : decode cL_acts 932 = .ok (.aload_n 2, 1) := by decide +kernel
theorem dL_acts_933 : decode cL_acts 933 = .ok (.iload 21, 2) := by decide +kernel
theorem dL_acts_935 : decode cL_acts 935 = .ok (.iconst 4, 1) := by decide +kernel
theorem dL_acts_936 : decode cL_acts 936 = .ok (.iadd, 1) := by decide +kernel
theorem dL_acts_937 : decode cL_acts 937 = .ok (.iconst 1, 1) := by decide +kernel
theorem dL_acts_938 : decode cL_acts 938 = .ok (.iload 4, 2) := by decide +kernel
theorem dL_acts_940 : decode cL_acts 940 = .ok (.iconst 3, 1) := by decide +kernel
theorem dL_acts_941 : decode cL_acts 941 = .ok (.idiv, 1) := by decide +kernel
theorem dL_acts_942 : decode cL_acts 942 = .ok (.bipush 80, 2) := by decide +kernel
theorem dL_acts_944 : decode cL_acts 944 = .ok (.irem, 1) := by decide +kernel
theorem dL_acts_945 : decode cL_acts 945 = .ok (.iadd, 1) := by decide +kernel
theorem dL_acts_946 : decode cL_acts 946 = .ok (.iastore, 1) := by decide +kernel
theorem dL_acts_947 : decode cL_acts 947 = .ok (.aload_n 2, 1) := by decide +kernel
theorem dL_acts_948 : decode cL_acts 948 = .ok (.iload 21, 2) := by decide +kernel
theorem dL_acts_950 : decode cL_acts 950 = .ok (.iconst 5, 1) := by decide +kernel
theorem dL_acts_951 : decode cL_acts 951 = .ok (.iadd, 1) := by decide +kernel
theorem dL_acts_952 : decode cL_acts 952 = .ok (.iload 4, 2) := by decide +kernel
theorem dL_acts_954 : decode cL_acts 954 = .ok (.bipush 17, 2) := by decide +kernel
theorem dL_acts_956 : decode cL_acts 956 = .ok (.idiv, 1) := by decide +kernel
theorem dL_acts_957 : decode cL_acts 957 = .ok (.iconst 4, 1) := by decide +kernel
theorem dL_acts_958 : decode cL_acts 958 = .ok (.irem, 1) := by decide +kernel
theorem dL_acts_959 : decode cL_acts 959 = .ok (.iastore, 1) := by decide +kernel
theorem dL_acts_960 : decode cL_acts 960 = .ok (.aload_n 1, 1) := by decide +kernel
theorem dL_acts_961 : decode cL_acts 961 = .ok (.bipush 7, 2) := by decide +kernel
theorem dL_acts_963 : decode cL_acts 963 = .ok (.dup2, 1) := by decide +kernel
theorem dL_acts_964 : decode cL_acts 964 = .ok (.iaload, 1) := by decide +kernel
theorem dL_acts_965 : decode cL_acts 965 = .ok (.iconst 1, 1) := by decide +kernel
theorem dL_acts_966 : decode cL_acts 966 = .ok (.iadd, 1) := by decide +kernel
theorem dL_acts_967 : decode cL_acts 967 = .ok (.iastore, 1) := by decide +kernel
theorem dL_acts_968 : decode cL_acts 968 = .ok (.aload_n 0, 1) := by decide +kernel
theorem dL_acts_969 : decode cL_acts 969 = .ok (.aload_n 2, 1) := by decide +kernel
theorem dL_acts_970 : decode cL_acts 970 = .ok (.iload 21, 2) := by decide +kernel
theorem dL_acts_972 : decode cL_acts 972 = .ok (.iaload, 1) := by decide +kernel
theorem dL_acts_973 : decode cL_acts 973 = .ok (.aload_n 2, 1) := by decide +kernel
theorem dL_acts_974 : decode cL_acts 974 = .ok (.iload 21, 2) := by decide +kernel
theorem dL_acts_976 : decode cL_acts 976 = .ok (.iconst 1, 1) := by decide +kernel
theorem dL_acts_977 : decode cL_acts 977 = .ok (.iadd, 1) := by decide +kernel
theorem dL_acts_978 : decode cL_acts 978 = .ok (.iaload, 1) := by decide +kernel
theorem dL_acts_979 : decode cL_acts 979 = .ok (.aload_n 2, 1) := by decide +kernel
theorem dL_acts_980 : decode cL_acts 980 = .ok (.iload 21, 2) := by decide +kernel
theorem dL_acts_982 : decode cL_acts 982 = .ok (.iconst 2, 1) := by decide +kernel
theorem dL_acts_983 : decode cL_acts 983 = .ok (.iadd, 1) := by decide +kernel
theorem dL_acts_984 : decode cL_acts 984 = .ok (.iaload, 1) := by decide +kernel
theorem dL_acts_985 : decode cL_acts 985 = .ok (.aload_n 2, 1) := by decide +kernel
theorem dL_acts_986 : decode cL_acts 986 = .ok (.iload 21, 2) := by decide +kernel
theorem dL_acts_988 : decode cL_acts 988 = .ok (.iconst 3, 1) := by decide +kernel
theorem dL_acts_989 : decode cL_acts 989 = .ok (.iadd, 1) := by decide +kernel
theorem dL_acts_990 : decode cL_acts 990 = .ok (.iaload, 1) := by decide +kernel
theorem dL_acts_991 : decode cL_acts 991 = .ok (.aload_n 2, 1) := by decide +kernel
theorem dL_acts_992 : decode cL_acts 992 = .ok (.iload 21, 2) := by decide +kernel
theorem dL_acts_994 : decode cL_acts 994 = .ok (.iconst 4, 1) := by decide +kernel
theorem dL_acts_995 : decode cL_acts 995 = .ok (.iadd, 1) := by decide +kernel
theorem dL_acts_996 : decode cL_acts 996 = .ok (.iaload, 1) := by decide +kernel
theorem dL_acts_997 : decode cL_acts 997 = .ok (.aload_n 2, 1) := by decide +kernel
theorem dL_acts_998 : decode cL_acts 998 = .ok (.iload 21, 2) := by decide +kernel
theorem dL_acts_1000 : decode cL_acts 1000 = .ok (.iconst 5, 1) := by decide +kernel
theorem dL_acts_1001 : decode cL_acts 1001 = .ok (.iadd, 1) := by decide +kernel
theorem dL_acts_1002 : decode cL_acts 1002 = .ok (.iaload, 1) := by decide +kernel
theorem dL_acts_1003 : decode cL_acts 1003 = .ok (.invokevirtual 109, 3) := by decide +kernel
theorem dL_acts_1006 : decode cL_acts 1006 = .ok (.iload 5, 2) := by decide +kernel
theorem dL_acts_1008 : decode cL_acts 1008 = .ok (.if_icmp .ne 7, 3) := by decide +kernel
theorem dL_acts_1011 : decode cL_acts 1011 = .ok (.iconst 1, 1) := by decide +kernel
theorem dL_acts_1012 : decode cL_acts 1012 = .ok (.goto 4, 3) := by decide +kernel
theorem dL_acts_1015 : decode cL_acts 1015 = .ok (.iconst 0, 1) := by decide +kernel
theorem dL_acts_1016 : decode cL_acts 1016 = .ok (.ireturn, 1) := by decide +kernel

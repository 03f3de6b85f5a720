set_option maxRecDepth 20000 in
theorem ggL_law_X6_init : GoodIn wsL_law wsX6_init := goodIn_r _ [7, 8, 9, 10, 11, 12, 13, 14, 15, 16, 17, 18, 19, 20, 21, 22, 23, 24, 25, 26, 27, 3, 28, 29, 30, 31, 32, 33, 34, 35, 36, 37, 38, 39, 40, 41, 42, 43, 44, 45, 46, 47, 48, 49, 50, 51, 52, 53, 54, 55, 56, 57, 58, 59, 60, 61, 62, 63, 64, 65, 66, 67, 68, 69, 70, 71, 72, 73, 74, 497, 498, 499, 500, 501, 502, 503, 504, 505, 506, 507, 493, 494, 495, 496, 508, 509, 510, 511, 512, 513, 514, 515, 516, 517, 518, 519, 520, 521, 522, 523, 524, 525, 526, 527, 528, 529, 530, 531, 532, 533, 534, 535, 536, 537, 538, 539, 540, 541, 542, 543, 544, 545, 546] (by decide +kernel) (by decide +kernel)
set_option maxRecDepth 20000 in
theorem gL_law_X6_init : GoodIn wsL_law (wsX6_init) := ggL_law_X6_init
set_option maxRecDepth 20000 in
theorem ggL_law_L_begins : GoodIn wsL_law wsL_begins := goodIn_r _ [78] (by decide +kernel) (by decide +kernel)
set_option maxRecDepth 20000 in
theorem gL_law_L_begins : GoodIn wsL_law (va_wsS RL 131 yL_begins wsL_begins) := goodIn_app (goodIn_of _ (by decide +kernel)) ggL_law_L_begins
set_option maxRecDepth 20000 in
theorem ggL_law_L_isSo : GoodIn wsL_law wsL_isSo := goodIn_r _ [81, 3, 82, 83, 4, 84, 85, 77, 86, 87, 88, 89, 90, 91, 92, 2, 93, 14, 19, 94, 23, 95, 96, 97, 98, 13, 99, 36, 100, 101, 102, 103, 104, 105, 106, 107, 108, 109, 110, 111, 112, 113, 114, 115, 116, 117, 118, 119, 28, 120, 121, 33, 122, 123, 124, 125, 126, 127, 128, 129, 130, 131, 29, 132, 133, 134, 135, 136, 137, 138, 32, 139, 52, 140, 141, 142, 143, 144, 145, 146, 147, 148, 149, 150, 151, 152, 153, 154, 155, 156, 157, 158, 159, 160, 161, 162, 163, 164, 165, 166, 167, 168, 169, 170, 171, 172, 173, 174, 175, 42, 34, 176, 177, 178, 39, 179, 180, 181, 182, 183, 184, 185, 186, 187, 188, 189, 190, 191, 192, 193, 194, 195, 196, 197, 198, 199, 49, 50, 200, 201, 202, 203, 40, 41, 204, 205, 206, 207, 208, 209, 210, 211, 212, 213, 44, 214, 215, 216, 217, 218, 219, 220, 221, 222, 223, 224, 225, 226, 227, 228, 229, 230, 231, 232, 233, 234, 235, 236, 237, 238, 239, 240, 241, 242, 243, 244, 245, 246, 247, 248, 249, 250, 251, 252, 253, 254, 255, 256, 257, 258, 259, 260, 261, 262, 263, 264, 265, 266, 267, 268, 269, 53, 270, 54, 271, 272, 51, 273, 274, 275, 276, 277, 278, 279, 280, 281, 282, 283, 284, 285, 286, 287, 288, 289, 290, 291, 61, 292, 293, 294, 295, 296, 297, 298, 299, 300, 301, 302, 303, 304, 305, 306, 307, 308, 493, 494, 495, 496, 508, 509, 510, 511, 512, 513, 514, 515, 497, 498, 499, 500, 501, 502, 503, 504, 505, 506, 507, 533, 534, 535, 536, 537, 538, 539, 540, 541, 542, 543, 544, 545, 546, 516, 517, 518, 519, 520, 521, 522, 523, 524, 525, 526, 527, 528, 529, 530, 531, 532] (by decide +kernel) (by decide +kernel)
set_option maxRecDepth 20000 in
theorem gL_law_L_isSo : GoodIn wsL_law (va_wsS RL 135 yL_isSo wsL_isSo) := goodIn_app (goodIn_of _ (by decide +kernel)) ggL_law_L_isSo
set_option maxRecDepth 20000 in
theorem ggL_law_L_cell : GoodIn wsL_law wsL_cell := goodIn_r _ [311, 312] (by decide +kernel) (by decide +kernel)
set_option maxRecDepth 20000 in
theorem gL_law_L_cell : GoodIn wsL_law (va_wsS RL 139 yL_cell wsL_cell) := goodIn_app (goodIn_of _ (by decide +kernel)) ggL_law_L_cell
set_option maxRecDepth 20000 in
theorem ggL_law_L_low : GoodIn wsL_law wsL_low := goodIn_r _ [315, 316] (by decide +kernel) (by decide +kernel)
set_option maxRecDepth 20000 in
theorem gL_law_L_low : GoodIn wsL_law (va_wsS RL 77 yL_low wsL_low) := goodIn_app (goodIn_of _ (by decide +kernel)) ggL_law_L_low
set_option maxRecDepth 20000 in
theorem ggL_law_L_acts : GoodIn wsL_law wsL_acts := goodIn_r _ [319, 320, 321, 82, 223, 4, 322, 323, 313, 314, 77, 315, 316, 324, 325, 326, 2, 327, 328, 258, 19, 14, 259, 260, 261, 329, 330, 331, 18, 332, 333, 67, 334, 335, 336, 337, 338, 339, 340, 13, 341, 114, 120, 121, 28, 342, 343, 344, 345, 29, 33, 34, 36, 346, 347, 348, 32, 349, 53, 270, 54, 52, 140, 271, 272, 350, 351, 352, 44, 353, 288, 289, 290, 216, 291, 215, 61, 292, 293, 294, 295, 297, 298, 354, 355, 356, 357, 358, 359, 360, 361, 362, 363, 364, 262, 263, 264, 265, 365, 366, 367, 368, 369, 370, 167, 371, 372, 267, 268, 269, 51, 273, 274, 137, 138, 139, 373, 374, 375, 376, 377, 378, 379, 380, 381, 382, 236, 237, 238, 239, 83, 240, 241, 242, 224, 225, 226, 227, 228, 229, 87, 88, 89, 230, 231, 232, 233, 234, 235, 84, 85, 86, 145, 146, 147, 383, 384, 385, 386, 387, 388, 101, 102, 103, 104, 100, 389, 133, 134, 135, 128, 129, 130, 131, 124, 125, 126, 127, 390, 201, 202, 203, 40, 122, 41, 162, 176, 177, 178, 39, 179, 180, 181, 182, 183, 184, 185, 186, 187, 188, 189, 190, 191, 192, 193, 194, 195, 196, 197, 198, 199, 49, 50, 204, 205, 206, 207, 208, 209, 210, 391, 173, 174, 175, 42, 392, 393, 394, 395, 164, 165, 166, 168, 396, 397, 398, 399, 400, 401, 402, 403, 404, 405, 406, 407, 408, 409, 243, 244, 245, 410, 411, 412, 413, 414, 415, 416, 279, 417, 280, 281, 282, 283, 418, 419, 420, 421, 96, 97, 98, 99, 422, 423, 424, 425, 426, 427, 428, 429, 430, 431, 132, 432, 433, 434, 435, 436, 437, 438, 439, 440, 441, 170, 442, 443, 444, 445, 113, 446, 447, 448, 449, 450, 451, 452, 453, 454, 455, 136, 456, 153, 154, 155, 156, 157, 158, 159, 160, 161, 163, 169, 171, 172, 200, 211, 212, 213, 214, 457, 458, 459, 460, 461, 462, 463, 464, 465, 466, 467, 468, 469, 470, 471, 472, 473, 474, 475, 476, 477, 478, 479, 217, 218, 219, 220, 221, 222, 480, 481, 482, 483, 484, 485, 486, 487, 488, 489, 490, 491, 492, 493, 494, 495, 496, 508, 509, 497, 498, 499, 500, 501, 502, 503, 504, 505, 506, 507, 516, 517, 518, 519, 520, 521, 522, 523, 524, 525, 533, 534, 535, 536, 537, 538, 539, 540, 541, 542, 543, 544, 545, 546, 526, 527, 528, 529, 530, 531, 532] (by decide +kernel) (by decide +kernel)
set_option maxRecDepth 20000 in
theorem gL_law_L_acts : GoodIn wsL_law (va_wsS RL 142 yL_acts wsL_acts) := goodIn_app (goodIn_of _ (by decide +kernel)) ggL_law_L_acts
set_option maxRecDepth 20000 in
theorem ggL_law_X6_axis : GoodIn wsL_law wsX6_axis := goodIn_r _ [257, 258, 14, 259, 260, 2, 261, 262, 263, 264, 13, 265, 33, 34, 266, 267, 268, 32, 269, 53, 270, 54, 52, 140, 271, 272, 51, 273, 274, 137, 138, 139, 493, 494, 495, 496, 497, 498, 499, 500, 501, 502, 503, 504, 505, 506, 507, 516, 517, 518, 519, 520, 521, 522, 523, 524, 525] (by decide +kernel) (by decide +kernel)
set_option maxRecDepth 20000 in
theorem gL_law_X6_axis : GoodIn wsL_law (wsV RL 122 RX6 yX6_axis wsX6_axis) := goodIn_app (goodIn_of _ (by decide +kernel)) ggL_law_X6_axis
set_option maxRecDepth 20000 in
theorem ggL_law_X6_count : GoodIn wsL_law wsX6_count := goodIn_r _ [93, 14, 19, 94, 23, 95, 96, 97, 98, 13, 99, 36, 100, 101, 102, 103, 104, 105, 106, 2, 107, 108, 109, 110, 111, 112, 113, 114, 115, 116, 117, 118, 119, 28, 120, 121, 33, 122, 123, 124, 125, 126, 127, 128, 129, 130, 131, 29, 132, 133, 134, 135, 136, 137, 138, 32, 139, 52, 140, 141, 142, 143, 144, 493, 494, 495, 496, 508, 509, 510, 511, 512, 513, 514, 515, 497, 498, 499, 500, 501, 502, 503, 504, 505, 506, 507, 533, 534, 535, 536, 537, 538, 539, 540, 541, 542, 543, 544, 545, 546, 516, 517, 518, 519, 520, 521, 522, 523, 524, 525] (by decide +kernel) (by decide +kernel)
set_option maxRecDepth 20000 in
theorem gL_law_X6_count : GoodIn wsL_law (wsV RL 113 RX6 yX6_count wsX6_count) := goodIn_app (goodIn_of _ (by decide +kernel)) ggL_law_X6_count
set_option maxRecDepth 20000 in
theorem ggL_law_X6_why : GoodIn wsL_law wsX6_why := goodIn_r _ [307, 14, 258, 279, 280, 281, 282, 13, 283, 36, 100, 308, 157, 158, 159, 114, 160, 161, 162, 163, 164, 165, 166, 167, 168, 169, 170, 171, 102, 103, 104, 132, 133, 134, 135, 28, 128, 129, 130, 131, 29, 124, 125, 126, 127, 172, 173, 174, 175, 42, 34, 176, 177, 178, 39, 179, 180, 181, 182, 183, 184, 185, 186, 187, 188, 189, 190, 191, 192, 193, 194, 195, 137, 138, 32, 139, 52, 140, 196, 197, 198, 199, 49, 50, 200, 201, 202, 203, 40, 33, 122, 41, 204, 205, 206, 207, 208, 209, 210, 493, 494, 495, 496, 497, 498, 499, 500, 501, 502, 503, 504, 505, 506, 507, 533, 534, 535, 536, 537, 538, 539, 540, 541, 542, 543, 544, 545, 546, 526, 527, 528, 529, 530, 531, 532, 516, 517, 518, 519, 520, 521, 522, 523, 524, 525] (by decide +kernel) (by decide +kernel)
set_option maxRecDepth 20000 in
theorem gL_law_X6_why : GoodIn wsL_law (wsV RL 128 RX6 yX6_why wsX6_why) := goodIn_app (goodIn_of _ (by decide +kernel)) ggL_law_X6_why
theorem dL_law_0 : decode cL_law 0 = .ok (.new 82, 3) := by decide +kernel
theorem dL_law_3 : decode cL_law 3 = .ok (.dup, 1) := by decide +kernel
theorem dL_law_4 : decode cL_law 4 = .ok (.invokespecial 130, 3) := by decide +kernel
theorem dL_law_7 : decode cL_law 7 = .ok (.astore_n 1, 1) := by decide +kernel
theorem dL_law_8 : decode cL_law 8 = .ok (.bipush 55, 2) := by decide +kernel
theorem dL_law_10 : decode cL_law 10 = .ok (.newarray .int, 2) := by decide +kernel
theorem dL_law_12 : decode cL_law 12 = .ok (.astore_n 2, 1) := by decide +kernel
theorem dL_law_13 : decode cL_law 13 = .ok (.bipush 56, 2) := by decide +kernel
theorem dL_law_15 : decode cL_law 15 = .ok (.newarray .int, 2) := by decide +kernel
theorem dL_law_17 : decode cL_law 17 = .ok (.astore_n 3, 1) := by decide +kernel
theorem dL_law_18 : decode cL_law 18 = .ok (.aload_n 2, 1) := by decide +kernel
theorem dL_law_19 : decode cL_law 19 = .ok (.invokestatic 131, 3) := by decide +kernel
theorem dL_law_22 : decode cL_law 22 = .ok (.aload_n 1, 1) := by decide +kernel
theorem dL_law_23 : decode cL_law 23 = .ok (.aload_n 2, 1) := by decide +kernel
theorem dL_law_24 : decode cL_law 24 = .ok (.aload_n 3, 1) := by decide +kernel
theorem dL_law_25 : decode cL_law 25 = .ok (.invokestatic 135, 3) := by decide +kernel
theorem dL_law_28 : decode cL_law 28 = .ok (.istore 4, 2) := by decide +kernel
theorem dL_law_30 : decode cL_law 30 = .ok (.bipush 8, 2) := by decide +kernel
theorem dL_law_32 : decode cL_law 32 = .ok (.aload_n 0, 1) := by decide +kernel
theorem dL_law_33 : decode cL_law 33 = .ok (.iconst 0, 1) := by decide +kernel
theorem dL_law_34 : decode cL_law 34 = .ok (.invokestatic 139, 3) := by decide +kernel
theorem dL_law_37 : decode cL_law 37 = .ok (.bipush 50, 2) := by decide +kernel
theorem dL_law_39 : decode cL_law 39 = .ok (.invokestatic 77, 3) := by decide +kernel
theorem dL_law_42 : decode cL_law 42 = .ok (.iadd, 1) := by decide +kernel
theorem dL_law_43 : decode cL_law 43 = .ok (.istore 5, 2) := by decide +kernel
theorem dL_law_45 : decode cL_law 45 = .ok (.iconst 0, 1) := by decide +kernel
theorem dL_law_46 : decode cL_law 46 = .ok (.istore 6, 2) := by decide +kernel
theorem dL_law_48 : decode cL_law 48 = .ok (.iload 6, 2) := by decide +kernel
theorem dL_law_50 : decode cL_law 50 = .ok (.iload 5, 2) := by decide +kernel
theorem dL_law_52 : decode cL_law 52 = .ok (.if_icmp .ge 54, 3) := by decide +kernel
theorem dL_law_55 : decode cL_law 55 = .ok (.iload 4, 2) := by decide +kernel
theorem dL_law_57 : decode cL_law 57 = .ok (.ifCond .eq 49, 3) := by decide +kernel
theorem dL_law_60 : decode cL_law 60 = .ok (.aload_n 1, 1) := by decide +kernel
theorem dL_law_61 : decode cL_law 61 = .ok (.aload_n 2, 1) := by decide +kernel
theorem dL_law_62 : decode cL_law 62 = .ok (.aload_n 3, 1) := by decide +kernel
theorem dL_law_63 : decode cL_law 63 = .ok (.aload_n 0, 1) := by decide +kernel
theorem dL_law_64 : decode cL_law 64 = .ok (.iconst 1, 1) := by decide +kernel
theorem dL_law_65 : decode cL_law 65 = .ok (.iload 6, 2) := by decide +kernel
theorem dL_law_67 : decode cL_law 67 = .ok (.iadd, 1) := by decide +kernel
theorem dL_law_68 : decode cL_law 68 = .ok (.invokestatic 139, 3) := by decide +kernel
theorem dL_law_71 : decode cL_law 71 = .ok (.sipush 7919, 3) := by decide +kernel
theorem dL_law_74 : decode cL_law 74 = .ok (.iload 6, 2) := by decide +kernel
theorem dL_law_76 : decode cL_law 76 = .ok (.imul, 1) := by decide +kernel
theorem dL_law_77 : decode cL_law 77 = .ok (.ixor, 1) := by decide +kernel
theorem dL_law_78 : decode cL_law 78 = .ok (.invokestatic 142, 3) := by decide +kernel
theorem dL_law_81 : decode cL_law 81 = .ok (.ifCond .eq 16, 3) := by decide +kernel
theorem dL_law_84 : decode cL_law 84 = .ok (.aload_n 1, 1) := by decide +kernel
theorem dL_law_85 : decode cL_law 85 = .ok (.aload_n 2, 1) := by decide +kernel
theorem dL_law_86 : decode cL_law 86 = .ok (.aload_n 3, 1) := by decide +kernel
theorem dL_law_87 : decode cL_law 87 = .ok (.invokestatic 135, 3) := by decide +kernel
theorem dL_law_90 : decode cL_law 90 = .ok (.ifCond .eq 7, 3) := by decide +kernel
theorem dL_law_93 : decode cL_law 93 = .ok (.iconst 1, 1) := by decide +kernel
theorem dL_law_94 : decode cL_law 94 = .ok (.goto 4, 3) := by decide +kernel
theorem dL_law_97 : decode cL_law 97 = .ok (.iconst 0, 1) := by decide +kernel
theorem dL_law_98 : decode cL_law 98 = .ok (.istore 4, 2) := by decide +kernel
theorem dL_law_100 : decode cL_law 100 = .ok (.iinc 6 1, 3) := by decide +kernel
theorem dL_law_103 : decode cL_law 103 = .ok (.goto (-55), 3) := by decide +kernel
theorem dL_law_106 : decode cL_law 106 = .ok (.iload 4, 2) := by decide +kernel
theorem dL_law_108 : decode cL_law 108 = .ok (.ifCond .eq 39, 3) := by decide +kernel
theorem dL_law_111 : decode cL_law 111 = .ok (.aload_n 1, 1) := by decide +kernel
theorem dL_law_112 : decode cL_law 112 = .ok (.iconst 2, 1) := by decide +kernel
theorem dL_law_113 : decode cL_law 113 = .ok (.iconst 0, 1) := by decide +kernel
theorem dL_law_114 : decode cL_law 114 = .ok (.invokevirtual 122, 3) := by decide +kernel
theorem dL_law_117 : decode cL_law 117 = .ok (.ldc 100, 2) := by decide +kernel
theorem dL_law_119 : decode cL_law 119 = .ok (.if_icmp .ne 28, 3) := by decide +kernel
theorem dL_law_122 : decode cL_law 122 = .ok (.aload_n 1, 1) := by decide +kernel
theorem dL_law_123 : decode cL_law 123 = .ok (.bipush 19, 2) := by decide +kernel
theorem dL_law_125 : decode cL_law 125 = .ok (.invokevirtual 113, 3) := by decide +kernel
theorem dL_law_128 : decode cL_law 128 = .ok (.ldc 100, 2) := by decide +kernel
theorem dL_law_130 : decode cL_law 130 = .ok (.if_icmp .ne 17, 3) := by decide +kernel
theorem dL_law_133 : decode cL_law 133 = .ok (.aload_n 1, 1) := by decide +kernel
theorem dL_law_134 : decode cL_law 134 = .ok (.iconst (-1), 1) := by decide +kernel
theorem dL_law_135 : decode cL_law 135 = .ok (.invokevirtual 128, 3) := by decide +kernel
theorem dL_law_138 : decode cL_law 138 = .ok (.ldc 100, 2) := by decide +kernel
theorem dL_law_140 : decode cL_law 140 = .ok (.if_icmp .ne 7, 3) := by decide +kernel
theorem dL_law_143 : decode cL_law 143 = .ok (.iconst 1, 1) := by decide +kernel
theorem dL_law_144 : decode cL_law 144 = .ok (.goto 4, 3) := by decide +kernel
theorem dL_law_147 : decode cL_law 147 = .ok (.iconst 0, 1) := by decide +kernel
theorem dL_law_148 : decode cL_law 148 = .ok (.ireturn, 1) := by decide +kernel

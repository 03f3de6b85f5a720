theorem dL_cell_0 : decode cL_cell 0 = .ok (.iload_n 1, 1) := by decide +kernel
theorem dL_cell_1 : decode cL_cell 1 = .ok (.aload_n 0, 1) := by decide +kernel
theorem dL_cell_2 : decode cL_cell 2 = .ok (.arraylength, 1) := by decide +kernel
theorem dL_cell_3 : decode cL_cell 3 = .ok (.if_icmp .ge 9, 3) := by decide +kernel
theorem dL_cell_6 : decode cL_cell 6 = .ok (.aload_n 0, 1) := by decide +kernel
theorem dL_cell_7 : decode cL_cell 7 = .ok (.iload_n 1, 1) := by decide +kernel
theorem dL_cell_8 : decode cL_cell 8 = .ok (.iaload, 1) := by decide +kernel
theorem dL_cell_9 : decode cL_cell 9 = .ok (.goto 9, 3) := by decide +kernel
theorem dL_cell_12 : decode cL_cell 12 = .ok (.ldc 7, 2) := by decide +kernel
theorem dL_cell_14 : decode cL_cell 14 = .ok (.iload_n 1, 1) := by decide +kernel
theorem dL_cell_15 : decode cL_cell 15 = .ok (.iconst 3, 1) := by decide +kernel
theorem dL_cell_16 : decode cL_cell 16 = .ok (.iadd, 1) := by decide +kernel
theorem dL_cell_17 : decode cL_cell 17 = .ok (.imul, 1) := by decide +kernel
theorem dL_cell_18 : decode cL_cell 18 = .ok (.ireturn, 1) := by decide +kernel
theorem dL_low_0 : decode cL_low 0 = .ok (.iload_n 0, 1) := by decide +kernel
theorem dL_low_1 : decode cL_low 1 = .ok (.ldc 8, 2) := by decide +kernel
theorem dL_low_3 : decode cL_low 3 = .ok (.iand, 1) := by decide +kernel
theorem dL_low_4 : decode cL_low 4 = .ok (.iload_n 1, 1) := by decide +kernel
theorem dL_low_5 : decode cL_low 5 = .ok (.irem, 1) := by decide +kernel
theorem dL_low_6 : decode cL_low 6 = .ok (.ireturn, 1) := by decide +kernel
theorem dL_dish_0 : decode cL_dish 0 = .ok (.aload_n 0, 1) := by decide +kernel
theorem dL_dish_1 : decode cL_dish 1 = .ok (.bipush 11, 2) := by decide +kernel
theorem dL_dish_3 : decode cL_dish 3 = .ok (.bipush 7, 2) := by decide +kernel
theorem dL_dish_5 : decode cL_dish 5 = .ok (.iload_n 1, 1) := by decide +kernel
theorem dL_dish_6 : decode cL_dish 6 = .ok (.imul, 1) := by decide +kernel
theorem dL_dish_7 : decode cL_dish 7 = .ok (.iadd, 1) := by decide +kernel
theorem dL_dish_8 : decode cL_dish 8 = .ok (.iaload, 1) := by decide +kernel
theorem dL_dish_9 : decode cL_dish 9 = .ok (.aload_n 0, 1) := by decide +kernel
theorem dL_dish_10 : decode cL_dish 10 = .ok (.bipush 12, 2) := by decide +kernel
theorem dL_dish_12 : decode cL_dish 12 = .ok (.bipush 7, 2) := by decide +kernel
theorem dL_dish_14 : decode cL_dish 14 = .ok (.iload_n 1, 1) := by decide +kernel
theorem dL_dish_15 : decode cL_dish 15 = .ok (.imul, 1) := by decide +kernel
theorem dL_dish_16 : decode cL_dish 16 = .ok (.iadd, 1) := by decide +kernel
theorem dL_dish_17 : decode cL_dish 17 = .ok (.iaload, 1) := by decide +kernel
theorem dL_dish_18 : decode cL_dish 18 = .ok (.isub, 1) := by decide +kernel
theorem dL_dish_19 : decode cL_dish 19 = .ok (.ireturn, 1) := by decide +kernel
theorem dL_within_0 : decode cL_within 0 = .ok (.iload_n 0, 1) := by decide +kernel
theorem dL_within_1 : decode cL_within 1 = .ok (.ifCond .ne 25, 3) := by decide +kernel
theorem dL_within_4 : decode cL_within 4 = .ok (.iload_n 1, 1) := by decide +kernel
theorem dL_within_5 : decode cL_within 5 = .ok (.sipush (-27000), 3) := by decide +kernel
theorem dL_within_8 : decode cL_within 8 = .ok (.if_icmp .lt 14, 3) := by decide +kernel
theorem dL_within_11 : decode cL_within 11 = .ok (.iload_n 1, 1) := by decide +kernel
theorem dL_within_12 : decode cL_within 12 = .ok (.sipush 27000, 3) := by decide +kernel
theorem dL_within_15 : decode cL_within 15 = .ok (.if_icmp .gt 7, 3) := by decide +kernel
theorem dL_within_18 : decode cL_within 18 = .ok (.iconst 1, 1) := by decide +kernel
theorem dL_within_19 : decode cL_within 19 = .ok (.goto 26, 3) := by decide +kernel
theorem dL_within_22 : decode cL_within 22 = .ok (.iconst 0, 1) := by decide +kernel
theorem dL_within_23 : decode cL_within 23 = .ok (.goto 22, 3) := by decide +kernel
theorem dL_within_26 : decode cL_within 26 = .ok (.iload_n 1, 1) := by decide +kernel
theorem dL_within_27 : decode cL_within 27 = .ok (.sipush 500, 3) := by decide +kernel
theorem dL_within_30 : decode cL_within 30 = .ok (.if_icmp .lt 14, 3) := by decide +kernel
theorem dL_within_33 : decode cL_within 33 = .ok (.iload_n 1, 1) := by decide +kernel
theorem dL_within_34 : decode cL_within 34 = .ok (.sipush 9000, 3) := by decide +kernel
theorem dL_within_37 : decode cL_within 37 = .ok (.if_icmp .gt 7, 3) := by decide +kernel
theorem dL_within_40 : decode cL_within 40 = .ok (.iconst 1, 1) := by decide +kernel
theorem dL_within_41 : decode cL_within 41 = .ok (.goto 4, 3) := by decide +kernel
theorem dL_within_44 : decode cL_within 44 = .ok (.iconst 0, 1) := by decide +kernel
theorem dL_within_45 : decode cL_within 45 = .ok (.ireturn, 1) := by decide +kernel
set_option maxRecDepth 20000 in
theorem ggL_plan_L_dish : GoodIn wsL_plan wsL_dish := goodIn_r _ [4] (by decide +kernel) (by decide +kernel)
set_option maxRecDepth 20000 in
theorem gL_plan_L_dish : GoodIn wsL_plan (va_wsS RL 9 yL_dish wsL_dish) := goodIn_app (goodIn_of _ (by decide +kernel)) ggL_plan_L_dish
set_option maxRecDepth 20000 in
theorem ggL_plan_L_within : GoodIn wsL_plan wsL_within := goodIn_r _ [7] (by decide +kernel) (by decide +kernel)
set_option maxRecDepth 20000 in
theorem gL_plan_L_within : GoodIn wsL_plan (va_wsS RL 15 yL_within wsL_within) := goodIn_app (goodIn_of _ (by decide +kernel)) ggL_plan_L_within
theorem dL_plan_0 : decode cL_plan 0 = .ok (.aload_n 0, 1) := by decide +kernel
theorem dL_plan_1 : decode cL_plan 1 = .ok (.bipush 8, 2) := by decide +kernel
theorem dL_plan_3 : decode cL_plan 3 = .ok (.bipush 7, 2) := by decide +kernel
theorem dL_plan_5 : decode cL_plan 5 = .ok (.iload_n 1, 1) := by decide +kernel
theorem dL_plan_6 : decode cL_plan 6 = .ok (.imul, 1) := by decide +kernel
theorem dL_plan_7 : decode cL_plan 7 = .ok (.iadd, 1) := by decide +kernel
theorem dL_plan_8 : decode cL_plan 8 = .ok (.iaload, 1) := by decide +kernel
theorem dL_plan_9 : decode cL_plan 9 = .ok (.istore_n 3, 1) := by decide +kernel
theorem dL_plan_10 : decode cL_plan 10 = .ok (.aload_n 0, 1) := by decide +kernel
theorem dL_plan_11 : decode cL_plan 11 = .ok (.bipush 9, 2) := by decide +kernel
theorem dL_plan_13 : decode cL_plan 13 = .ok (.bipush 7, 2) := by decide +kernel
theorem dL_plan_15 : decode cL_plan 15 = .ok (.iload_n 1, 1) := by decide +kernel
theorem dL_plan_16 : decode cL_plan 16 = .ok (.imul, 1) := by decide +kernel
theorem dL_plan_17 : decode cL_plan 17 = .ok (.iadd, 1) := by decide +kernel
theorem dL_plan_18 : decode cL_plan 18 = .ok (.iaload, 1) := by decide +kernel
theorem dL_plan_19 : decode cL_plan 19 = .ok (.istore 4, 2) := by decide +kernel
theorem dL_plan_21 : decode cL_plan 21 = .ok (.aload_n 0, 1) := by decide +kernel
theorem dL_plan_22 : decode cL_plan 22 = .ok (.iload_n 1, 1) := by decide +kernel
theorem dL_plan_23 : decode cL_plan 23 = .ok (.invokestatic 9, 3) := by decide +kernel
theorem dL_plan_26 : decode cL_plan 26 = .ok (.istore 5, 2) := by decide +kernel
theorem dL_plan_28 : decode cL_plan 28 = .ok (.iload 4, 2) := by decide +kernel
theorem dL_plan_30 : decode cL_plan 30 = .ok (.iconst 2, 1) := by decide +kernel
theorem dL_plan_31 : decode cL_plan 31 = .ok (.if_icmp .eq 13, 3) := by decide +kernel
theorem dL_plan_34 : decode cL_plan 34 = .ok (.iload 5, 2) := by decide +kernel
theorem dL_plan_36 : decode cL_plan 36 = .ok (.iload_n 2, 1) := by decide +kernel
theorem dL_plan_37 : decode cL_plan 37 = .ok (.if_icmp .ge 7, 3) := by decide +kernel
theorem dL_plan_40 : decode cL_plan 40 = .ok (.iconst 1, 1) := by decide +kernel
theorem dL_plan_41 : decode cL_plan 41 = .ok (.goto 4, 3) := by decide +kernel
theorem dL_plan_44 : decode cL_plan 44 = .ok (.iconst 0, 1) := by decide +kernel
theorem dL_plan_45 : decode cL_plan 45 = .ok (.istore 6, 2) := by decide +kernel
theorem dL_plan_47 : decode cL_plan 47 = .ok (.iload 4, 2) := by decide +kernel
theorem dL_plan_49 : decode cL_plan 49 = .ok (.iconst 1, 1) := by decide +kernel
theorem dL_plan_50 : decode cL_plan 50 = .ok (.if_icmp .eq 13, 3) := by decide +kernel
theorem dL_plan_53 : decode cL_plan 53 = .ok (.iload 5, 2) := by decide +kernel
theorem dL_plan_55 : decode cL_plan 55 = .ok (.iload_n 2, 1) := by decide +kernel
theorem dL_plan_56 : decode cL_plan 56 = .ok (.if_icmp .le 7, 3) := by decide +kernel
theorem dL_plan_59 : decode cL_plan 59 = .ok (.iconst 1, 1) := by decide +kernel
theorem dL_plan_60 : decode cL_plan 60 = .ok (.goto 4, 3) := by decide +kernel
theorem dL_plan_63 : decode cL_plan 63 = .ok (.iconst 0, 1) := by decide +kernel
theorem dL_plan_64 : decode cL_plan 64 = .ok (.istore 7, 2) := by decide +kernel
theorem dL_plan_66 : decode cL_plan 66 = .ok (.iconst 0, 1) := by decide +kernel
theorem dL_plan_67 : decode cL_plan 67 = .ok (.istore 8, 2) := by decide +kernel
theorem dL_plan_69 : decode cL_plan 69 = .ok (.iload 6, 2) := by decide +kernel
theorem dL_plan_71 : decode cL_plan 71 = .ok (.ifCond .eq 19, 3) := by decide +kernel
theorem dL_plan_74 : decode cL_plan 74 = .ok (.aload_n 0, 1) := by decide +kernel
theorem dL_plan_75 : decode cL_plan 75 = .ok (.bipush 53, 2) := by decide +kernel
theorem dL_plan_77 : decode cL_plan 77 = .ok (.iload 8, 2) := by decide +kernel
theorem dL_plan_79 : decode cL_plan 79 = .ok (.iinc 8 1, 3) := by decide +kernel
theorem dL_plan_82 : decode cL_plan 82 = .ok (.iadd, 1) := by decide +kernel
theorem dL_plan_83 : decode cL_plan 83 = .ok (.iload_n 2, 1) := by decide +kernel
theorem dL_plan_84 : decode cL_plan 84 = .ok (.iload_n 3, 1) := by decide +kernel
theorem dL_plan_85 : decode cL_plan 85 = .ok (.iadd, 1) := by decide +kernel
theorem dL_plan_86 : decode cL_plan 86 = .ok (.iastore, 1) := by decide +kernel
theorem dL_plan_87 : decode cL_plan 87 = .ok (.goto 130, 3) := by decide +kernel
theorem dL_plan_90 : decode cL_plan 90 = .ok (.iload 7, 2) := by decide +kernel
theorem dL_plan_92 : decode cL_plan 92 = .ok (.ifCond .eq 17, 3) := by decide +kernel
theorem dL_plan_95 : decode cL_plan 95 = .ok (.aload_n 0, 1) := by decide +kernel
theorem dL_plan_96 : decode cL_plan 96 = .ok (.bipush 53, 2) := by decide +kernel
theorem dL_plan_98 : decode cL_plan 98 = .ok (.iload 8, 2) := by decide +kernel
theorem dL_plan_100 : decode cL_plan 100 = .ok (.iinc 8 1, 3) := by decide +kernel
theorem dL_plan_103 : decode cL_plan 103 = .ok (.iadd, 1) := by decide +kernel
theorem dL_plan_104 : decode cL_plan 104 = .ok (.iload_n 2, 1) := by decide +kernel
theorem dL_plan_105 : decode cL_plan 105 = .ok (.iastore, 1) := by decide +kernel
theorem dL_plan_106 : decode cL_plan 106 = .ok (.goto 111, 3) := by decide +kernel
theorem dL_plan_109 : decode cL_plan 109 = .ok (.iload 4, 2) := by decide +kernel
theorem dL_plan_111 : decode cL_plan 111 = .ok (.iconst 1, 1) := by decide +kernel
theorem dL_plan_112 : decode cL_plan 112 = .ok (.if_icmp .ne 53, 3) := by decide +kernel
theorem dL_plan_115 : decode cL_plan 115 = .ok (.iload 5, 2) := by decide +kernel
theorem dL_plan_117 : decode cL_plan 117 = .ok (.iload_n 2, 1) := by decide +kernel
theorem dL_plan_118 : decode cL_plan 118 = .ok (.if_icmp .ne 16, 3) := by decide +kernel
theorem dL_plan_121 : decode cL_plan 121 = .ok (.aload_n 0, 1) := by decide +kernel
theorem dL_plan_122 : decode cL_plan 122 = .ok (.bipush 12, 2) := by decide +kernel
theorem dL_plan_124 : decode cL_plan 124 = .ok (.bipush 7, 2) := by decide +kernel
theorem dL_plan_126 : decode cL_plan 126 = .ok (.iload_n 1, 1) := by decide +kernel
theorem dL_plan_127 : decode cL_plan 127 = .ok (.imul, 1) := by decide +kernel
theorem dL_plan_128 : decode cL_plan 128 = .ok (.iadd, 1) := by decide +kernel
theorem dL_plan_129 : decode cL_plan 129 = .ok (.iaload, 1) := by decide +kernel
theorem dL_plan_130 : decode cL_plan 130 = .ok (.iload_n 3, 1) := by decide +kernel
theorem dL_plan_131 : decode cL_plan 131 = .ok (.if_icmp .eq 34, 3) := by decide +kernel
theorem dL_plan_134 : decode cL_plan 134 = .ok (.aload_n 0, 1) := by decide +kernel
theorem dL_plan_135 : decode cL_plan 135 = .ok (.bipush 53, 2) := by decide +kernel
theorem dL_plan_137 : decode cL_plan 137 = .ok (.iload 8, 2) := by decide +kernel
theorem dL_plan_139 : decode cL_plan 139 = .ok (.iinc 8 1, 3) := by decide +kernel
theorem dL_plan_142 : decode cL_plan 142 = .ok (.iadd, 1) := by decide +kernel
theorem dL_plan_143 : decode cL_plan 143 = .ok (.iload_n 2, 1) := by decide +kernel
theorem dL_plan_144 : decode cL_plan 144 = .ok (.aload_n 0, 1) := by decide +kernel
theorem dL_plan_145 : decode cL_plan 145 = .ok (.iconst 0, 1) := by decide +kernel
theorem dL_plan_146 : decode cL_plan 146 = .ok (.iaload, 1) := by decide +kernel
theorem dL_plan_147 : decode cL_plan 147 = .ok (.isub, 1) := by decide +kernel
theorem dL_plan_148 : decode cL_plan 148 = .ok (.iastore, 1) := by decide +kernel
theorem dL_plan_149 : decode cL_plan 149 = .ok (.aload_n 0, 1) := by decide +kernel
theorem dL_plan_150 : decode cL_plan 150 = .ok (.bipush 53, 2) := by decide +kernel
theorem dL_plan_152 : decode cL_plan 152 = .ok (.iload 8, 2) := by decide +kernel
theorem dL_plan_154 : decode cL_plan 154 = .ok (.iinc 8 1, 3) := by decide +kernel
theorem dL_plan_157 : decode cL_plan 157 = .ok (.iadd, 1) := by decide +kernel
theorem dL_plan_158 : decode cL_plan 158 = .ok (.iload_n 2, 1) := by decide +kernel
theorem dL_plan_159 : decode cL_plan 159 = .ok (.iload_n 3, 1) := by decide +kernel
theorem dL_plan_160 : decode cL_plan 160 = .ok (.iadd, 1) := by decide +kernel
theorem dL_plan_161 : decode cL_plan 161 = .ok (.iastore, 1) := by decide +kernel
theorem dL_plan_162 : decode cL_plan 162 = .ok (.goto 55, 3) := by decide +kernel
theorem dL_plan_165 : decode cL_plan 165 = .ok (.iload 4, 2) := by decide +kernel
theorem dL_plan_167 : decode cL_plan 167 = .ok (.iconst 2, 1) := by decide +kernel
theorem dL_plan_168 : decode cL_plan 168 = .ok (.if_icmp .ne 49, 3) := by decide +kernel
theorem dL_plan_171 : decode cL_plan 171 = .ok (.iload 5, 2) := by decide +kernel
theorem dL_plan_173 : decode cL_plan 173 = .ok (.iload_n 2, 1) := by decide +kernel
theorem dL_plan_174 : decode cL_plan 174 = .ok (.if_icmp .ne 15, 3) := by decide +kernel
theorem dL_plan_177 : decode cL_plan 177 = .ok (.aload_n 0, 1) := by decide +kernel
theorem dL_plan_178 : decode cL_plan 178 = .ok (.bipush 12, 2) := by decide +kernel
theorem dL_plan_180 : decode cL_plan 180 = .ok (.bipush 7, 2) := by decide +kernel
theorem dL_plan_182 : decode cL_plan 182 = .ok (.iload_n 1, 1) := by decide +kernel
theorem dL_plan_183 : decode cL_plan 183 = .ok (.imul, 1) := by decide +kernel
theorem dL_plan_184 : decode cL_plan 184 = .ok (.iadd, 1) := by decide +kernel
theorem dL_plan_185 : decode cL_plan 185 = .ok (.iaload, 1) := by decide +kernel
theorem dL_plan_186 : decode cL_plan 186 = .ok (.ifCond .eq 31, 3) := by decide +kernel
theorem dL_plan_189 : decode cL_plan 189 = .ok (.aload_n 0, 1) := by decide +kernel
theorem dL_plan_190 : decode cL_plan 190 = .ok (.bipush 53, 2) := by decide +kernel
theorem dL_plan_192 : decode cL_plan 192 = .ok (.iload 8, 2) := by decide +kernel
theorem dL_plan_194 : decode cL_plan 194 = .ok (.iinc 8 1, 3) := by decide +kernel
theorem dL_plan_197 : decode cL_plan 197 = .ok (.iadd, 1) := by decide +kernel
theorem dL_plan_198 : decode cL_plan 198 = .ok (.iload_n 2, 1) := by decide +kernel
theorem dL_plan_199 : decode cL_plan 199 = .ok (.iload_n 3, 1) := by decide +kernel
theorem dL_plan_200 : decode cL_plan 200 = .ok (.iadd, 1) := by decide +kernel
theorem dL_plan_201 : decode cL_plan 201 = .ok (.aload_n 0, 1) := by decide +kernel
theorem dL_plan_202 : decode cL_plan 202 = .ok (.iconst 0, 1) := by decide +kernel
theorem dL_plan_203 : decode cL_plan 203 = .ok (.iaload, 1) := by decide +kernel
theorem dL_plan_204 : decode cL_plan 204 = .ok (.iadd, 1) := by decide +kernel
theorem dL_plan_205 : decode cL_plan 205 = .ok (.iastore, 1) := by decide +kernel
theorem dL_plan_206 : decode cL_plan 206 = .ok (.aload_n 0, 1) := by decide +kernel
theorem dL_plan_207 : decode cL_plan 207 = .ok (.bipush 53, 2) := by decide +kernel
theorem dL_plan_209 : decode cL_plan 209 = .ok (.iload 8, 2) := by decide +kernel
theorem dL_plan_211 : decode cL_plan 211 = .ok (.iinc 8 1, 3) := by decide +kernel
theorem dL_plan_214 : decode cL_plan 214 = .ok (.iadd, 1) := by decide +kernel
theorem dL_plan_215 : decode cL_plan 215 = .ok (.iload_n 2, 1) := by decide +kernel
theorem dL_plan_216 : decode cL_plan 216 = .ok (.iastore, 1) := by decide +kernel
theorem dL_plan_217 : decode cL_plan 217 = .ok (.iconst 0, 1) := by decide +kernel
theorem dL_plan_218 : decode cL_plan 218 = .ok (.istore 9, 2) := by decide +kernel
theorem dL_plan_220 : decode cL_plan 220 = .ok (.iload 9, 2) := by decide +kernel
theorem dL_plan_222 : decode cL_plan 222 = .ok (.iload 8, 2) := by decide +kernel
theorem dL_plan_224 : decode cL_plan 224 = .ok (.if_icmp .ge 25, 3) := by decide +kernel
theorem dL_plan_227 : decode cL_plan 227 = .ok (.iload_n 1, 1) := by decide +kernel
theorem dL_plan_228 : decode cL_plan 228 = .ok (.aload_n 0, 1) := by decide +kernel
theorem dL_plan_229 : decode cL_plan 229 = .ok (.bipush 53, 2) := by decide +kernel
theorem dL_plan_231 : decode cL_plan 231 = .ok (.iload 9, 2) := by decide +kernel
theorem dL_plan_233 : decode cL_plan 233 = .ok (.iadd, 1) := by decide +kernel
theorem dL_plan_234 : decode cL_plan 234 = .ok (.iaload, 1) := by decide +kernel
theorem dL_plan_235 : decode cL_plan 235 = .ok (.invokestatic 15, 3) := by decide +kernel
theorem dL_plan_238 : decode cL_plan 238 = .ok (.ifCond .ne 5, 3) := by decide +kernel
theorem dL_plan_241 : decode cL_plan 241 = .ok (.iconst (-1), 1) := by decide +kernel
theorem dL_plan_242 : decode cL_plan 242 = .ok (.ireturn, 1) := by decide +kernel
theorem dL_plan_243 : decode cL_plan 243 = .ok (.iinc 9 1, 3) := by decide +kernel
theorem dL_plan_246 : decode cL_plan 246 = .ok (.goto (-26), 3) := by decide +kernel
theorem dL_plan_249 : decode cL_plan 249 = .ok (.iload 8, 2) := by decide +kernel
theorem dL_plan_251 : decode cL_plan 251 = .ok (.ireturn, 1) := by decide +kernel
theorem dL_size_0 : decode cL_size 0 = .ok (.iload_n 0, 1) := by decide +kernel
theorem dL_size_1 : decode cL_size 1 = .ok (.ifCond .ge 8, 3) := by decide +kernel
theorem dL_size_4 : decode cL_size 4 = .ok (.iload_n 0, 1) := by decide +kernel
theorem dL_size_5 : decode cL_size 5 = .ok (.ineg, 1) := by decide +kernel
theorem dL_size_6 : decode cL_size 6 = .ok (.goto 4, 3) := by decide +kernel
theorem dL_size_9 : decode cL_size 9 = .ok (.iload_n 0, 1) := by decide +kernel
theorem dL_size_10 : decode cL_size 10 = .ok (.ireturn, 1) := by decide +kernel
set_option maxRecDepth 20000 in
theorem ggL_length_L_plan : GoodIn wsL_length wsL_plan := goodIn_r _ [4, 5, 6, 3, 7, 8, 9, 10] (by decide +kernel) (by decide +kernel)
set_option maxRecDepth 20000 in
theorem gL_length_L_plan : GoodIn wsL_length (va_wsS RL 19 yL_plan wsL_plan) := goodIn_app (goodIn_of _ (by decide +kernel)) ggL_length_L_plan
set_option maxRecDepth 20000 in
theorem ggL_length_L_size : GoodIn wsL_length wsL_size := goodIn_r _ [13] (by decide +kernel) (by decide +kernel)
set_option maxRecDepth 20000 in
theorem gL_length_L_size : GoodIn wsL_length (va_wsS RL 23 yL_size wsL_size) := goodIn_app (goodIn_of _ (by decide +kernel)) ggL_length_L_size
theorem dL_length_0 : decode cL_length 0 = .ok (.aload_n 0, 1) := by decide +kernel
theorem dL_length_1 : decode cL_length 1 = .ok (.iload_n 1, 1) := by decide +kernel
theorem dL_length_2 : decode cL_length 2 = .ok (.iload_n 2, 1) := by decide +kernel
theorem dL_length_3 : decode cL_length 3 = .ok (.invokestatic 19, 3) := by decide +kernel
theorem dL_length_6 : decode cL_length 6 = .ok (.istore_n 3, 1) := by decide +kernel
theorem dL_length_7 : decode cL_length 7 = .ok (.aload_n 0, 1) := by decide +kernel
theorem dL_length_8 : decode cL_length 8 = .ok (.bipush 11, 2) := by decide +kernel
theorem dL_length_10 : decode cL_length 10 = .ok (.bipush 7, 2) := by decide +kernel
theorem dL_length_12 : decode cL_length 12 = .ok (.iload_n 1, 1) := by decide +kernel
theorem dL_length_13 : decode cL_length 13 = .ok (.imul, 1) := by decide +kernel
theorem dL_length_14 : decode cL_length 14 = .ok (.iadd, 1) := by decide +kernel
theorem dL_length_15 : decode cL_length 15 = .ok (.iaload, 1) := by decide +kernel
theorem dL_length_16 : decode cL_length 16 = .ok (.istore 4, 2) := by decide +kernel
theorem dL_length_18 : decode cL_length 18 = .ok (.iconst 0, 1) := by decide +kernel
theorem dL_length_19 : decode cL_length 19 = .ok (.istore 5, 2) := by decide +kernel
theorem dL_length_21 : decode cL_length 21 = .ok (.iconst 0, 1) := by decide +kernel
theorem dL_length_22 : decode cL_length 22 = .ok (.istore 6, 2) := by decide +kernel
theorem dL_length_24 : decode cL_length 24 = .ok (.iload 6, 2) := by decide +kernel
theorem dL_length_26 : decode cL_length 26 = .ok (.iload_n 3, 1) := by decide +kernel
theorem dL_length_27 : decode cL_length 27 = .ok (.if_icmp .ge 36, 3) := by decide +kernel
theorem dL_length_30 : decode cL_length 30 = .ok (.iload 5, 2) := by decide +kernel
theorem dL_length_32 : decode cL_length 32 = .ok (.aload_n 0, 1) := by decide +kernel
theorem dL_length_33 : decode cL_length 33 = .ok (.bipush 53, 2) := by decide +kernel
theorem dL_length_35 : decode cL_length 35 = .ok (.iload 6, 2) := by decide +kernel
theorem dL_length_37 : decode cL_length 37 = .ok (.iadd, 1) := by decide +kernel
theorem dL_length_38 : decode cL_length 38 = .ok (.iaload, 1) := by decide +kernel
theorem dL_length_39 : decode cL_length 39 = .ok (.iload 4, 2) := by decide +kernel
theorem dL_length_41 : decode cL_length 41 = .ok (.isub, 1) := by decide +kernel
theorem dL_length_42 : decode cL_length 42 = .ok (.invokestatic 23, 3) := by decide +kernel
theorem dL_length_45 : decode cL_length 45 = .ok (.iadd, 1) := by decide +kernel
theorem dL_length_46 : decode cL_length 46 = .ok (.istore 5, 2) := by decide +kernel
theorem dL_length_48 : decode cL_length 48 = .ok (.aload_n 0, 1) := by decide +kernel
theorem dL_length_49 : decode cL_length 49 = .ok (.bipush 53, 2) := by decide +kernel
theorem dL_length_51 : decode cL_length 51 = .ok (.iload 6, 2) := by decide +kernel
theorem dL_length_53 : decode cL_length 53 = .ok (.iadd, 1) := by decide +kernel
theorem dL_length_54 : decode cL_length 54 = .ok (.iaload, 1) := by decide +kernel
theorem dL_length_55 : decode cL_length 55 = .ok (.istore 4, 2) := by decide +kernel
theorem dL_length_57 : decode cL_length 57 = .ok (.iinc 6 1, 3) := by decide +kernel
theorem dL_length_60 : decode cL_length 60 = .ok (.goto (-36), 3) := by decide +kernel
theorem dL_length_63 : decode cL_length 63 = .ok (.iload_n 3, 1) := by decide +kernel
theorem dL_length_64 : decode cL_length 64 = .ok (.ifCond .ge 7, 3) := by decide +kernel
theorem dL_length_67 : decode cL_length 67 = .ok (.iconst (-1), 1) := by decide +kernel
theorem dL_length_68 : decode cL_length 68 = .ok (.goto 5, 3) := by decide +kernel
theorem dL_length_71 : decode cL_length 71 = .ok (.iload 5, 2) := by decide +kernel
theorem dL_length_73 : decode cL_length 73 = .ok (.ireturn, 1) := by decide +kernel
set_option maxRecDepth 20000 in
theorem ggL_time_L_length : GoodIn wsL_time wsL_length := goodIn_r _ [4, 5, 6, 3, 7, 8, 9, 10, 11, 12, 13, 14, 15, 16] (by decide +kernel) (by decide +kernel)
set_option maxRecDepth 20000 in
theorem gL_time_L_length : GoodIn wsL_time (va_wsS RL 27 yL_length wsL_length) := goodIn_app (goodIn_of _ (by decide +kernel)) ggL_time_L_length
theorem dL_time_0 : decode cL_time 0 = .ok (.aload_n 0, 1) := by decide +kernel
theorem dL_time_1 : decode cL_time 1 = .ok (.iload_n 1, 1) := by decide +kernel
theorem dL_time_2 : decode cL_time 2 = .ok (.iload_n 2, 1) := by decide +kernel
theorem dL_time_3 : decode cL_time 3 = .ok (.invokestatic 27, 3) := by decide +kernel
theorem dL_time_6 : decode cL_time 6 = .ok (.istore_n 3, 1) := by decide +kernel
theorem dL_time_7 : decode cL_time 7 = .ok (.aload_n 0, 1) := by decide +kernel
theorem dL_time_8 : decode cL_time 8 = .ok (.bipush 10, 2) := by decide +kernel
theorem dL_time_10 : decode cL_time 10 = .ok (.bipush 7, 2) := by decide +kernel
theorem dL_time_12 : decode cL_time 12 = .ok (.iload_n 1, 1) := by decide +kernel
theorem dL_time_13 : decode cL_time 13 = .ok (.imul, 1) := by decide +kernel
theorem dL_time_14 : decode cL_time 14 = .ok (.iadd, 1) := by decide +kernel
theorem dL_time_15 : decode cL_time 15 = .ok (.iaload, 1) := by decide +kernel
theorem dL_time_16 : decode cL_time 16 = .ok (.istore 4, 2) := by decide +kernel
theorem dL_time_18 : decode cL_time 18 = .ok (.iload_n 3, 1) := by decide +kernel
theorem dL_time_19 : decode cL_time 19 = .ok (.iload 4, 2) := by decide +kernel
theorem dL_time_21 : decode cL_time 21 = .ok (.idiv, 1) := by decide +kernel
theorem dL_time_22 : decode cL_time 22 = .ok (.iload_n 3, 1) := by decide +kernel
theorem dL_time_23 : decode cL_time 23 = .ok (.iload 4, 2) := by decide +kernel
theorem dL_time_25 : decode cL_time 25 = .ok (.irem, 1) := by decide +kernel
theorem dL_time_26 : decode cL_time 26 = .ok (.ifCond .le 7, 3) := by decide +kernel
theorem dL_time_29 : decode cL_time 29 = .ok (.iconst 1, 1) := by decide +kernel
theorem dL_time_30 : decode cL_time 30 = .ok (.goto 4, 3) := by decide +kernel
theorem dL_time_33 : decode cL_time 33 = .ok (.iconst 0, 1) := by decide +kernel
theorem dL_time_34 : decode cL_time 34 = .ok (.iadd, 1) := by decide +kernel
theorem dL_time_35 : decode cL_time 35 = .ok (.ireturn, 1) := by decide +kernel
set_option maxRecDepth 20000 in
theorem ggL_pick_L_length : GoodIn wsL_pick wsL_length := goodIn_r _ [10, 11, 12, 9, 13, 14, 15, 16, 17, 18, 19, 20, 21, 22] (by decide +kernel) (by decide +kernel)
set_option maxRecDepth 20000 in
theorem gL_pick_L_length : GoodIn wsL_pick (va_wsS RL 27 yL_length wsL_length) := goodIn_app (goodIn_of _ (by decide +kernel)) ggL_pick_L_length
set_option maxRecDepth 20000 in
theorem ggL_pick_L_size : GoodIn wsL_pick wsL_size := goodIn_r _ [22] (by decide +kernel) (by decide +kernel)
set_option maxRecDepth 20000 in
theorem gL_pick_L_size : GoodIn wsL_pick (va_wsS RL 23 yL_size wsL_size) := goodIn_app (goodIn_of _ (by decide +kernel)) ggL_pick_L_size
theorem dL_pick_0 : decode cL_pick 0 = .ok (.ldc2_w 30, 3) := by decide +kernel
theorem dL_pick_3 : decode cL_pick 3 = .ok (.lstore_n 2, 1) := by decide +kernel
theorem dL_pick_4 : decode cL_pick 4 = .ok (.ldc 32, 2) := by decide +kernel
theorem dL_pick_6 : decode cL_pick 6 = .ok (.istore 4, 2) := by decide +kernel
theorem dL_pick_8 : decode cL_pick 8 = .ok (.iconst 0, 1) := by decide +kernel
theorem dL_pick_9 : decode cL_pick 9 = .ok (.istore 5, 2) := by decide +kernel
theorem dL_pick_11 : decode cL_pick 11 = .ok (.iload 5, 2) := by decide +kernel
theorem dL_pick_13 : decode cL_pick 13 = .ok (.iconst 2, 1) := by decide +kernel
theorem dL_pick_14 : decode cL_pick 14 = .ok (.if_icmp .ge 102, 3) := by decide +kernel
theorem dL_pick_17 : decode cL_pick 17 = .ok (.iload_n 1, 1) := by decide +kernel
theorem dL_pick_18 : decode cL_pick 18 = .ok (.ldc 33, 2) := by decide +kernel
theorem dL_pick_20 : decode cL_pick 20 = .ok (.iload 5, 2) := by decide +kernel
theorem dL_pick_22 : decode cL_pick 22 = .ok (.imul, 1) := by decide +kernel
theorem dL_pick_23 : decode cL_pick 23 = .ok (.isub, 1) := by decide +kernel
theorem dL_pick_24 : decode cL_pick 24 = .ok (.istore 6, 2) := by decide +kernel
theorem dL_pick_26 : decode cL_pick 26 = .ok (.aload_n 0, 1) := by decide +kernel
theorem dL_pick_27 : decode cL_pick 27 = .ok (.iconst 0, 1) := by decide +kernel
theorem dL_pick_28 : decode cL_pick 28 = .ok (.iload 6, 2) := by decide +kernel
theorem dL_pick_30 : decode cL_pick 30 = .ok (.invokestatic 27, 3) := by decide +kernel
theorem dL_pick_33 : decode cL_pick 33 = .ok (.istore 7, 2) := by decide +kernel
theorem dL_pick_35 : decode cL_pick 35 = .ok (.iload 6, 2) := by decide +kernel
theorem dL_pick_37 : decode cL_pick 37 = .ok (.invokestatic 23, 3) := by decide +kernel
theorem dL_pick_40 : decode cL_pick 40 = .ok (.aload_n 0, 1) := by decide +kernel
theorem dL_pick_41 : decode cL_pick 41 = .ok (.iconst 1, 1) := by decide +kernel
theorem dL_pick_42 : decode cL_pick 42 = .ok (.iaload, 1) := by decide +kernel
theorem dL_pick_43 : decode cL_pick 43 = .ok (.if_icmp .le 9, 3) := by decide +kernel
theorem dL_pick_46 : decode cL_pick 46 = .ok (.ldc2_w 34, 3) := by decide +kernel
theorem dL_pick_49 : decode cL_pick 49 = .ok (.goto 4, 3) := by decide +kernel
theorem dL_pick_52 : decode cL_pick 52 = .ok (.lconst 0, 1) := by decide +kernel
theorem dL_pick_53 : decode cL_pick 53 = .ok (.ldc2_w 36, 3) := by decide +kernel
theorem dL_pick_56 : decode cL_pick 56 = .ok (.iload 7, 2) := by decide +kernel
theorem dL_pick_58 : decode cL_pick 58 = .ok (.i2l, 1) := by decide +kernel
theorem dL_pick_59 : decode cL_pick 59 = .ok (.lmul, 1) := by decide +kernel
theorem dL_pick_60 : decode cL_pick 60 = .ok (.ladd, 1) := by decide +kernel
theorem dL_pick_61 : decode cL_pick 61 = .ok (.ldc2_w 38, 3) := by decide +kernel
theorem dL_pick_64 : decode cL_pick 64 = .ok (.iload 6, 2) := by decide +kernel
theorem dL_pick_66 : decode cL_pick 66 = .ok (.invokestatic 23, 3) := by decide +kernel
theorem dL_pick_69 : decode cL_pick 69 = .ok (.i2l, 1) := by decide +kernel
theorem dL_pick_70 : decode cL_pick 70 = .ok (.lmul, 1) := by decide +kernel
theorem dL_pick_71 : decode cL_pick 71 = .ok (.ladd, 1) := by decide +kernel
theorem dL_pick_72 : decode cL_pick 72 = .ok (.iload 6, 2) := by decide +kernel
theorem dL_pick_74 : decode cL_pick 74 = .ok (.ifCond .le 7, 3) := by decide +kernel
theorem dL_pick_77 : decode cL_pick 77 = .ok (.lconst 1, 1) := by decide +kernel
theorem dL_pick_78 : decode cL_pick 78 = .ok (.goto 4, 3) := by decide +kernel
theorem dL_pick_81 : decode cL_pick 81 = .ok (.lconst 0, 1) := by decide +kernel
theorem dL_pick_82 : decode cL_pick 82 = .ok (.ladd, 1) := by decide +kernel
theorem dL_pick_83 : decode cL_pick 83 = .ok (.lstore 8, 2) := by decide +kernel
theorem dL_pick_85 : decode cL_pick 85 = .ok (.iload 7, 2) := by decide +kernel
theorem dL_pick_87 : decode cL_pick 87 = .ok (.ifCond .lt 23, 3) := by decide +kernel
theorem dL_pick_90 : decode cL_pick 90 = .ok (.lload_n 2, 1) := by decide +kernel
theorem dL_pick_91 : decode cL_pick 91 = .ok (.lconst 0, 1) := by decide +kernel
theorem dL_pick_92 : decode cL_pick 92 = .ok (.lcmp, 1) := by decide +kernel
theorem dL_pick_93 : decode cL_pick 93 = .ok (.ifCond .lt 10, 3) := by decide +kernel
theorem dL_pick_96 : decode cL_pick 96 = .ok (.lload 8, 2) := by decide +kernel
theorem dL_pick_98 : decode cL_pick 98 = .ok (.lload_n 2, 1) := by decide +kernel
theorem dL_pick_99 : decode cL_pick 99 = .ok (.lcmp, 1) := by decide +kernel
theorem dL_pick_100 : decode cL_pick 100 = .ok (.ifCond .ge 10, 3) := by decide +kernel
theorem dL_pick_103 : decode cL_pick 103 = .ok (.lload 8, 2) := by decide +kernel
theorem dL_pick_105 : decode cL_pick 105 = .ok (.lstore_n 2, 1) := by decide +kernel
theorem dL_pick_106 : decode cL_pick 106 = .ok (.iload 6, 2) := by decide +kernel
theorem dL_pick_108 : decode cL_pick 108 = .ok (.istore 4, 2) := by decide +kernel
theorem dL_pick_110 : decode cL_pick 110 = .ok (.iinc 5 1, 3) := by decide +kernel
theorem dL_pick_113 : decode cL_pick 113 = .ok (.goto (-102), 3) := by decide +kernel
theorem dL_pick_116 : decode cL_pick 116 = .ok (.iload 4, 2) := by decide +kernel
theorem dL_pick_118 : decode cL_pick 118 = .ok (.ireturn, 1) := by decide +kernel
theorem dL_goes_0 : decode cL_goes 0 = .ok (.bipush 8, 2) := by decide +kernel
theorem dL_goes_2 : decode cL_goes 2 = .ok (.bipush 7, 2) := by decide +kernel
theorem dL_goes_4 : decode cL_goes 4 = .ok (.iload_n 1, 1) := by decide +kernel
theorem dL_goes_5 : decode cL_goes 5 = .ok (.imul, 1) := by decide +kernel
theorem dL_goes_6 : decode cL_goes 6 = .ok (.iadd, 1) := by decide +kernel
theorem dL_goes_7 : decode cL_goes 7 = .ok (.istore_n 3, 1) := by decide +kernel
theorem dL_goes_8 : decode cL_goes 8 = .ok (.iload_n 2, 1) := by decide +kernel
theorem dL_goes_9 : decode cL_goes 9 = .ok (.aload_n 0, 1) := by decide +kernel
theorem dL_goes_10 : decode cL_goes 10 = .ok (.iload_n 3, 1) := by decide +kernel
theorem dL_goes_11 : decode cL_goes 11 = .ok (.iconst 3, 1) := by decide +kernel
theorem dL_goes_12 : decode cL_goes 12 = .ok (.iadd, 1) := by decide +kernel
theorem dL_goes_13 : decode cL_goes 13 = .ok (.iaload, 1) := by decide +kernel
theorem dL_goes_14 : decode cL_goes 14 = .ok (.if_icmp .le 64, 3) := by decide +kernel
theorem dL_goes_17 : decode cL_goes 17 = .ok (.aload_n 0, 1) := by decide +kernel
theorem dL_goes_18 : decode cL_goes 18 = .ok (.iload_n 3, 1) := by decide +kernel
theorem dL_goes_19 : decode cL_goes 19 = .ok (.iconst 5, 1) := by decide +kernel
theorem dL_goes_20 : decode cL_goes 20 = .ok (.iadd, 1) := by decide +kernel
theorem dL_goes_21 : decode cL_goes 21 = .ok (.dup2, 1) := by decide +kernel
theorem dL_goes_22 : decode cL_goes 22 = .ok (.iaload, 1) := by decide +kernel
theorem dL_goes_23 : decode cL_goes 23 = .ok (.iload_n 2, 1) := by decide +kernel
theorem dL_goes_24 : decode cL_goes 24 = .ok (.aload_n 0, 1) := by decide +kernel
theorem dL_goes_25 : decode cL_goes 25 = .ok (.iload_n 3, 1) := by decide +kernel
theorem dL_goes_26 : decode cL_goes 26 = .ok (.iconst 3, 1) := by decide +kernel
theorem dL_goes_27 : decode cL_goes 27 = .ok (.iadd, 1) := by decide +kernel
theorem dL_goes_28 : decode cL_goes 28 = .ok (.iaload, 1) := by decide +kernel
theorem dL_goes_29 : decode cL_goes 29 = .ok (.isub, 1) := by decide +kernel
theorem dL_goes_30 : decode cL_goes 30 = .ok (.iadd, 1) := by decide +kernel
theorem dL_goes_31 : decode cL_goes 31 = .ok (.iastore, 1) := by decide +kernel
theorem dL_goes_32 : decode cL_goes 32 = .ok (.aload_n 0, 1) := by decide +kernel
theorem dL_goes_33 : decode cL_goes 33 = .ok (.iload_n 3, 1) := by decide +kernel
theorem dL_goes_34 : decode cL_goes 34 = .ok (.iconst 4, 1) := by decide +kernel
theorem dL_goes_35 : decode cL_goes 35 = .ok (.iadd, 1) := by decide +kernel
theorem dL_goes_36 : decode cL_goes 36 = .ok (.aload_n 0, 1) := by decide +kernel
theorem dL_goes_37 : decode cL_goes 37 = .ok (.iload_n 3, 1) := by decide +kernel
theorem dL_goes_38 : decode cL_goes 38 = .ok (.iconst 4, 1) := by decide +kernel
theorem dL_goes_39 : decode cL_goes 39 = .ok (.iadd, 1) := by decide +kernel
theorem dL_goes_40 : decode cL_goes 40 = .ok (.iaload, 1) := by decide +kernel
theorem dL_goes_41 : decode cL_goes 41 = .ok (.iload_n 2, 1) := by decide +kernel
theorem dL_goes_42 : decode cL_goes 42 = .ok (.iadd, 1) := by decide +kernel
theorem dL_goes_43 : decode cL_goes 43 = .ok (.aload_n 0, 1) := by decide +kernel
theorem dL_goes_44 : decode cL_goes 44 = .ok (.iload_n 3, 1) := by decide +kernel
theorem dL_goes_45 : decode cL_goes 45 = .ok (.iconst 3, 1) := by decide +kernel
theorem dL_goes_46 : decode cL_goes 46 = .ok (.iadd, 1) := by decide +kernel
theorem dL_goes_47 : decode cL_goes 47 = .ok (.iaload, 1) := by decide +kernel
theorem dL_goes_48 : decode cL_goes 48 = .ok (.isub, 1) := by decide +kernel
theorem dL_goes_49 : decode cL_goes 49 = .ok (.aload_n 0, 1) := by decide +kernel
theorem dL_goes_50 : decode cL_goes 50 = .ok (.iload_n 3, 1) := by decide +kernel
theorem dL_goes_51 : decode cL_goes 51 = .ok (.iaload, 1) := by decide +kernel
theorem dL_goes_52 : decode cL_goes 52 = .ok (.if_icmp .le 9, 3) := by decide +kernel
theorem dL_goes_55 : decode cL_goes 55 = .ok (.aload_n 0, 1) := by decide +kernel
theorem dL_goes_56 : decode cL_goes 56 = .ok (.iload_n 3, 1) := by decide +kernel
theorem dL_goes_57 : decode cL_goes 57 = .ok (.iaload, 1) := by decide +kernel
theorem dL_goes_58 : decode cL_goes 58 = .ok (.goto 16, 3) := by decide +kernel
theorem dL_goes_61 : decode cL_goes 61 = .ok (.aload_n 0, 1) := by decide +kernel
theorem dL_goes_62 : decode cL_goes 62 = .ok (.iload_n 3, 1) := by decide +kernel
theorem dL_goes_63 : decode cL_goes 63 = .ok (.iconst 4, 1) := by decide +kernel
theorem dL_goes_64 : decode cL_goes 64 = .ok (.iadd, 1) := by decide +kernel
theorem dL_goes_65 : decode cL_goes 65 = .ok (.iaload, 1) := by decide +kernel
theorem dL_goes_66 : decode cL_goes 66 = .ok (.iload_n 2, 1) := by decide +kernel
theorem dL_goes_67 : decode cL_goes 67 = .ok (.iadd, 1) := by decide +kernel
theorem dL_goes_68 : decode cL_goes 68 = .ok (.aload_n 0, 1) := by decide +kernel
theorem dL_goes_69 : decode cL_goes 69 = .ok (.iload_n 3, 1) := by decide +kernel
theorem dL_goes_70 : decode cL_goes 70 = .ok (.iconst 3, 1) := by decide +kernel
theorem dL_goes_71 : decode cL_goes 71 = .ok (.iadd, 1) := by decide +kernel
theorem dL_goes_72 : decode cL_goes 72 = .ok (.iaload, 1) := by decide +kernel
theorem dL_goes_73 : decode cL_goes 73 = .ok (.isub, 1) := by decide +kernel
theorem dL_goes_74 : decode cL_goes 74 = .ok (.iastore, 1) := by decide +kernel
theorem dL_goes_75 : decode cL_goes 75 = .ok (.goto 57, 3) := by decide +kernel
theorem dL_goes_78 : decode cL_goes 78 = .ok (.aload_n 0, 1) := by decide +kernel
theorem dL_goes_79 : decode cL_goes 79 = .ok (.iload_n 3, 1) := by decide +kernel
theorem dL_goes_80 : decode cL_goes 80 = .ok (.bipush 6, 2) := by decide +kernel
theorem dL_goes_82 : decode cL_goes 82 = .ok (.iadd, 1) := by decide +kernel
theorem dL_goes_83 : decode cL_goes 83 = .ok (.dup2, 1) := by decide +kernel
theorem dL_goes_84 : decode cL_goes 84 = .ok (.iaload, 1) := by decide +kernel
theorem dL_goes_85 : decode cL_goes 85 = .ok (.aload_n 0, 1) := by decide +kernel
theorem dL_goes_86 : decode cL_goes 86 = .ok (.iload_n 3, 1) := by decide +kernel
theorem dL_goes_87 : decode cL_goes 87 = .ok (.iconst 3, 1) := by decide +kernel
theorem dL_goes_88 : decode cL_goes 88 = .ok (.iadd, 1) := by decide +kernel
theorem dL_goes_89 : decode cL_goes 89 = .ok (.iaload, 1) := by decide +kernel
theorem dL_goes_90 : decode cL_goes 90 = .ok (.iload_n 2, 1) := by decide +kernel
theorem dL_goes_91 : decode cL_goes 91 = .ok (.isub, 1) := by decide +kernel
theorem dL_goes_92 : decode cL_goes 92 = .ok (.iadd, 1) := by decide +kernel
theorem dL_goes_93 : decode cL_goes 93 = .ok (.iastore, 1) := by decide +kernel
theorem dL_goes_94 : decode cL_goes 94 = .ok (.aload_n 0, 1) := by decide +kernel
theorem dL_goes_95 : decode cL_goes 95 = .ok (.iload_n 3, 1) := by decide +kernel
theorem dL_goes_96 : decode cL_goes 96 = .ok (.iconst 4, 1) := by decide +kernel
theorem dL_goes_97 : decode cL_goes 97 = .ok (.iadd, 1) := by decide +kernel
theorem dL_goes_98 : decode cL_goes 98 = .ok (.aload_n 0, 1) := by decide +kernel
theorem dL_goes_99 : decode cL_goes 99 = .ok (.iload_n 3, 1) := by decide +kernel
theorem dL_goes_100 : decode cL_goes 100 = .ok (.iconst 4, 1) := by decide +kernel
theorem dL_goes_101 : decode cL_goes 101 = .ok (.iadd, 1) := by decide +kernel
theorem dL_goes_102 : decode cL_goes 102 = .ok (.iaload, 1) := by decide +kernel
theorem dL_goes_103 : decode cL_goes 103 = .ok (.aload_n 0, 1) := by decide +kernel
theorem dL_goes_104 : decode cL_goes 104 = .ok (.iload_n 3, 1) := by decide +kernel
theorem dL_goes_105 : decode cL_goes 105 = .ok (.iconst 3, 1) := by decide +kernel
theorem dL_goes_106 : decode cL_goes 106 = .ok (.iadd, 1) := by decide +kernel
theorem dL_goes_107 : decode cL_goes 107 = .ok (.iaload, 1) := by decide +kernel
theorem dL_goes_108 : decode cL_goes 108 = .ok (.iload_n 2, 1) := by decide +kernel
theorem dL_goes_109 : decode cL_goes 109 = .ok (.isub, 1) := by decide +kernel
theorem dL_goes_110 : decode cL_goes 110 = .ok (.isub, 1) := by decide +kernel
theorem dL_goes_111 : decode cL_goes 111 = .ok (.ifCond .ge 7, 3) := by decide +kernel
theorem dL_goes_114 : decode cL_goes 114 = .ok (.iconst 0, 1) := by decide +kernel
theorem dL_goes_115 : decode cL_goes 115 = .ok (.goto 16, 3) := by decide +kernel
theorem dL_goes_118 : decode cL_goes 118 = .ok (.aload_n 0, 1) := by decide +kernel
theorem dL_goes_119 : decode cL_goes 119 = .ok (.iload_n 3, 1) := by decide +kernel
theorem dL_goes_120 : decode cL_goes 120 = .ok (.iconst 4, 1) := by decide +kernel
theorem dL_goes_121 : decode cL_goes 121 = .ok (.iadd, 1) := by decide +kernel
theorem dL_goes_122 : decode cL_goes 122 = .ok (.iaload, 1) := by decide +kernel
theorem dL_goes_123 : decode cL_goes 123 = .ok (.aload_n 0, 1) := by decide +kernel
theorem dL_goes_124 : decode cL_goes 124 = .ok (.iload_n 3, 1) := by decide +kernel
theorem dL_goes_125 : decode cL_goes 125 = .ok (.iconst 3, 1) := by decide +kernel
theorem dL_goes_126 : decode cL_goes 126 = .ok (.iadd, 1) := by decide +kernel
theorem dL_goes_127 : decode cL_goes 127 = .ok (.iaload, 1) := by decide +kernel
theorem dL_goes_128 : decode cL_goes 128 = .ok (.iload_n 2, 1) := by decide +kernel
theorem dL_goes_129 : decode cL_goes 129 = .ok (.isub, 1) := by decide +kernel
theorem dL_goes_130 : decode cL_goes 130 = .ok (.isub, 1) := by decide +kernel
theorem dL_goes_131 : decode cL_goes 131 = .ok (.iastore, 1) := by decide +kernel
theorem dL_goes_132 : decode cL_goes 132 = .ok (.aload_n 0, 1) := by decide +kernel
theorem dL_goes_133 : decode cL_goes 133 = .ok (.iload_n 3, 1) := by decide +kernel
theorem dL_goes_134 : decode cL_goes 134 = .ok (.iconst 3, 1) := by decide +kernel
theorem dL_goes_135 : decode cL_goes 135 = .ok (.iadd, 1) := by decide +kernel
theorem dL_goes_136 : decode cL_goes 136 = .ok (.iload_n 2, 1) := by decide +kernel
theorem dL_goes_137 : decode cL_goes 137 = .ok (.iastore, 1) := by decide +kernel
theorem dL_goes_138 : decode cL_goes 138 = .ok (.return_, 1) := by decide +kernel
set_option maxRecDepth 20000 in
theorem ggL_slews_L_time : GoodIn wsL_slews wsL_time := goodIn_r _ [4, 5, 6, 3, 7, 8, 9, 10, 11, 12, 13, 14, 15, 16, 17, 18, 19] (by decide +kernel) (by decide +kernel)
set_option maxRecDepth 20000 in
theorem gL_slews_L_time : GoodIn wsL_slews (va_wsS RL 40 yL_time wsL_time) := goodIn_app (goodIn_of _ (by decide +kernel)) ggL_slews_L_time
set_option maxRecDepth 20000 in
theorem ggL_slews_L_plan : GoodIn wsL_slews wsL_plan := goodIn_r _ [10, 11, 12, 3, 13, 14, 15, 16] (by decide +kernel) (by decide +kernel)
set_option maxRecDepth 20000 in
theorem gL_slews_L_plan : GoodIn wsL_slews (va_wsS RL 19 yL_plan wsL_plan) := goodIn_app (goodIn_of _ (by decide +kernel)) ggL_slews_L_plan
set_option maxRecDepth 20000 in
theorem ggL_slews_L_goes : GoodIn wsL_slews wsL_goes := goodIn_r _ [22] (by decide +kernel) (by decide +kernel)
set_option maxRecDepth 20000 in
theorem gL_slews_L_goes : GoodIn wsL_slews (va_wsS RL 43 yL_goes wsL_goes) := goodIn_app (goodIn_of _ (by decide +kernel)) ggL_slews_L_goes
theorem dL_slews_0 : decode cL_slews 0 = .ok (.aload_n 0, 1) := by decide +kernel
theorem dL_slews_1 : decode cL_slews 1 = .ok (.iconst 0, 1) := by decide +kernel
theorem dL_slews_2 : decode cL_slews 2 = .ok (.iload_n 1, 1) := by decide +kernel
theorem dL_slews_3 : decode cL_slews 3 = .ok (.invokestatic 40, 3) := by decide +kernel
theorem dL_slews_6 : decode cL_slews 6 = .ok (.istore_n 3, 1) := by decide +kernel
theorem dL_slews_7 : decode cL_slews 7 = .ok (.aload_n 0, 1) := by decide +kernel
theorem dL_slews_8 : decode cL_slews 8 = .ok (.iconst 1, 1) := by decide +kernel
theorem dL_slews_9 : decode cL_slews 9 = .ok (.iload_n 2, 1) := by decide +kernel
theorem dL_slews_10 : decode cL_slews 10 = .ok (.invokestatic 40, 3) := by decide +kernel
theorem dL_slews_13 : decode cL_slews 13 = .ok (.istore 4, 2) := by decide +kernel
theorem dL_slews_15 : decode cL_slews 15 = .ok (.iconst 0, 1) := by decide +kernel
theorem dL_slews_16 : decode cL_slews 16 = .ok (.istore 5, 2) := by decide +kernel
theorem dL_slews_18 : decode cL_slews 18 = .ok (.iload 5, 2) := by decide +kernel
theorem dL_slews_20 : decode cL_slews 20 = .ok (.iconst 2, 1) := by decide +kernel
theorem dL_slews_21 : decode cL_slews 21 = .ok (.if_icmp .ge 56, 3) := by decide +kernel
theorem dL_slews_24 : decode cL_slews 24 = .ok (.aload_n 0, 1) := by decide +kernel
theorem dL_slews_25 : decode cL_slews 25 = .ok (.iload 5, 2) := by decide +kernel
theorem dL_slews_27 : decode cL_slews 27 = .ok (.iload 5, 2) := by decide +kernel
theorem dL_slews_29 : decode cL_slews 29 = .ok (.ifCond .ne 7, 3) := by decide +kernel
theorem dL_slews_32 : decode cL_slews 32 = .ok (.iload_n 1, 1) := by decide +kernel
theorem dL_slews_33 : decode cL_slews 33 = .ok (.goto 4, 3) := by decide +kernel
theorem dL_slews_36 : decode cL_slews 36 = .ok (.iload_n 2, 1) := by decide +kernel
theorem dL_slews_37 : decode cL_slews 37 = .ok (.invokestatic 19, 3) := by decide +kernel
theorem dL_slews_40 : decode cL_slews 40 = .ok (.istore 6, 2) := by decide +kernel
theorem dL_slews_42 : decode cL_slews 42 = .ok (.iconst 0, 1) := by decide +kernel
theorem dL_slews_43 : decode cL_slews 43 = .ok (.istore 7, 2) := by decide +kernel
theorem dL_slews_45 : decode cL_slews 45 = .ok (.iload 7, 2) := by decide +kernel
theorem dL_slews_47 : decode cL_slews 47 = .ok (.iload 6, 2) := by decide +kernel
theorem dL_slews_49 : decode cL_slews 49 = .ok (.if_icmp .ge 22, 3) := by decide +kernel
theorem dL_slews_52 : decode cL_slews 52 = .ok (.aload_n 0, 1) := by decide +kernel
theorem dL_slews_53 : decode cL_slews 53 = .ok (.iload 5, 2) := by decide +kernel
theorem dL_slews_55 : decode cL_slews 55 = .ok (.aload_n 0, 1) := by decide +kernel
theorem dL_slews_56 : decode cL_slews 56 = .ok (.bipush 53, 2) := by decide +kernel
theorem dL_slews_58 : decode cL_slews 58 = .ok (.iload 7, 2) := by decide +kernel
theorem dL_slews_60 : decode cL_slews 60 = .ok (.iadd, 1) := by decide +kernel
theorem dL_slews_61 : decode cL_slews 61 = .ok (.iaload, 1) := by decide +kernel
theorem dL_slews_62 : decode cL_slews 62 = .ok (.invokestatic 43, 3) := by decide +kernel
theorem dL_slews_65 : decode cL_slews 65 = .ok (.iinc 7 1, 3) := by decide +kernel
theorem dL_slews_68 : decode cL_slews 68 = .ok (.goto (-23), 3) := by decide +kernel
theorem dL_slews_71 : decode cL_slews 71 = .ok (.iinc 5 1, 3) := by decide +kernel
theorem dL_slews_74 : decode cL_slews 74 = .ok (.goto (-56), 3) := by decide +kernel
theorem dL_slews_77 : decode cL_slews 77 = .ok (.aload_n 0, 1) := by decide +kernel
theorem dL_slews_78 : decode cL_slews 78 = .ok (.iconst 5, 1) := by decide +kernel
theorem dL_slews_79 : decode cL_slews 79 = .ok (.dup2, 1) := by decide +kernel
theorem dL_slews_80 : decode cL_slews 80 = .ok (.iaload, 1) := by decide +kernel
theorem dL_slews_81 : decode cL_slews 81 = .ok (.iconst 1, 1) := by decide +kernel
theorem dL_slews_82 : decode cL_slews 82 = .ok (.iadd, 1) := by decide +kernel
theorem dL_slews_83 : decode cL_slews 83 = .ok (.iastore, 1) := by decide +kernel
theorem dL_slews_84 : decode cL_slews 84 = .ok (.iload_n 3, 1) := by decide +kernel
theorem dL_slews_85 : decode cL_slews 85 = .ok (.iload 4, 2) := by decide +kernel
theorem dL_slews_87 : decode cL_slews 87 = .ok (.if_icmp .le 7, 3) := by decide +kernel
theorem dL_slews_90 : decode cL_slews 90 = .ok (.iload_n 3, 1) := by decide +kernel
theorem dL_slews_91 : decode cL_slews 91 = .ok (.goto 5, 3) := by decide +kernel
theorem dL_slews_94 : decode cL_slews 94 = .ok (.iload 4, 2) := by decide +kernel
theorem dL_slews_96 : decode cL_slews 96 = .ok (.ireturn, 1) := by decide +kernel
theorem dL_day_0 : decode cL_day 0 = .ok (.aload_n 0, 1) := by decide +kernel
theorem dL_day_1 : decode cL_day 1 = .ok (.bipush 22, 2) := by decide +kernel
theorem dL_day_3 : decode cL_day 3 = .ok (.aload_n 0, 1) := by decide +kernel
theorem dL_day_4 : decode cL_day 4 = .ok (.iconst 4, 1) := by decide +kernel
theorem dL_day_5 : decode cL_day 5 = .ok (.iaload, 1) := by decide +kernel
theorem dL_day_6 : decode cL_day 6 = .ok (.sipush 1440, 3) := by decide +kernel
theorem dL_day_9 : decode cL_day 9 = .ok (.idiv, 1) := by decide +kernel
theorem dL_day_10 : decode cL_day 10 = .ok (.iadd, 1) := by decide +kernel
theorem dL_day_11 : decode cL_day 11 = .ok (.iaload, 1) := by decide +kernel
theorem dL_day_12 : decode cL_day 12 = .ok (.istore_n 1, 1) := by decide +kernel
theorem dL_day_13 : decode cL_day 13 = .ok (.iload_n 1, 1) := by decide +kernel
theorem dL_day_14 : decode cL_day 14 = .ok (.aload_n 0, 1) := by decide +kernel
theorem dL_day_15 : decode cL_day 15 = .ok (.iconst 3, 1) := by decide +kernel
theorem dL_day_16 : decode cL_day 16 = .ok (.iaload, 1) := by decide +kernel
theorem dL_day_17 : decode cL_day 17 = .ok (.if_icmp .lt 7, 3) := by decide +kernel
theorem dL_day_20 : decode cL_day 20 = .ok (.iconst 0, 1) := by decide +kernel
theorem dL_day_21 : decode cL_day 21 = .ok (.goto 15, 3) := by decide +kernel
theorem dL_day_24 : decode cL_day 24 = .ok (.iload_n 1, 1) := by decide +kernel
theorem dL_day_25 : decode cL_day 25 = .ok (.aload_n 0, 1) := by decide +kernel
theorem dL_day_26 : decode cL_day 26 = .ok (.iconst 2, 1) := by decide +kernel
theorem dL_day_27 : decode cL_day 27 = .ok (.iaload, 1) := by decide +kernel
theorem dL_day_28 : decode cL_day 28 = .ok (.if_icmp .lt 7, 3) := by decide +kernel
theorem dL_day_31 : decode cL_day 31 = .ok (.iconst 1, 1) := by decide +kernel
theorem dL_day_32 : decode cL_day 32 = .ok (.goto 4, 3) := by decide +kernel
theorem dL_day_35 : decode cL_day 35 = .ok (.iconst 2, 1) := by decide +kernel
theorem dL_day_36 : decode cL_day 36 = .ok (.ireturn, 1) := by decide +kernel
theorem dL_under_0 : decode cL_under 0 = .ok (.ldc 32, 2) := by decide +kernel
theorem dL_under_2 : decode cL_under 2 = .ok (.istore_n 2, 1) := by decide +kernel
theorem dL_under_3 : decode cL_under 3 = .ok (.iconst 0, 1) := by decide +kernel
theorem dL_under_4 : decode cL_under 4 = .ok (.istore_n 3, 1) := by decide +kernel
theorem dL_under_5 : decode cL_under 5 = .ok (.iload_n 3, 1) := by decide +kernel
theorem dL_under_6 : decode cL_under 6 = .ok (.aload_n 0, 1) := by decide +kernel
theorem dL_under_7 : decode cL_under 7 = .ok (.bipush 7, 2) := by decide +kernel
theorem dL_under_9 : decode cL_under 9 = .ok (.iaload, 1) := by decide +kernel
theorem dL_under_10 : decode cL_under 10 = .ok (.if_icmp .ge 28, 3) := by decide +kernel
theorem dL_under_13 : decode cL_under 13 = .ok (.aload_n 1, 1) := by decide +kernel
theorem dL_under_14 : decode cL_under 14 = .ok (.bipush 14, 2) := by decide +kernel
theorem dL_under_16 : decode cL_under 16 = .ok (.iload_n 3, 1) := by decide +kernel
theorem dL_under_17 : decode cL_under 17 = .ok (.imul, 1) := by decide +kernel
theorem dL_under_18 : decode cL_under 18 = .ok (.bipush 6, 2) := by decide +kernel
theorem dL_under_20 : decode cL_under 20 = .ok (.iadd, 1) := by decide +kernel
theorem dL_under_21 : decode cL_under 21 = .ok (.iaload, 1) := by decide +kernel
theorem dL_under_22 : decode cL_under 22 = .ok (.iconst 1, 1) := by decide +kernel
theorem dL_under_23 : decode cL_under 23 = .ok (.if_icmp .ne 7, 3) := by decide +kernel
theorem dL_under_26 : decode cL_under 26 = .ok (.iload_n 3, 1) := by decide +kernel
theorem dL_under_27 : decode cL_under 27 = .ok (.goto 4, 3) := by decide +kernel
theorem dL_under_30 : decode cL_under 30 = .ok (.iload_n 2, 1) := by decide +kernel
theorem dL_under_31 : decode cL_under 31 = .ok (.istore_n 2, 1) := by decide +kernel
theorem dL_under_32 : decode cL_under 32 = .ok (.iinc 3 1, 3) := by decide +kernel
theorem dL_under_35 : decode cL_under 35 = .ok (.goto (-30), 3) := by decide +kernel
theorem dL_under_38 : decode cL_under 38 = .ok (.iload_n 2, 1) := by decide +kernel
theorem dL_under_39 : decode cL_under 39 = .ok (.ireturn, 1) := by decide +kernel
set_option maxRecDepth 20000 in
theorem ggL_why_L_length : GoodIn wsL_why wsL_length := goodIn_r _ [5, 6, 7, 4, 8, 9, 10, 11, 12, 13, 14, 15, 16, 17] (by decide +kernel) (by decide +kernel)
set_option maxRecDepth 20000 in
theorem gL_why_L_length : GoodIn wsL_why (va_wsS RL 27 yL_length wsL_length) := goodIn_app (goodIn_of _ (by decide +kernel)) ggL_why_L_length
set_option maxRecDepth 20000 in
theorem ggL_why_L_pick : GoodIn wsL_why wsL_pick := goodIn_r _ [20, 21, 22, 23, 24, 25, 26, 2, 3, 4, 5, 6, 7, 8, 9, 10, 11, 12, 13, 14, 15, 16, 17] (by decide +kernel) (by decide +kernel)
set_option maxRecDepth 20000 in
theorem gL_why_L_pick : GoodIn wsL_why (va_wsS RL 47 yL_pick wsL_pick) := goodIn_app (goodIn_of _ (by decide +kernel)) ggL_why_L_pick
set_option maxRecDepth 20000 in
theorem ggL_why_L_time : GoodIn wsL_why wsL_time := goodIn_r _ [29, 2, 3, 4, 5, 6, 7, 8, 9, 10, 11, 12, 13, 14, 15, 16, 17] (by decide +kernel) (by decide +kernel)
set_option maxRecDepth 20000 in
theorem gL_why_L_time : GoodIn wsL_why (va_wsS RL 40 yL_time wsL_time) := goodIn_app (goodIn_of _ (by decide +kernel)) ggL_why_L_time
set_option maxRecDepth 20000 in
theorem ggL_why_L_under : GoodIn wsL_why wsL_under := goodIn_r _ [32, 22] (by decide +kernel) (by decide +kernel)
set_option maxRecDepth 20000 in
theorem gL_why_L_under : GoodIn wsL_why (va_wsS RL 51 yL_under wsL_under) := goodIn_app (goodIn_of _ (by decide +kernel)) ggL_why_L_under
set_option maxRecDepth 20000 in
theorem ggL_why_L_day : GoodIn wsL_why wsL_day := goodIn_r _ [35] (by decide +kernel) (by decide +kernel)
set_option maxRecDepth 20000 in
theorem gL_why_L_day : GoodIn wsL_why (va_wsS RL 55 yL_day wsL_day) := goodIn_app (goodIn_of _ (by decide +kernel)) ggL_why_L_day
theorem dL_why_0 : decode cL_why 0 = .ok (.bipush 14, 2) := by decide +kernel
theorem dL_why_2 : decode cL_why 2 = .ok (.iload_n 2, 1) := by decide +kernel
theorem dL_why_3 : decode cL_why 3 = .ok (.imul, 1) := by decide +kernel
theorem dL_why_4 : decode cL_why 4 = .ok (.istore_n 3, 1) := by decide +kernel
theorem dL_why_5 : decode cL_why 5 = .ok (.aload_n 1, 1) := by decide +kernel
theorem dL_why_6 : decode cL_why 6 = .ok (.iload_n 3, 1) := by decide +kernel
theorem dL_why_7 : decode cL_why 7 = .ok (.bipush 6, 2) := by decide +kernel
theorem dL_why_9 : decode cL_why 9 = .ok (.iadd, 1) := by decide +kernel
theorem dL_why_10 : decode cL_why 10 = .ok (.iaload, 1) := by decide +kernel
theorem dL_why_11 : decode cL_why 11 = .ok (.ifCond .eq 5, 3) := by decide +kernel
theorem dL_why_14 : decode cL_why 14 = .ok (.iconst 1, 1) := by decide +kernel
theorem dL_why_15 : decode cL_why 15 = .ok (.ireturn, 1) := by decide +kernel
theorem dL_why_16 : decode cL_why 16 = .ok (.aload_n 0, 1) := by decide +kernel
theorem dL_why_17 : decode cL_why 17 = .ok (.iconst 1, 1) := by decide +kernel
theorem dL_why_18 : decode cL_why 18 = .ok (.aload_n 1, 1) := by decide +kernel
theorem dL_why_19 : decode cL_why 19 = .ok (.iload_n 3, 1) := by decide +kernel
theorem dL_why_20 : decode cL_why 20 = .ok (.iconst 1, 1) := by decide +kernel
theorem dL_why_21 : decode cL_why 21 = .ok (.iadd, 1) := by decide +kernel
theorem dL_why_22 : decode cL_why 22 = .ok (.iaload, 1) := by decide +kernel
theorem dL_why_23 : decode cL_why 23 = .ok (.invokestatic 27, 3) := by decide +kernel
theorem dL_why_26 : decode cL_why 26 = .ok (.istore 4, 2) := by decide +kernel
theorem dL_why_28 : decode cL_why 28 = .ok (.aload_n 0, 1) := by decide +kernel
theorem dL_why_29 : decode cL_why 29 = .ok (.aload_n 1, 1) := by decide +kernel
theorem dL_why_30 : decode cL_why 30 = .ok (.iload_n 3, 1) := by decide +kernel
theorem dL_why_31 : decode cL_why 31 = .ok (.iaload, 1) := by decide +kernel
theorem dL_why_32 : decode cL_why 32 = .ok (.invokestatic 47, 3) := by decide +kernel
theorem dL_why_35 : decode cL_why 35 = .ok (.istore 5, 2) := by decide +kernel
theorem dL_why_37 : decode cL_why 37 = .ok (.iconst 0, 1) := by decide +kernel
theorem dL_why_38 : decode cL_why 38 = .ok (.istore 6, 2) := by decide +kernel
theorem dL_why_40 : decode cL_why 40 = .ok (.iload 4, 2) := by decide +kernel
theorem dL_why_42 : decode cL_why 42 = .ok (.ifCond .lt 57, 3) := by decide +kernel
theorem dL_why_45 : decode cL_why 45 = .ok (.iload 5, 2) := by decide +kernel
theorem dL_why_47 : decode cL_why 47 = .ok (.ldc 50, 2) := by decide +kernel
theorem dL_why_49 : decode cL_why 49 = .ok (.if_icmp .le 50, 3) := by decide +kernel
theorem dL_why_52 : decode cL_why 52 = .ok (.aload_n 0, 1) := by decide +kernel
theorem dL_why_53 : decode cL_why 53 = .ok (.iconst 0, 1) := by decide +kernel
theorem dL_why_54 : decode cL_why 54 = .ok (.iload 5, 2) := by decide +kernel
theorem dL_why_56 : decode cL_why 56 = .ok (.invokestatic 40, 3) := by decide +kernel
theorem dL_why_59 : decode cL_why 59 = .ok (.istore 7, 2) := by decide +kernel
theorem dL_why_61 : decode cL_why 61 = .ok (.aload_n 0, 1) := by decide +kernel
theorem dL_why_62 : decode cL_why 62 = .ok (.iconst 1, 1) := by decide +kernel
theorem dL_why_63 : decode cL_why 63 = .ok (.aload_n 1, 1) := by decide +kernel
theorem dL_why_64 : decode cL_why 64 = .ok (.iload_n 3, 1) := by decide +kernel
theorem dL_why_65 : decode cL_why 65 = .ok (.iconst 1, 1) := by decide +kernel
theorem dL_why_66 : decode cL_why 66 = .ok (.iadd, 1) := by decide +kernel
theorem dL_why_67 : decode cL_why 67 = .ok (.iaload, 1) := by decide +kernel
theorem dL_why_68 : decode cL_why 68 = .ok (.invokestatic 40, 3) := by decide +kernel
theorem dL_why_71 : decode cL_why 71 = .ok (.istore 8, 2) := by decide +kernel
theorem dL_why_73 : decode cL_why 73 = .ok (.aload_n 0, 1) := by decide +kernel
theorem dL_why_74 : decode cL_why 74 = .ok (.iconst 4, 1) := by decide +kernel
theorem dL_why_75 : decode cL_why 75 = .ok (.iaload, 1) := by decide +kernel
theorem dL_why_76 : decode cL_why 76 = .ok (.aload_n 1, 1) := by decide +kernel
theorem dL_why_77 : decode cL_why 77 = .ok (.iload_n 3, 1) := by decide +kernel
theorem dL_why_78 : decode cL_why 78 = .ok (.iconst 4, 1) := by decide +kernel
theorem dL_why_79 : decode cL_why 79 = .ok (.iadd, 1) := by decide +kernel
theorem dL_why_80 : decode cL_why 80 = .ok (.iaload, 1) := by decide +kernel
theorem dL_why_81 : decode cL_why 81 = .ok (.iadd, 1) := by decide +kernel
theorem dL_why_82 : decode cL_why 82 = .ok (.iload 7, 2) := by decide +kernel
theorem dL_why_84 : decode cL_why 84 = .ok (.iload 8, 2) := by decide +kernel
theorem dL_why_86 : decode cL_why 86 = .ok (.if_icmp .le 8, 3) := by decide +kernel
theorem dL_why_89 : decode cL_why 89 = .ok (.iload 7, 2) := by decide +kernel
theorem dL_why_91 : decode cL_why 91 = .ok (.goto 5, 3) := by decide +kernel
theorem dL_why_94 : decode cL_why 94 = .ok (.iload 8, 2) := by decide +kernel
theorem dL_why_96 : decode cL_why 96 = .ok (.iadd, 1) := by decide +kernel
theorem dL_why_97 : decode cL_why 97 = .ok (.istore 6, 2) := by decide +kernel
theorem dL_why_99 : decode cL_why 99 = .ok (.aload_n 0, 1) := by decide +kernel
theorem dL_why_100 : decode cL_why 100 = .ok (.aload_n 1, 1) := by decide +kernel
theorem dL_why_101 : decode cL_why 101 = .ok (.invokestatic 51, 3) := by decide +kernel
theorem dL_why_104 : decode cL_why 104 = .ok (.ifCond .lt 7, 3) := by decide +kernel
theorem dL_why_107 : decode cL_why 107 = .ok (.iconst 2, 1) := by decide +kernel
theorem dL_why_108 : decode cL_why 108 = .ok (.goto 66, 3) := by decide +kernel
theorem dL_why_111 : decode cL_why 111 = .ok (.aload_n 0, 1) := by decide +kernel
theorem dL_why_112 : decode cL_why 112 = .ok (.invokestatic 55, 3) := by decide +kernel
theorem dL_why_115 : decode cL_why 115 = .ok (.ifCond .ne 7, 3) := by decide +kernel
theorem dL_why_118 : decode cL_why 118 = .ok (.iconst 3, 1) := by decide +kernel
theorem dL_why_119 : decode cL_why 119 = .ok (.goto 55, 3) := by decide +kernel
theorem dL_why_122 : decode cL_why 122 = .ok (.aload_n 0, 1) := by decide +kernel
theorem dL_why_123 : decode cL_why 123 = .ok (.iconst 4, 1) := by decide +kernel
theorem dL_why_124 : decode cL_why 124 = .ok (.iaload, 1) := by decide +kernel
theorem dL_why_125 : decode cL_why 125 = .ok (.aload_n 1, 1) := by decide +kernel
theorem dL_why_126 : decode cL_why 126 = .ok (.iload_n 3, 1) := by decide +kernel
theorem dL_why_127 : decode cL_why 127 = .ok (.iconst 2, 1) := by decide +kernel
theorem dL_why_128 : decode cL_why 128 = .ok (.iadd, 1) := by decide +kernel
theorem dL_why_129 : decode cL_why 129 = .ok (.iaload, 1) := by decide +kernel
theorem dL_why_130 : decode cL_why 130 = .ok (.if_icmp .ge 7, 3) := by decide +kernel
theorem dL_why_133 : decode cL_why 133 = .ok (.iconst 4, 1) := by decide +kernel
theorem dL_why_134 : decode cL_why 134 = .ok (.goto 40, 3) := by decide +kernel
theorem dL_why_137 : decode cL_why 137 = .ok (.iload 4, 2) := by decide +kernel
theorem dL_why_139 : decode cL_why 139 = .ok (.ifCond .ge 7, 3) := by decide +kernel
theorem dL_why_142 : decode cL_why 142 = .ok (.iconst 5, 1) := by decide +kernel
theorem dL_why_143 : decode cL_why 143 = .ok (.goto 31, 3) := by decide +kernel
theorem dL_why_146 : decode cL_why 146 = .ok (.iload 5, 2) := by decide +kernel
theorem dL_why_148 : decode cL_why 148 = .ok (.ldc 50, 2) := by decide +kernel
theorem dL_why_150 : decode cL_why 150 = .ok (.if_icmp .ge 8, 3) := by decide +kernel
theorem dL_why_153 : decode cL_why 153 = .ok (.bipush 6, 2) := by decide +kernel
theorem dL_why_155 : decode cL_why 155 = .ok (.goto 19, 3) := by decide +kernel
theorem dL_why_158 : decode cL_why 158 = .ok (.iload 6, 2) := by decide +kernel
theorem dL_why_160 : decode cL_why 160 = .ok (.aload_n 1, 1) := by decide +kernel
theorem dL_why_161 : decode cL_why 161 = .ok (.iload_n 3, 1) := by decide +kernel
theorem dL_why_162 : decode cL_why 162 = .ok (.iconst 3, 1) := by decide +kernel
theorem dL_why_163 : decode cL_why 163 = .ok (.iadd, 1) := by decide +kernel
theorem dL_why_164 : decode cL_why 164 = .ok (.iaload, 1) := by decide +kernel
theorem dL_why_165 : decode cL_why 165 = .ok (.if_icmp .le 8, 3) := by decide +kernel
theorem dL_why_168 : decode cL_why 168 = .ok (.bipush 7, 2) := by decide +kernel
theorem dL_why_170 : decode cL_why 170 = .ok (.goto 4, 3) := by decide +kernel
theorem dL_why_173 : decode cL_why 173 = .ok (.iconst 0, 1) := by decide +kernel
theorem dL_why_174 : decode cL_why 174 = .ok (.ireturn, 1) := by decide +kernel
set_option maxRecDepth 20000 in
theorem ggL_next_L_why : GoodIn wsL_next wsL_why := goodIn_r _ [5, 6, 7, 8, 4, 9, 10, 11, 12, 13, 14, 15, 16, 17, 18, 19, 20, 21, 22, 23, 24, 25, 1, 26, 27, 28, 29, 30, 31, 32, 33, 34, 35, 36, 37, 38] (by decide +kernel) (by decide +kernel)
set_option maxRecDepth 20000 in
theorem gL_next_L_why : GoodIn wsL_next (va_wsS RL 59 yL_why wsL_why) := goodIn_app (goodIn_of _ (by decide +kernel)) ggL_next_L_why
theorem dL_next_0 : decode cL_next 0 = .ok (.ldc 32, 2) := by decide +kernel
theorem dL_next_2 : decode cL_next 2 = .ok (.istore_n 2, 1) := by decide +kernel
theorem dL_next_3 : decode cL_next 3 = .ok (.bipush 9, 2) := by decide +kernel
theorem dL_next_5 : decode cL_next 5 = .ok (.istore_n 3, 1) := by decide +kernel
theorem dL_next_6 : decode cL_next 6 = .ok (.iload_n 3, 1) := by decide +kernel
theorem dL_next_7 : decode cL_next 7 = .ok (.ifCond .lt 86, 3) := by decide +kernel
theorem dL_next_10 : decode cL_next 10 = .ok (.iload_n 2, 1) := by decide +kernel
theorem dL_next_11 : decode cL_next 11 = .ok (.ifCond .ge 82, 3) := by decide +kernel
theorem dL_next_14 : decode cL_next 14 = .ok (.aload_n 0, 1) := by decide +kernel
theorem dL_next_15 : decode cL_next 15 = .ok (.bipush 7, 2) := by decide +kernel
theorem dL_next_17 : decode cL_next 17 = .ok (.iaload, 1) := by decide +kernel
theorem dL_next_18 : decode cL_next 18 = .ok (.iconst 1, 1) := by decide +kernel
theorem dL_next_19 : decode cL_next 19 = .ok (.isub, 1) := by decide +kernel
theorem dL_next_20 : decode cL_next 20 = .ok (.istore 4, 2) := by decide +kernel
theorem dL_next_22 : decode cL_next 22 = .ok (.iload 4, 2) := by decide +kernel
theorem dL_next_24 : decode cL_next 24 = .ok (.ifCond .lt 63, 3) := by decide +kernel
theorem dL_next_27 : decode cL_next 27 = .ok (.aload_n 1, 1) := by decide +kernel
theorem dL_next_28 : decode cL_next 28 = .ok (.bipush 14, 2) := by decide +kernel
theorem dL_next_30 : decode cL_next 30 = .ok (.iload 4, 2) := by decide +kernel
theorem dL_next_32 : decode cL_next 32 = .ok (.imul, 1) := by decide +kernel
theorem dL_next_33 : decode cL_next 33 = .ok (.iconst 5, 1) := by decide +kernel
theorem dL_next_34 : decode cL_next 34 = .ok (.iadd, 1) := by decide +kernel
theorem dL_next_35 : decode cL_next 35 = .ok (.iaload, 1) := by decide +kernel
theorem dL_next_36 : decode cL_next 36 = .ok (.iload_n 3, 1) := by decide +kernel
theorem dL_next_37 : decode cL_next 37 = .ok (.if_icmp .ne 44, 3) := by decide +kernel
theorem dL_next_40 : decode cL_next 40 = .ok (.aload_n 0, 1) := by decide +kernel
theorem dL_next_41 : decode cL_next 41 = .ok (.aload_n 1, 1) := by decide +kernel
theorem dL_next_42 : decode cL_next 42 = .ok (.iload 4, 2) := by decide +kernel
theorem dL_next_44 : decode cL_next 44 = .ok (.invokestatic 59, 3) := by decide +kernel
theorem dL_next_47 : decode cL_next 47 = .ok (.ifCond .ne 34, 3) := by decide +kernel
theorem dL_next_50 : decode cL_next 50 = .ok (.iload_n 2, 1) := by decide +kernel
theorem dL_next_51 : decode cL_next 51 = .ok (.ifCond .lt 23, 3) := by decide +kernel
theorem dL_next_54 : decode cL_next 54 = .ok (.aload_n 1, 1) := by decide +kernel
theorem dL_next_55 : decode cL_next 55 = .ok (.bipush 14, 2) := by decide +kernel
theorem dL_next_57 : decode cL_next 57 = .ok (.iload 4, 2) := by decide +kernel
theorem dL_next_59 : decode cL_next 59 = .ok (.imul, 1) := by decide +kernel
theorem dL_next_60 : decode cL_next 60 = .ok (.iconst 3, 1) := by decide +kernel
theorem dL_next_61 : decode cL_next 61 = .ok (.iadd, 1) := by decide +kernel
theorem dL_next_62 : decode cL_next 62 = .ok (.iaload, 1) := by decide +kernel
theorem dL_next_63 : decode cL_next 63 = .ok (.aload_n 1, 1) := by decide +kernel
theorem dL_next_64 : decode cL_next 64 = .ok (.bipush 14, 2) := by decide +kernel
theorem dL_next_66 : decode cL_next 66 = .ok (.iload_n 2, 1) := by decide +kernel
theorem dL_next_67 : decode cL_next 67 = .ok (.imul, 1) := by decide +kernel
theorem dL_next_68 : decode cL_next 68 = .ok (.iconst 3, 1) := by decide +kernel
theorem dL_next_69 : decode cL_next 69 = .ok (.iadd, 1) := by decide +kernel
theorem dL_next_70 : decode cL_next 70 = .ok (.iaload, 1) := by decide +kernel
theorem dL_next_71 : decode cL_next 71 = .ok (.if_icmp .gt 8, 3) := by decide +kernel
theorem dL_next_74 : decode cL_next 74 = .ok (.iload 4, 2) := by decide +kernel
theorem dL_next_76 : decode cL_next 76 = .ok (.goto 4, 3) := by decide +kernel
theorem dL_next_79 : decode cL_next 79 = .ok (.iload_n 2, 1) := by decide +kernel
theorem dL_next_80 : decode cL_next 80 = .ok (.istore_n 2, 1) := by decide +kernel
theorem dL_next_81 : decode cL_next 81 = .ok (.iinc 4 (-1), 3) := by decide +kernel
theorem dL_next_84 : decode cL_next 84 = .ok (.goto (-62), 3) := by decide +kernel
theorem dL_next_87 : decode cL_next 87 = .ok (.iinc 3 (-1), 3) := by decide +kernel
theorem dL_next_90 : decode cL_next 90 = .ok (.goto (-84), 3) := by decide +kernel
theorem dL_next_93 : decode cL_next 93 = .ok (.iload_n 2, 1) := by decide +kernel
theorem dL_next_94 : decode cL_next 94 = .ok (.ireturn, 1) := by decide +kernel
set_option maxRecDepth 20000 in
theorem ggL_push_L_day : GoodIn wsL_push wsL_day := goodIn_r _ [4] (by decide +kernel) (by decide +kernel)
set_option maxRecDepth 20000 in
theorem gL_push_L_day : GoodIn wsL_push (va_wsS RL 55 yL_day wsL_day) := goodIn_app (goodIn_of _ (by decide +kernel)) ggL_push_L_day
theorem dL_push_0 : decode cL_push 0 = .ok (.bipush 14, 2) := by decide +kernel
theorem dL_push_2 : decode cL_push 2 = .ok (.iload_n 2, 1) := by decide +kernel
theorem dL_push_3 : decode cL_push 3 = .ok (.imul, 1) := by decide +kernel
theorem dL_push_4 : decode cL_push 4 = .ok (.istore_n 3, 1) := by decide +kernel
theorem dL_push_5 : decode cL_push 5 = .ok (.aload_n 1, 1) := by decide +kernel
theorem dL_push_6 : decode cL_push 6 = .ok (.iload_n 3, 1) := by decide +kernel
theorem dL_push_7 : decode cL_push 7 = .ok (.bipush 8, 2) := by decide +kernel
theorem dL_push_9 : decode cL_push 9 = .ok (.iadd, 1) := by decide +kernel
theorem dL_push_10 : decode cL_push 10 = .ok (.iaload, 1) := by decide +kernel
theorem dL_push_11 : decode cL_push 11 = .ok (.aload_n 0, 1) := by decide +kernel
theorem dL_push_12 : decode cL_push 12 = .ok (.iconst 4, 1) := by decide +kernel
theorem dL_push_13 : decode cL_push 13 = .ok (.iaload, 1) := by decide +kernel
theorem dL_push_14 : decode cL_push 14 = .ok (.if_icmp .ne 59, 3) := by decide +kernel
theorem dL_push_17 : decode cL_push 17 = .ok (.aload_n 1, 1) := by decide +kernel
theorem dL_push_18 : decode cL_push 18 = .ok (.iload_n 3, 1) := by decide +kernel
theorem dL_push_19 : decode cL_push 19 = .ok (.bipush 13, 2) := by decide +kernel
theorem dL_push_21 : decode cL_push 21 = .ok (.iadd, 1) := by decide +kernel
theorem dL_push_22 : decode cL_push 22 = .ok (.iaload, 1) := by decide +kernel
theorem dL_push_23 : decode cL_push 23 = .ok (.ifCond .ne 50, 3) := by decide +kernel
theorem dL_push_26 : decode cL_push 26 = .ok (.aload_n 0, 1) := by decide +kernel
theorem dL_push_27 : decode cL_push 27 = .ok (.bipush 12, 2) := by decide +kernel
theorem dL_push_29 : decode cL_push 29 = .ok (.aload_n 0, 1) := by decide +kernel
theorem dL_push_30 : decode cL_push 30 = .ok (.invokestatic 55, 3) := by decide +kernel
theorem dL_push_33 : decode cL_push 33 = .ok (.iconst 1, 1) := by decide +kernel
theorem dL_push_34 : decode cL_push 34 = .ok (.if_icmp .eq 10, 3) := by decide +kernel
theorem dL_push_37 : decode cL_push 37 = .ok (.aload_n 0, 1) := by decide +kernel
theorem dL_push_38 : decode cL_push 38 = .ok (.bipush 12, 2) := by decide +kernel
theorem dL_push_40 : decode cL_push 40 = .ok (.iaload, 1) := by decide +kernel
theorem dL_push_41 : decode cL_push 41 = .ok (.goto 24, 3) := by decide +kernel
theorem dL_push_44 : decode cL_push 44 = .ok (.aload_n 0, 1) := by decide +kernel
theorem dL_push_45 : decode cL_push 45 = .ok (.iconst 4, 1) := by decide +kernel
theorem dL_push_46 : decode cL_push 46 = .ok (.iaload, 1) := by decide +kernel
theorem dL_push_47 : decode cL_push 47 = .ok (.sipush 1440, 3) := by decide +kernel
theorem dL_push_50 : decode cL_push 50 = .ok (.idiv, 1) := by decide +kernel
theorem dL_push_51 : decode cL_push 51 = .ok (.iconst 2, 1) := by decide +kernel
theorem dL_push_52 : decode cL_push 52 = .ok (.irem, 1) := by decide +kernel
theorem dL_push_53 : decode cL_push 53 = .ok (.iconst 1, 1) := by decide +kernel
theorem dL_push_54 : decode cL_push 54 = .ok (.if_icmp .ne 10, 3) := by decide +kernel
theorem dL_push_57 : decode cL_push 57 = .ok (.aload_n 0, 1) := by decide +kernel
theorem dL_push_58 : decode cL_push 58 = .ok (.bipush 8, 2) := by decide +kernel
theorem dL_push_60 : decode cL_push 60 = .ok (.iaload, 1) := by decide +kernel
theorem dL_push_61 : decode cL_push 61 = .ok (.goto 4, 3) := by decide +kernel
theorem dL_push_64 : decode cL_push 64 = .ok (.iconst 0, 1) := by decide +kernel
theorem dL_push_65 : decode cL_push 65 = .ok (.iastore, 1) := by decide +kernel
theorem dL_push_66 : decode cL_push 66 = .ok (.aload_n 1, 1) := by decide +kernel
theorem dL_push_67 : decode cL_push 67 = .ok (.iload_n 3, 1) := by decide +kernel
theorem dL_push_68 : decode cL_push 68 = .ok (.bipush 13, 2) := by decide +kernel
theorem dL_push_70 : decode cL_push 70 = .ok (.iadd, 1) := by decide +kernel
theorem dL_push_71 : decode cL_push 71 = .ok (.iconst 1, 1) := by decide +kernel
theorem dL_push_72 : decode cL_push 72 = .ok (.iastore, 1) := by decide +kernel
theorem dL_push_73 : decode cL_push 73 = .ok (.return_, 1) := by decide +kernel
set_option maxRecDepth 20000 in
theorem ggL_minute_L_under : GoodIn wsL_minute wsL_under := goodIn_r _ [4, 5] (by decide +kernel) (by decide +kernel)
set_option maxRecDepth 20000 in
theorem gL_minute_L_under : GoodIn wsL_minute (va_wsS RL 51 yL_under wsL_under) := goodIn_app (goodIn_of _ (by decide +kernel)) ggL_minute_L_under
set_option maxRecDepth 20000 in
theorem ggL_minute_L_push : GoodIn wsL_minute wsL_push := goodIn_r _ [8, 9, 10, 3, 11] (by decide +kernel) (by decide +kernel)
set_option maxRecDepth 20000 in
theorem gL_minute_L_push : GoodIn wsL_minute (va_wsS RL 63 yL_push wsL_push) := goodIn_app (goodIn_of _ (by decide +kernel)) ggL_minute_L_push
set_option maxRecDepth 20000 in
theorem ggL_minute_L_dish : GoodIn wsL_minute wsL_dish := goodIn_r _ [14] (by decide +kernel) (by decide +kernel)
set_option maxRecDepth 20000 in
theorem gL_minute_L_dish : GoodIn wsL_minute (va_wsS RL 9 yL_dish wsL_dish) := goodIn_app (goodIn_of _ (by decide +kernel)) ggL_minute_L_dish
set_option maxRecDepth 20000 in
theorem ggL_minute_L_next : GoodIn wsL_minute wsL_next := goodIn_r _ [17, 5, 18, 19, 3, 20, 21, 22, 23, 24, 25, 26, 27, 12, 13, 14, 28, 29, 30, 31, 32, 33, 34, 35, 36, 37, 38, 39, 40, 41, 42, 43, 44, 1, 2, 4, 9, 10, 11] (by decide +kernel) (by decide +kernel)
set_option maxRecDepth 20000 in
theorem gL_minute_L_next : GoodIn wsL_minute (va_wsS RL 67 yL_next wsL_next) := goodIn_app (goodIn_of _ (by decide +kernel)) ggL_minute_L_next
set_option maxRecDepth 20000 in
theorem ggL_minute_L_pick : GoodIn wsL_minute wsL_pick := goodIn_r _ [36, 37, 5, 38, 39, 40, 41, 22, 23, 3, 24, 25, 26, 27, 12, 13, 14, 28, 29, 30, 31, 32, 33] (by decide +kernel) (by decide +kernel)
set_option maxRecDepth 20000 in
theorem gL_minute_L_pick : GoodIn wsL_minute (va_wsS RL 47 yL_pick wsL_pick) := goodIn_app (goodIn_of _ (by decide +kernel)) ggL_minute_L_pick
set_option maxRecDepth 20000 in
theorem ggL_minute_L_slews : GoodIn wsL_minute wsL_slews := goodIn_r _ [47, 42, 43, 3, 44, 22, 23, 24, 25, 26, 27, 12, 13, 14, 28, 29, 30, 31, 32, 33, 48, 49, 50] (by decide +kernel) (by decide +kernel)
set_option maxRecDepth 20000 in
theorem gL_minute_L_slews : GoodIn wsL_minute (va_wsS RL 70 yL_slews wsL_slews) := goodIn_app (goodIn_of _ (by decide +kernel)) ggL_minute_L_slews
theorem dL_minute_0 : decode cL_minute 0 = .ok (.iconst 0, 1) := by decide +kernel
theorem dL_minute_1 : decode cL_minute 1 = .ok (.istore_n 2, 1) := by decide +kernel
theorem dL_minute_2 : decode cL_minute 2 = .ok (.aload_n 0, 1) := by decide +kernel
theorem dL_minute_3 : decode cL_minute 3 = .ok (.aload_n 1, 1) := by decide +kernel
theorem dL_minute_4 : decode cL_minute 4 = .ok (.invokestatic 51, 3) := by decide +kernel
theorem dL_minute_7 : decode cL_minute 7 = .ok (.istore_n 3, 1) := by decide +kernel
theorem dL_minute_8 : decode cL_minute 8 = .ok (.iload_n 3, 1) := by decide +kernel
theorem dL_minute_9 : decode cL_minute 9 = .ok (.ifCond .lt 61, 3) := by decide +kernel
theorem dL_minute_12 : decode cL_minute 12 = .ok (.aload_n 0, 1) := by decide +kernel
theorem dL_minute_13 : decode cL_minute 13 = .ok (.aload_n 1, 1) := by decide +kernel
theorem dL_minute_14 : decode cL_minute 14 = .ok (.iload_n 3, 1) := by decide +kernel
theorem dL_minute_15 : decode cL_minute 15 = .ok (.invokestatic 63, 3) := by decide +kernel
theorem dL_minute_18 : decode cL_minute 18 = .ok (.aload_n 1, 1) := by decide +kernel
theorem dL_minute_19 : decode cL_minute 19 = .ok (.bipush 14, 2) := by decide +kernel
theorem dL_minute_21 : decode cL_minute 21 = .ok (.iload_n 3, 1) := by decide +kernel
theorem dL_minute_22 : decode cL_minute 22 = .ok (.imul, 1) := by decide +kernel
theorem dL_minute_23 : decode cL_minute 23 = .ok (.bipush 9, 2) := by decide +kernel
theorem dL_minute_25 : decode cL_minute 25 = .ok (.iadd, 1) := by decide +kernel
theorem dL_minute_26 : decode cL_minute 26 = .ok (.iaload, 1) := by decide +kernel
theorem dL_minute_27 : decode cL_minute 27 = .ok (.aload_n 0, 1) := by decide +kernel
theorem dL_minute_28 : decode cL_minute 28 = .ok (.iconst 4, 1) := by decide +kernel
theorem dL_minute_29 : decode cL_minute 29 = .ok (.iaload, 1) := by decide +kernel
theorem dL_minute_30 : decode cL_minute 30 = .ok (.if_icmp .gt 40, 3) := by decide +kernel
theorem dL_minute_33 : decode cL_minute 33 = .ok (.aload_n 1, 1) := by decide +kernel
theorem dL_minute_34 : decode cL_minute 34 = .ok (.bipush 14, 2) := by decide +kernel
theorem dL_minute_36 : decode cL_minute 36 = .ok (.iload_n 3, 1) := by decide +kernel
theorem dL_minute_37 : decode cL_minute 37 = .ok (.imul, 1) := by decide +kernel
theorem dL_minute_38 : decode cL_minute 38 = .ok (.bipush 6, 2) := by decide +kernel
theorem dL_minute_40 : decode cL_minute 40 = .ok (.iadd, 1) := by decide +kernel
theorem dL_minute_41 : decode cL_minute 41 = .ok (.iconst 2, 1) := by decide +kernel
theorem dL_minute_42 : decode cL_minute 42 = .ok (.iastore, 1) := by decide +kernel
theorem dL_minute_43 : decode cL_minute 43 = .ok (.aload_n 1, 1) := by decide +kernel
theorem dL_minute_44 : decode cL_minute 44 = .ok (.bipush 14, 2) := by decide +kernel
theorem dL_minute_46 : decode cL_minute 46 = .ok (.iload_n 3, 1) := by decide +kernel
theorem dL_minute_47 : decode cL_minute 47 = .ok (.imul, 1) := by decide +kernel
theorem dL_minute_48 : decode cL_minute 48 = .ok (.bipush 10, 2) := by decide +kernel
theorem dL_minute_50 : decode cL_minute 50 = .ok (.iadd, 1) := by decide +kernel
theorem dL_minute_51 : decode cL_minute 51 = .ok (.aload_n 0, 1) := by decide +kernel
theorem dL_minute_52 : decode cL_minute 52 = .ok (.iconst 0, 1) := by decide +kernel
theorem dL_minute_53 : decode cL_minute 53 = .ok (.invokestatic 9, 3) := by decide +kernel
theorem dL_minute_56 : decode cL_minute 56 = .ok (.aload_n 1, 1) := by decide +kernel
theorem dL_minute_57 : decode cL_minute 57 = .ok (.bipush 14, 2) := by decide +kernel
theorem dL_minute_59 : decode cL_minute 59 = .ok (.iload_n 3, 1) := by decide +kernel
theorem dL_minute_60 : decode cL_minute 60 = .ok (.imul, 1) := by decide +kernel
theorem dL_minute_61 : decode cL_minute 61 = .ok (.bipush 12, 2) := by decide +kernel
theorem dL_minute_63 : decode cL_minute 63 = .ok (.iadd, 1) := by decide +kernel
theorem dL_minute_64 : decode cL_minute 64 = .ok (.iaload, 1) := by decide +kernel
theorem dL_minute_65 : decode cL_minute 65 = .ok (.isub, 1) := by decide +kernel
theorem dL_minute_66 : decode cL_minute 66 = .ok (.iastore, 1) := by decide +kernel
theorem dL_minute_67 : decode cL_minute 67 = .ok (.iinc 2 1, 3) := by decide +kernel
theorem dL_minute_70 : decode cL_minute 70 = .ok (.iconst 0, 1) := by decide +kernel
theorem dL_minute_71 : decode cL_minute 71 = .ok (.istore 4, 2) := by decide +kernel
theorem dL_minute_73 : decode cL_minute 73 = .ok (.iload 4, 2) := by decide +kernel
theorem dL_minute_75 : decode cL_minute 75 = .ok (.aload_n 0, 1) := by decide +kernel
theorem dL_minute_76 : decode cL_minute 76 = .ok (.bipush 7, 2) := by decide +kernel
theorem dL_minute_78 : decode cL_minute 78 = .ok (.iaload, 1) := by decide +kernel
theorem dL_minute_79 : decode cL_minute 79 = .ok (.if_icmp .ge 61, 3) := by decide +kernel
theorem dL_minute_82 : decode cL_minute 82 = .ok (.aload_n 1, 1) := by decide +kernel
theorem dL_minute_83 : decode cL_minute 83 = .ok (.bipush 14, 2) := by decide +kernel
theorem dL_minute_85 : decode cL_minute 85 = .ok (.iload 4, 2) := by decide +kernel
theorem dL_minute_87 : decode cL_minute 87 = .ok (.imul, 1) := by decide +kernel
theorem dL_minute_88 : decode cL_minute 88 = .ok (.bipush 6, 2) := by decide +kernel
theorem dL_minute_90 : decode cL_minute 90 = .ok (.iadd, 1) := by decide +kernel
theorem dL_minute_91 : decode cL_minute 91 = .ok (.aload_n 1, 1) := by decide +kernel
theorem dL_minute_92 : decode cL_minute 92 = .ok (.bipush 14, 2) := by decide +kernel
theorem dL_minute_94 : decode cL_minute 94 = .ok (.iload 4, 2) := by decide +kernel
theorem dL_minute_96 : decode cL_minute 96 = .ok (.imul, 1) := by decide +kernel
theorem dL_minute_97 : decode cL_minute 97 = .ok (.bipush 6, 2) := by decide +kernel
theorem dL_minute_99 : decode cL_minute 99 = .ok (.iadd, 1) := by decide +kernel
theorem dL_minute_100 : decode cL_minute 100 = .ok (.iaload, 1) := by decide +kernel
theorem dL_minute_101 : decode cL_minute 101 = .ok (.ifCond .ne 22, 3) := by decide +kernel
theorem dL_minute_104 : decode cL_minute 104 = .ok (.aload_n 1, 1) := by decide +kernel
theorem dL_minute_105 : decode cL_minute 105 = .ok (.bipush 14, 2) := by decide +kernel
theorem dL_minute_107 : decode cL_minute 107 = .ok (.iload 4, 2) := by decide +kernel
theorem dL_minute_109 : decode cL_minute 109 = .ok (.imul, 1) := by decide +kernel
theorem dL_minute_110 : decode cL_minute 110 = .ok (.iconst 3, 1) := by decide +kernel
theorem dL_minute_111 : decode cL_minute 111 = .ok (.iadd, 1) := by decide +kernel
theorem dL_minute_112 : decode cL_minute 112 = .ok (.iaload, 1) := by decide +kernel
theorem dL_minute_113 : decode cL_minute 113 = .ok (.aload_n 0, 1) := by decide +kernel
theorem dL_minute_114 : decode cL_minute 114 = .ok (.iconst 4, 1) := by decide +kernel
theorem dL_minute_115 : decode cL_minute 115 = .ok (.iaload, 1) := by decide +kernel
theorem dL_minute_116 : decode cL_minute 116 = .ok (.if_icmp .gt 7, 3) := by decide +kernel
theorem dL_minute_119 : decode cL_minute 119 = .ok (.iconst 3, 1) := by decide +kernel
theorem dL_minute_120 : decode cL_minute 120 = .ok (.goto 13, 3) := by decide +kernel
theorem dL_minute_123 : decode cL_minute 123 = .ok (.aload_n 1, 1) := by decide +kernel
theorem dL_minute_124 : decode cL_minute 124 = .ok (.bipush 14, 2) := by decide +kernel
theorem dL_minute_126 : decode cL_minute 126 = .ok (.iload 4, 2) := by decide +kernel
theorem dL_minute_128 : decode cL_minute 128 = .ok (.imul, 1) := by decide +kernel
theorem dL_minute_129 : decode cL_minute 129 = .ok (.bipush 6, 2) := by decide +kernel
theorem dL_minute_131 : decode cL_minute 131 = .ok (.iadd, 1) := by decide +kernel
theorem dL_minute_132 : decode cL_minute 132 = .ok (.iaload, 1) := by decide +kernel
theorem dL_minute_133 : decode cL_minute 133 = .ok (.iastore, 1) := by decide +kernel
theorem dL_minute_134 : decode cL_minute 134 = .ok (.iinc 4 1, 3) := by decide +kernel
theorem dL_minute_137 : decode cL_minute 137 = .ok (.goto (-64), 3) := by decide +kernel
theorem dL_minute_140 : decode cL_minute 140 = .ok (.aload_n 0, 1) := by decide +kernel
theorem dL_minute_141 : decode cL_minute 141 = .ok (.aload_n 1, 1) := by decide +kernel
theorem dL_minute_142 : decode cL_minute 142 = .ok (.invokestatic 67, 3) := by decide +kernel
theorem dL_minute_145 : decode cL_minute 145 = .ok (.istore 4, 2) := by decide +kernel
theorem dL_minute_147 : decode cL_minute 147 = .ok (.iload 4, 2) := by decide +kernel
theorem dL_minute_149 : decode cL_minute 149 = .ok (.ifCond .lt 107, 3) := by decide +kernel
theorem dL_minute_152 : decode cL_minute 152 = .ok (.bipush 14, 2) := by decide +kernel
theorem dL_minute_154 : decode cL_minute 154 = .ok (.iload 4, 2) := by decide +kernel
theorem dL_minute_156 : decode cL_minute 156 = .ok (.imul, 1) := by decide +kernel
theorem dL_minute_157 : decode cL_minute 157 = .ok (.istore 5, 2) := by decide +kernel
theorem dL_minute_159 : decode cL_minute 159 = .ok (.aload_n 1, 1) := by decide +kernel
theorem dL_minute_160 : decode cL_minute 160 = .ok (.iload 5, 2) := by decide +kernel
theorem dL_minute_162 : decode cL_minute 162 = .ok (.bipush 12, 2) := by decide +kernel
theorem dL_minute_164 : decode cL_minute 164 = .ok (.iadd, 1) := by decide +kernel
theorem dL_minute_165 : decode cL_minute 165 = .ok (.aload_n 0, 1) := by decide +kernel
theorem dL_minute_166 : decode cL_minute 166 = .ok (.aload_n 1, 1) := by decide +kernel
theorem dL_minute_167 : decode cL_minute 167 = .ok (.iload 5, 2) := by decide +kernel
theorem dL_minute_169 : decode cL_minute 169 = .ok (.iaload, 1) := by decide +kernel
theorem dL_minute_170 : decode cL_minute 170 = .ok (.invokestatic 47, 3) := by decide +kernel
theorem dL_minute_173 : decode cL_minute 173 = .ok (.iastore, 1) := by decide +kernel
theorem dL_minute_174 : decode cL_minute 174 = .ok (.aload_n 1, 1) := by decide +kernel
theorem dL_minute_175 : decode cL_minute 175 = .ok (.iload 5, 2) := by decide +kernel
theorem dL_minute_177 : decode cL_minute 177 = .ok (.bipush 6, 2) := by decide +kernel
theorem dL_minute_179 : decode cL_minute 179 = .ok (.iadd, 1) := by decide +kernel
theorem dL_minute_180 : decode cL_minute 180 = .ok (.iconst 1, 1) := by decide +kernel
theorem dL_minute_181 : decode cL_minute 181 = .ok (.iastore, 1) := by decide +kernel
theorem dL_minute_182 : decode cL_minute 182 = .ok (.aload_n 1, 1) := by decide +kernel
theorem dL_minute_183 : decode cL_minute 183 = .ok (.iload 5, 2) := by decide +kernel
theorem dL_minute_185 : decode cL_minute 185 = .ok (.bipush 7, 2) := by decide +kernel
theorem dL_minute_187 : decode cL_minute 187 = .ok (.iadd, 1) := by decide +kernel
theorem dL_minute_188 : decode cL_minute 188 = .ok (.aload_n 0, 1) := by decide +kernel
theorem dL_minute_189 : decode cL_minute 189 = .ok (.iconst 4, 1) := by decide +kernel
theorem dL_minute_190 : decode cL_minute 190 = .ok (.iaload, 1) := by decide +kernel
theorem dL_minute_191 : decode cL_minute 191 = .ok (.iastore, 1) := by decide +kernel
theorem dL_minute_192 : decode cL_minute 192 = .ok (.aload_n 1, 1) := by decide +kernel
theorem dL_minute_193 : decode cL_minute 193 = .ok (.iload 5, 2) := by decide +kernel
theorem dL_minute_195 : decode cL_minute 195 = .ok (.bipush 8, 2) := by decide +kernel
theorem dL_minute_197 : decode cL_minute 197 = .ok (.iadd, 1) := by decide +kernel
theorem dL_minute_198 : decode cL_minute 198 = .ok (.aload_n 0, 1) := by decide +kernel
theorem dL_minute_199 : decode cL_minute 199 = .ok (.iconst 4, 1) := by decide +kernel
theorem dL_minute_200 : decode cL_minute 200 = .ok (.iaload, 1) := by decide +kernel
theorem dL_minute_201 : decode cL_minute 201 = .ok (.aload_n 0, 1) := by decide +kernel
theorem dL_minute_202 : decode cL_minute 202 = .ok (.aload_n 1, 1) := by decide +kernel
theorem dL_minute_203 : decode cL_minute 203 = .ok (.iload 5, 2) := by decide +kernel
theorem dL_minute_205 : decode cL_minute 205 = .ok (.bipush 12, 2) := by decide +kernel
theorem dL_minute_207 : decode cL_minute 207 = .ok (.iadd, 1) := by decide +kernel
theorem dL_minute_208 : decode cL_minute 208 = .ok (.iaload, 1) := by decide +kernel
theorem dL_minute_209 : decode cL_minute 209 = .ok (.aload_n 1, 1) := by decide +kernel
theorem dL_minute_210 : decode cL_minute 210 = .ok (.iload 5, 2) := by decide +kernel
theorem dL_minute_212 : decode cL_minute 212 = .ok (.iconst 1, 1) := by decide +kernel
theorem dL_minute_213 : decode cL_minute 213 = .ok (.iadd, 1) := by decide +kernel
theorem dL_minute_214 : decode cL_minute 214 = .ok (.iaload, 1) := by decide +kernel
theorem dL_minute_215 : decode cL_minute 215 = .ok (.invokestatic 70, 3) := by decide +kernel
theorem dL_minute_218 : decode cL_minute 218 = .ok (.iadd, 1) := by decide +kernel
theorem dL_minute_219 : decode cL_minute 219 = .ok (.iastore, 1) := by decide +kernel
theorem dL_minute_220 : decode cL_minute 220 = .ok (.aload_n 1, 1) := by decide +kernel
theorem dL_minute_221 : decode cL_minute 221 = .ok (.iload 5, 2) := by decide +kernel
theorem dL_minute_223 : decode cL_minute 223 = .ok (.bipush 9, 2) := by decide +kernel
theorem dL_minute_225 : decode cL_minute 225 = .ok (.iadd, 1) := by decide +kernel
theorem dL_minute_226 : decode cL_minute 226 = .ok (.aload_n 1, 1) := by decide +kernel
theorem dL_minute_227 : decode cL_minute 227 = .ok (.iload 5, 2) := by decide +kernel
theorem dL_minute_229 : decode cL_minute 229 = .ok (.bipush 8, 2) := by decide +kernel
theorem dL_minute_231 : decode cL_minute 231 = .ok (.iadd, 1) := by decide +kernel
theorem dL_minute_232 : decode cL_minute 232 = .ok (.iaload, 1) := by decide +kernel
theorem dL_minute_233 : decode cL_minute 233 = .ok (.aload_n 1, 1) := by decide +kernel
theorem dL_minute_234 : decode cL_minute 234 = .ok (.iload 5, 2) := by decide +kernel
theorem dL_minute_236 : decode cL_minute 236 = .ok (.iconst 4, 1) := by decide +kernel
theorem dL_minute_237 : decode cL_minute 237 = .ok (.iadd, 1) := by decide +kernel
theorem dL_minute_238 : decode cL_minute 238 = .ok (.iaload, 1) := by decide +kernel
theorem dL_minute_239 : decode cL_minute 239 = .ok (.iadd, 1) := by decide +kernel
theorem dL_minute_240 : decode cL_minute 240 = .ok (.iastore, 1) := by decide +kernel
theorem dL_minute_241 : decode cL_minute 241 = .ok (.aload_n 1, 1) := by decide +kernel
theorem dL_minute_242 : decode cL_minute 242 = .ok (.iload 5, 2) := by decide +kernel
theorem dL_minute_244 : decode cL_minute 244 = .ok (.bipush 13, 2) := by decide +kernel
theorem dL_minute_246 : decode cL_minute 246 = .ok (.iadd, 1) := by decide +kernel
theorem dL_minute_247 : decode cL_minute 247 = .ok (.iconst 0, 1) := by decide +kernel
theorem dL_minute_248 : decode cL_minute 248 = .ok (.iastore, 1) := by decide +kernel
theorem dL_minute_249 : decode cL_minute 249 = .ok (.aload_n 0, 1) := by decide +kernel
theorem dL_minute_250 : decode cL_minute 250 = .ok (.aload_n 1, 1) := by decide +kernel
theorem dL_minute_251 : decode cL_minute 251 = .ok (.iload 4, 2) := by decide +kernel
theorem dL_minute_253 : decode cL_minute 253 = .ok (.invokestatic 63, 3) := by decide +kernel
theorem dL_minute_256 : decode cL_minute 256 = .ok (.iload_n 2, 1) := by decide +kernel
theorem dL_minute_257 : decode cL_minute 257 = .ok (.ireturn, 1) := by decide +kernel
set_option maxRecDepth 20000 in
theorem ggL_runs_L_minute : GoodIn wsL_runs wsL_minute := goodIn_r _ [4, 5, 6, 3, 7, 8, 9, 10, 11, 12, 13, 14, 15, 16, 17, 18, 19, 20, 21, 22, 23, 24, 25, 26, 27, 28, 29, 30, 31, 32, 33, 34, 35, 36, 37, 38, 39, 40, 41, 42, 43, 44, 45, 46, 47, 48, 49, 50, 51, 52, 53] (by decide +kernel) (by decide +kernel)
set_option maxRecDepth 20000 in
theorem gL_runs_L_minute : GoodIn wsL_runs (va_wsS RL 73 yL_minute wsL_minute) := goodIn_app (goodIn_of _ (by decide +kernel)) ggL_runs_L_minute
set_option maxRecDepth 20000 in
theorem ggL_runs_L_day : GoodIn wsL_runs wsL_day := goodIn_r _ [14] (by decide +kernel) (by decide +kernel)
set_option maxRecDepth 20000 in
theorem gL_runs_L_day : GoodIn wsL_runs (va_wsS RL 55 yL_day wsL_day) := goodIn_app (goodIn_of _ (by decide +kernel)) ggL_runs_L_day
set_option maxRecDepth 20000 in
theorem ggL_runs_L_under : GoodIn wsL_runs wsL_under := goodIn_r _ [7, 8] (by decide +kernel) (by decide +kernel)
set_option maxRecDepth 20000 in
theorem gL_runs_L_under : GoodIn wsL_runs (va_wsS RL 51 yL_under wsL_under) := goodIn_app (goodIn_of _ (by decide +kernel)) ggL_runs_L_under
set_option maxRecDepth 20000 in
theorem ggL_runs_L_goes : GoodIn wsL_runs wsL_goes := goodIn_r _ [53] (by decide +kernel) (by decide +kernel)
set_option maxRecDepth 20000 in
theorem gL_runs_L_goes : GoodIn wsL_runs (va_wsS RL 43 yL_goes wsL_goes) := goodIn_app (goodIn_of _ (by decide +kernel)) ggL_runs_L_goes
theorem dL_runs_0 : decode cL_runs 0 = .ok (.aload_n 0, 1) := by decide +kernel
theorem dL_runs_1 : decode cL_runs 1 = .ok (.aload_n 1, 1) := by decide +kernel
theorem dL_runs_2 : decode cL_runs 2 = .ok (.invokestatic 73, 3) := by decide +kernel
theorem dL_runs_5 : decode cL_runs 5 = .ok (.istore_n 3, 1) := by decide +kernel
theorem dL_runs_6 : decode cL_runs 6 = .ok (.iconst 0, 1) := by decide +kernel
theorem dL_runs_7 : decode cL_runs 7 = .ok (.istore 4, 2) := by decide +kernel
theorem dL_runs_9 : decode cL_runs 9 = .ok (.iload 4, 2) := by decide +kernel
theorem dL_runs_11 : decode cL_runs 11 = .ok (.iload_n 2, 1) := by decide +kernel
theorem dL_runs_12 : decode cL_runs 12 = .ok (.if_icmp .ge 94, 3) := by decide +kernel
theorem dL_runs_15 : decode cL_runs 15 = .ok (.aload_n 0, 1) := by decide +kernel
theorem dL_runs_16 : decode cL_runs 16 = .ok (.iconst 4, 1) := by decide +kernel
theorem dL_runs_17 : decode cL_runs 17 = .ok (.dup2, 1) := by decide +kernel
theorem dL_runs_18 : decode cL_runs 18 = .ok (.iaload, 1) := by decide +kernel
theorem dL_runs_19 : decode cL_runs 19 = .ok (.iconst 1, 1) := by decide +kernel
theorem dL_runs_20 : decode cL_runs 20 = .ok (.iadd, 1) := by decide +kernel
theorem dL_runs_21 : decode cL_runs 21 = .ok (.iastore, 1) := by decide +kernel
theorem dL_runs_22 : decode cL_runs 22 = .ok (.aload_n 0, 1) := by decide +kernel
theorem dL_runs_23 : decode cL_runs 23 = .ok (.iconst 4, 1) := by decide +kernel
theorem dL_runs_24 : decode cL_runs 24 = .ok (.iaload, 1) := by decide +kernel
theorem dL_runs_25 : decode cL_runs 25 = .ok (.sipush 1440, 3) := by decide +kernel
theorem dL_runs_28 : decode cL_runs 28 = .ok (.irem, 1) := by decide +kernel
theorem dL_runs_29 : decode cL_runs 29 = .ok (.ifCond .ne 63, 3) := by decide +kernel
theorem dL_runs_32 : decode cL_runs 32 = .ok (.aload_n 0, 1) := by decide +kernel
theorem dL_runs_33 : decode cL_runs 33 = .ok (.invokestatic 55, 3) := by decide +kernel
theorem dL_runs_36 : decode cL_runs 36 = .ok (.ifCond .ne 56, 3) := by decide +kernel
theorem dL_runs_39 : decode cL_runs 39 = .ok (.aload_n 0, 1) := by decide +kernel
theorem dL_runs_40 : decode cL_runs 40 = .ok (.aload_n 1, 1) := by decide +kernel
theorem dL_runs_41 : decode cL_runs 41 = .ok (.invokestatic 51, 3) := by decide +kernel
theorem dL_runs_44 : decode cL_runs 44 = .ok (.istore 5, 2) := by decide +kernel
theorem dL_runs_46 : decode cL_runs 46 = .ok (.iload 5, 2) := by decide +kernel
theorem dL_runs_48 : decode cL_runs 48 = .ok (.ifCond .lt 28, 3) := by decide +kernel
theorem dL_runs_51 : decode cL_runs 51 = .ok (.aload_n 1, 1) := by decide +kernel
theorem dL_runs_52 : decode cL_runs 52 = .ok (.bipush 14, 2) := by decide +kernel
theorem dL_runs_54 : decode cL_runs 54 = .ok (.iload 5, 2) := by decide +kernel
theorem dL_runs_56 : decode cL_runs 56 = .ok (.imul, 1) := by decide +kernel
theorem dL_runs_57 : decode cL_runs 57 = .ok (.bipush 6, 2) := by decide +kernel
theorem dL_runs_59 : decode cL_runs 59 = .ok (.iadd, 1) := by decide +kernel
theorem dL_runs_60 : decode cL_runs 60 = .ok (.iconst 0, 1) := by decide +kernel
theorem dL_runs_61 : decode cL_runs 61 = .ok (.iastore, 1) := by decide +kernel
theorem dL_runs_62 : decode cL_runs 62 = .ok (.aload_n 1, 1) := by decide +kernel
theorem dL_runs_63 : decode cL_runs 63 = .ok (.bipush 14, 2) := by decide +kernel
theorem dL_runs_65 : decode cL_runs 65 = .ok (.iload 5, 2) := by decide +kernel
theorem dL_runs_67 : decode cL_runs 67 = .ok (.imul, 1) := by decide +kernel
theorem dL_runs_68 : decode cL_runs 68 = .ok (.bipush 11, 2) := by decide +kernel
theorem dL_runs_70 : decode cL_runs 70 = .ok (.iadd, 1) := by decide +kernel
theorem dL_runs_71 : decode cL_runs 71 = .ok (.dup2, 1) := by decide +kernel
theorem dL_runs_72 : decode cL_runs 72 = .ok (.iaload, 1) := by decide +kernel
theorem dL_runs_73 : decode cL_runs 73 = .ok (.iconst 1, 1) := by decide +kernel
theorem dL_runs_74 : decode cL_runs 74 = .ok (.iadd, 1) := by decide +kernel
theorem dL_runs_75 : decode cL_runs 75 = .ok (.iastore, 1) := by decide +kernel
theorem dL_runs_76 : decode cL_runs 76 = .ok (.aload_n 0, 1) := by decide +kernel
theorem dL_runs_77 : decode cL_runs 77 = .ok (.iconst 1, 1) := by decide +kernel
theorem dL_runs_78 : decode cL_runs 78 = .ok (.sipush 9000, 3) := by decide +kernel
theorem dL_runs_81 : decode cL_runs 81 = .ok (.invokestatic 43, 3) := by decide +kernel
theorem dL_runs_84 : decode cL_runs 84 = .ok (.aload_n 0, 1) := by decide +kernel
theorem dL_runs_85 : decode cL_runs 85 = .ok (.bipush 6, 2) := by decide +kernel
theorem dL_runs_87 : decode cL_runs 87 = .ok (.dup2, 1) := by decide +kernel
theorem dL_runs_88 : decode cL_runs 88 = .ok (.iaload, 1) := by decide +kernel
theorem dL_runs_89 : decode cL_runs 89 = .ok (.iconst 1, 1) := by decide +kernel
theorem dL_runs_90 : decode cL_runs 90 = .ok (.iadd, 1) := by decide +kernel
theorem dL_runs_91 : decode cL_runs 91 = .ok (.iastore, 1) := by decide +kernel
theorem dL_runs_92 : decode cL_runs 92 = .ok (.iload_n 3, 1) := by decide +kernel
theorem dL_runs_93 : decode cL_runs 93 = .ok (.aload_n 0, 1) := by decide +kernel
theorem dL_runs_94 : decode cL_runs 94 = .ok (.aload_n 1, 1) := by decide +kernel
theorem dL_runs_95 : decode cL_runs 95 = .ok (.invokestatic 73, 3) := by decide +kernel
theorem dL_runs_98 : decode cL_runs 98 = .ok (.iadd, 1) := by decide +kernel
theorem dL_runs_99 : decode cL_runs 99 = .ok (.istore_n 3, 1) := by decide +kernel
theorem dL_runs_100 : decode cL_runs 100 = .ok (.iinc 4 1, 3) := by decide +kernel
theorem dL_runs_103 : decode cL_runs 103 = .ok (.goto (-94), 3) := by decide +kernel
theorem dL_runs_106 : decode cL_runs 106 = .ok (.iload_n 3, 1) := by decide +kernel
theorem dL_runs_107 : decode cL_runs 107 = .ok (.ireturn, 1) := by decide +kernel
theorem dL_begins_0 : decode cL_begins 0 = .ok (.aload_n 0, 1) := by decide +kernel
theorem dL_begins_1 : decode cL_begins 1 = .ok (.iconst 0, 1) := by decide +kernel
theorem dL_begins_2 : decode cL_begins 2 = .ok (.bipush 100, 2) := by decide +kernel
theorem dL_begins_4 : decode cL_begins 4 = .ok (.iastore, 1) := by decide +kernel
theorem dL_begins_5 : decode cL_begins 5 = .ok (.aload_n 0, 1) := by decide +kernel
theorem dL_begins_6 : decode cL_begins 6 = .ok (.iconst 1, 1) := by decide +kernel
theorem dL_begins_7 : decode cL_begins 7 = .ok (.sipush 18000, 3) := by decide +kernel
theorem dL_begins_10 : decode cL_begins 10 = .ok (.iastore, 1) := by decide +kernel
theorem dL_begins_11 : decode cL_begins 11 = .ok (.aload_n 0, 1) := by decide +kernel
theorem dL_begins_12 : decode cL_begins 12 = .ok (.iconst 2, 1) := by decide +kernel
theorem dL_begins_13 : decode cL_begins 13 = .ok (.bipush 30, 2) := by decide +kernel
theorem dL_begins_15 : decode cL_begins 15 = .ok (.iastore, 1) := by decide +kernel
theorem dL_begins_16 : decode cL_begins 16 = .ok (.aload_n 0, 1) := by decide +kernel
theorem dL_begins_17 : decode cL_begins 17 = .ok (.iconst 3, 1) := by decide +kernel
theorem dL_begins_18 : decode cL_begins 18 = .ok (.bipush 60, 2) := by decide +kernel
theorem dL_begins_20 : decode cL_begins 20 = .ok (.iastore, 1) := by decide +kernel
theorem dL_begins_21 : decode cL_begins 21 = .ok (.aload_n 0, 1) := by decide +kernel
theorem dL_begins_22 : decode cL_begins 22 = .ok (.bipush 8, 2) := by decide +kernel
theorem dL_begins_24 : decode cL_begins 24 = .ok (.bipush 40, 2) := by decide +kernel
theorem dL_begins_26 : decode cL_begins 26 = .ok (.iastore, 1) := by decide +kernel
theorem dL_begins_27 : decode cL_begins 27 = .ok (.aload_n 0, 1) := by decide +kernel
theorem dL_begins_28 : decode cL_begins 28 = .ok (.bipush 10, 2) := by decide +kernel
theorem dL_begins_30 : decode cL_begins 30 = .ok (.sipush 600, 3) := by decide +kernel
theorem dL_begins_33 : decode cL_begins 33 = .ok (.iastore, 1) := by decide +kernel
theorem dL_begins_34 : decode cL_begins 34 = .ok (.aload_n 0, 1) := by decide +kernel
theorem dL_begins_35 : decode cL_begins 35 = .ok (.bipush 15, 2) := by decide +kernel
theorem dL_begins_37 : decode cL_begins 37 = .ok (.bipush 20, 2) := by decide +kernel
theorem dL_begins_39 : decode cL_begins 39 = .ok (.iastore, 1) := by decide +kernel
theorem dL_begins_40 : decode cL_begins 40 = .ok (.aload_n 0, 1) := by decide +kernel
theorem dL_begins_41 : decode cL_begins 41 = .ok (.bipush 17, 2) := by decide +kernel
theorem dL_begins_43 : decode cL_begins 43 = .ok (.sipush 300, 3) := by decide +kernel
theorem dL_begins_46 : decode cL_begins 46 = .ok (.iastore, 1) := by decide +kernel
theorem dL_begins_47 : decode cL_begins 47 = .ok (.aload_n 0, 1) := by decide +kernel
theorem dL_begins_48 : decode cL_begins 48 = .ok (.bipush 18, 2) := by decide +kernel
theorem dL_begins_50 : decode cL_begins 50 = .ok (.sipush 9000, 3) := by decide +kernel
theorem dL_begins_53 : decode cL_begins 53 = .ok (.iastore, 1) := by decide +kernel
theorem dL_begins_54 : decode cL_begins 54 = .ok (.return_, 1) := by decide +kernel

theorem dL_bounds_384 : decode cL_bounds 384 = .ok (.ireturn, 1) := by decide +kernel
set_option maxRecDepth 20000 in
theorem ggL_wants_X8_pointCount : GoodIn wsL_wants wsX8_pointCount := goodIn_r _ [6, 7, 8, 9, 10, 11, 12, 13, 268, 269, 270, 271, 272, 273, 274, 275, 276, 277, 278, 279, 280, 281] (by decide +kernel) (by decide +kernel)
set_option maxRecDepth 20000 in
theorem gL_wants_X8_pointCount : GoodIn wsL_wants (wsV RL 107 RX8 yX8_pointCount wsX8_pointCount) := goodIn_app (goodIn_of _ (by decide +kernel)) ggL_wants_X8_pointCount
set_option maxRecDepth 20000 in
theorem ggL_wants_L_bucketsFor : GoodIn wsL_wants wsL_bucketsFor := goodIn_ca (goodIn_ca (goodIn_r _ [17, 18, 19, 20, 21, 22, 5, 23, 24, 7, 25, 26, 27, 28, 29, 30, 31, 32, 33, 11, 34, 13, 35, 36, 37, 38, 39, 40, 41, 42, 43, 44, 45, 46, 47, 9, 10, 12, 48, 49, 50, 51, 52, 53, 54, 55, 56, 57, 58, 59, 60, 61, 62, 63, 64, 65, 66, 67, 68, 268, 269, 270, 271, 272, 273, 274, 275, 276, 277, 278, 279, 280, 281, 282, 283, 284, 285, 286, 287, 288, 289] (by decide +kernel) (by decide +kernel)) (goodIn_sub (fun _ h => List.mem_cons_of_mem _ (List.mem_append_left _ (List.mem_append_left _ (List.mem_append_right _ h)))) (by decide +kernel))) (goodIn_sub (fun _ h => List.mem_cons_of_mem _ (List.mem_append_left _ (List.mem_append_right _ h))) (by decide +kernel))
set_option maxRecDepth 20000 in
theorem gL_wants_L_bucketsFor : GoodIn wsL_wants (va_wsS RL 157 yL_bucketsFor wsL_bucketsFor) := goodIn_app (goodIn_of _ (by decide +kernel)) ggL_wants_L_bucketsFor
set_option maxRecDepth 20000 in
theorem ggL_wants_L_most : GoodIn wsL_wants wsL_most := goodIn_ca (goodIn_r _ [71, 18, 72, 73, 74, 5, 75, 24, 7, 25, 26, 27, 28, 29, 30, 31, 32, 33, 11, 34, 13, 76, 77, 78, 43, 79, 80, 41, 42, 44, 45, 46, 47, 9, 10, 12, 48, 49, 50, 51, 52, 53, 54, 55, 56, 57, 58, 59, 60, 61, 62, 63, 64, 65, 66, 67, 68, 268, 269, 270, 271, 272, 273, 274, 275, 276, 277, 278, 279, 280, 281, 282, 283, 284, 285, 286, 287, 288, 289] (by decide +kernel) (by decide +kernel)) (goodIn_sub (fun _ h => List.mem_cons_of_mem _ (List.mem_append_left _ (List.mem_append_left _ (List.mem_append_right _ h)))) (by decide +kernel))
set_option maxRecDepth 20000 in
theorem gL_wants_L_most : GoodIn wsL_wants (va_wsS RL 159 yL_most wsL_most) := goodIn_app (goodIn_of _ (by decide +kernel)) ggL_wants_L_most
set_option maxRecDepth 20000 in
theorem ggL_wants_L_ready : GoodIn wsL_wants wsL_ready := goodIn_ca (goodIn_r _ [83, 18, 84, 85, 86, 5, 87, 24, 7, 25, 26, 27, 28, 29, 30, 31, 32, 33, 11, 34, 13, 88, 89, 90, 43, 91, 92, 93, 94, 95, 45, 46, 96, 97, 55, 98, 99, 100, 101, 58, 59, 60, 61, 62, 63, 64, 65, 66, 67, 68, 102, 103, 104, 105, 106, 107, 108, 268, 269, 270, 271, 272, 273, 274, 275, 276, 277, 278, 279, 280, 281, 282, 283, 284, 285, 286, 287, 288, 289] (by decide +kernel) (by decide +kernel)) (goodIn_sub (fun _ h => List.mem_cons_of_mem _ (List.mem_append_left _ (List.mem_append_left _ (List.mem_append_right _ h)))) (by decide +kernel))
set_option maxRecDepth 20000 in
theorem gL_wants_L_ready : GoodIn wsL_wants (va_wsS RL 144 yL_ready wsL_ready) := goodIn_app (goodIn_of _ (by decide +kernel)) ggL_wants_L_ready
set_option maxRecDepth 20000 in
theorem ggL_wants_L_now : GoodIn wsL_wants wsL_now := goodIn_ca (goodIn_ca (goodIn_r _ [111, 112, 113, 114, 115, 116, 117, 118, 119, 120, 121, 5, 122, 24, 123, 124, 125, 43, 126, 127, 128, 129, 130, 131, 132, 133, 134, 135, 136, 137, 138, 139, 140, 141, 142, 143, 144, 46, 2, 3, 4, 6, 7, 8, 9, 10, 11, 12, 13, 145, 146, 16, 147, 18, 148, 149, 150, 151, 25, 26, 27, 28, 29, 30, 31, 32, 33, 34, 152, 153, 154, 155, 45, 156, 157, 158, 159, 160, 161, 162, 163, 64, 65, 66, 67, 68, 164, 165, 166, 167, 168, 169, 170, 171, 172, 173, 174, 175, 176, 177, 178, 179, 180, 181, 182, 59, 60, 61, 62, 183, 184, 185, 19, 186, 187, 188, 189, 35, 36, 37, 38, 39, 190, 191, 192, 193, 194, 268, 269, 270, 271, 272, 273, 274, 275, 276, 282, 283, 284, 285, 286, 287, 288, 289, 277, 278, 279, 280, 281] (by decide +kernel) (by decide +kernel)) (goodIn_sub (fun _ h => List.mem_cons_of_mem _ (List.mem_append_left _ (List.mem_append_left _ (List.mem_append_right _ h)))) (by decide +kernel))) (goodIn_sub (fun _ h => List.mem_cons_of_mem _ (List.mem_append_left _ (List.mem_append_right _ h))) (by decide +kernel))
set_option maxRecDepth 20000 in
theorem gL_wants_L_now : GoodIn wsL_wants (va_wsS RL 223 yL_now wsL_now) := goodIn_app (goodIn_of _ (by decide +kernel)) ggL_wants_L_now
set_option maxRecDepth 20000 in
theorem ggL_wants_X8_bound : GoodIn wsL_wants wsX8_bound := goodIn_r _ [140, 24, 141, 142, 143, 43, 144, 46, 268, 269, 270, 271, 272, 273, 274, 275, 276, 282, 283, 284, 285, 286, 287, 288, 289] (by decide +kernel) (by decide +kernel)
set_option maxRecDepth 20000 in
theorem gL_wants_X8_bound : GoodIn wsL_wants (wsV RL 210 RX8 yX8_bound wsX8_bound) := goodIn_app (goodIn_of _ (by decide +kernel)) ggL_wants_X8_bound
set_option maxRecDepth 20000 in
theorem ggL_wants_L_drawn : GoodIn wsL_wants wsL_drawn := goodIn_ca (goodIn_r _ [147, 18, 148, 149, 150, 5, 151, 24, 25, 26, 27, 28, 29, 30, 7, 31, 32, 33, 11, 34, 13, 152, 153, 154, 43, 155, 45, 268, 269, 270, 271, 272, 273, 274, 275, 276, 277, 278, 279, 280, 281, 282, 283, 284, 285, 286, 287, 288, 289] (by decide +kernel) (by decide +kernel)) (goodIn_sub (fun _ h => List.mem_cons_of_mem _ (List.mem_append_left _ (List.mem_append_left _ (List.mem_append_right _ h)))) (by decide +kernel))
set_option maxRecDepth 20000 in
theorem gL_wants_L_drawn : GoodIn wsL_wants (va_wsS RL 115 yL_drawn wsL_drawn) := goodIn_app (goodIn_of _ (by decide +kernel)) ggL_wants_L_drawn
set_option maxRecDepth 20000 in
theorem ggL_wants_L_save : GoodIn wsL_wants wsL_save := goodIn_ca (goodIn_r _ [197, 18, 198, 199, 200, 5, 201, 202, 24, 203, 204, 205, 29, 30, 206, 207, 208, 209, 210, 211, 212, 213, 214, 215, 43, 216, 68, 217, 218, 219, 220, 194, 67, 45, 46, 62, 127, 136, 123, 124, 125, 126, 268, 269, 270, 271, 272, 273, 274, 275, 276, 290, 291, 282, 283, 284, 285, 286, 287, 288, 289] (by decide +kernel) (by decide +kernel)) (goodIn_sub (fun _ h => List.mem_cons_of_mem _ (List.mem_append_left _ (List.mem_append_left _ (List.mem_append_right _ h)))) (by decide +kernel))
set_option maxRecDepth 20000 in
theorem gL_wants_L_save : GoodIn wsL_wants (va_wsS RL 177 yL_save wsL_save) := goodIn_app (goodIn_of _ (by decide +kernel)) ggL_wants_L_save
set_option maxRecDepth 20000 in
theorem ggL_wants_X8_totalBuckets : GoodIn wsL_wants wsX8_totalBuckets := goodIn_r _ [122, 24, 123, 124, 125, 43, 126, 127, 268, 269, 270, 271, 272, 273, 274, 275, 276, 282, 283, 284, 285, 286, 287, 288, 289] (by decide +kernel) (by decide +kernel)
set_option maxRecDepth 20000 in
theorem gL_wants_X8_totalBuckets : GoodIn wsL_wants (wsV RL 202 RX8 yX8_totalBuckets wsX8_totalBuckets) := goodIn_app (goodIn_of _ (by decide +kernel)) ggL_wants_X8_totalBuckets
set_option maxRecDepth 20000 in
theorem ggL_wants_L_draw : GoodIn wsL_wants wsL_draw := goodIn_ca (goodIn_ca (goodIn_r _ [223, 18, 224, 225, 226, 227, 5, 228, 229, 230, 24, 7, 231, 25, 26, 27, 28, 29, 30, 31, 32, 33, 11, 34, 13, 88, 89, 90, 43, 91, 92, 93, 94, 95, 45, 46, 96, 97, 55, 98, 99, 100, 101, 58, 59, 60, 61, 62, 63, 64, 65, 66, 67, 68, 102, 103, 104, 105, 106, 107, 108, 232, 233, 234, 235, 236, 237, 238, 239, 240, 214, 215, 216, 217, 218, 219, 220, 194, 127, 136, 241, 242, 243, 244, 245, 246, 247, 248, 268, 269, 270, 271, 272, 273, 274, 275, 276, 277, 278, 279, 280, 281, 282, 283, 284, 285, 286, 287, 288, 289, 292, 293, 294] (by decide +kernel) (by decide +kernel)) (goodIn_sub (fun _ h => List.mem_cons_of_mem _ (List.mem_append_right _ h)) (by decide +kernel))) (goodIn_sub (fun _ h => List.mem_cons_of_mem _ (List.mem_append_left _ (List.mem_append_left _ (List.mem_append_right _ h)))) (by decide +kernel))
set_option maxRecDepth 20000 in
theorem gL_wants_L_draw : GoodIn wsL_wants (va_wsS RL 129 yL_draw wsL_draw) := goodIn_app (goodIn_of _ (by decide +kernel)) ggL_wants_L_draw
set_option maxRecDepth 20000 in
theorem ggL_wants_L_restore : GoodIn wsL_wants wsL_restore := goodIn_ca (goodIn_ca (goodIn_r _ [251, 18, 224, 252, 253, 254, 5, 255, 229, 230, 202, 24, 231, 203, 204, 205, 29, 30, 256, 257, 258, 209, 259, 212, 260, 261, 262, 263, 211, 213, 214, 215, 43, 216, 68, 217, 218, 219, 220, 194, 67, 45, 46, 62, 127, 136, 264, 265, 266, 235, 267, 238, 237, 123, 124, 125, 126, 268, 269, 270, 271, 272, 273, 274, 275, 276, 290, 291, 282, 283, 284, 285, 286, 287, 288, 289, 292, 293, 294] (by decide +kernel) (by decide +kernel)) (goodIn_sub (fun _ h => List.mem_cons_of_mem _ (List.mem_append_right _ h)) (by decide +kernel))) (goodIn_sub (fun _ h => List.mem_cons_of_mem _ (List.mem_append_left _ (List.mem_append_left _ (List.mem_append_right _ h)))) (by decide +kernel))
set_option maxRecDepth 20000 in
theorem gL_wants_L_restore : GoodIn wsL_wants (va_wsS RL 179 yL_restore wsL_restore) := goodIn_app (goodIn_of _ (by decide +kernel)) ggL_wants_L_restore
theorem dL_wants_0 : decode cL_wants 0 = .ok (.aload_n 0, 1) := by decide +kernel
theorem dL_wants_1 : decode cL_wants 1 = .ok (.invokevirtual 107, 3) := by decide +kernel
theorem dL_wants_4 : decode cL_wants 4 = .ok (.istore 4, 2) := by decide +kernel
theorem dL_wants_6 : decode cL_wants 6 = .ok (.aload_n 0, 1) := by decide +kernel
theorem dL_wants_7 : decode cL_wants 7 = .ok (.iload_n 1, 1) := by decide +kernel
theorem dL_wants_8 : decode cL_wants 8 = .ok (.iload_n 2, 1) := by decide +kernel
theorem dL_wants_9 : decode cL_wants 9 = .ok (.invokestatic 157, 3) := by decide +kernel
theorem dL_wants_12 : decode cL_wants 12 = .ok (.istore 5, 2) := by decide +kernel
theorem dL_wants_14 : decode cL_wants 14 = .ok (.aload_n 0, 1) := by decide +kernel
theorem dL_wants_15 : decode cL_wants 15 = .ok (.iload_n 1, 1) := by decide +kernel
theorem dL_wants_16 : decode cL_wants 16 = .ok (.invokestatic 159, 3) := by decide +kernel
theorem dL_wants_19 : decode cL_wants 19 = .ok (.istore 6, 2) := by decide +kernel
theorem dL_wants_21 : decode cL_wants 21 = .ok (.iload 5, 2) := by decide +kernel
theorem dL_wants_23 : decode cL_wants 23 = .ok (.bipush (-9), 2) := by decide +kernel
theorem dL_wants_25 : decode cL_wants 25 = .ok (.if_icmp .ne 7, 3) := by decide +kernel
theorem dL_wants_28 : decode cL_wants 28 = .ok (.iconst 1, 1) := by decide +kernel
theorem dL_wants_29 : decode cL_wants 29 = .ok (.goto 4, 3) := by decide +kernel
theorem dL_wants_32 : decode cL_wants 32 = .ok (.iconst 0, 1) := by decide +kernel
theorem dL_wants_33 : decode cL_wants 33 = .ok (.iload_n 2, 1) := by decide +kernel
theorem dL_wants_34 : decode cL_wants 34 = .ok (.iload 6, 2) := by decide +kernel
theorem dL_wants_36 : decode cL_wants 36 = .ok (.if_icmp .le 7, 3) := by decide +kernel
theorem dL_wants_39 : decode cL_wants 39 = .ok (.iconst 1, 1) := by decide +kernel
theorem dL_wants_40 : decode cL_wants 40 = .ok (.goto 4, 3) := by decide +kernel
theorem dL_wants_43 : decode cL_wants 43 = .ok (.iconst 0, 1) := by decide +kernel
theorem dL_wants_44 : decode cL_wants 44 = .ok (.if_icmp .ne 40, 3) := by decide +kernel
theorem dL_wants_47 : decode cL_wants 47 = .ok (.iload_n 2, 1) := by decide +kernel
theorem dL_wants_48 : decode cL_wants 48 = .ok (.iconst 1, 1) := by decide +kernel
theorem dL_wants_49 : decode cL_wants 49 = .ok (.if_icmp .ne 31, 3) := by decide +kernel
theorem dL_wants_52 : decode cL_wants 52 = .ok (.iload 5, 2) := by decide +kernel
theorem dL_wants_54 : decode cL_wants 54 = .ok (.iconst 1, 1) := by decide +kernel
theorem dL_wants_55 : decode cL_wants 55 = .ok (.if_icmp .ne 7, 3) := by decide +kernel
theorem dL_wants_58 : decode cL_wants 58 = .ok (.iconst 1, 1) := by decide +kernel
theorem dL_wants_59 : decode cL_wants 59 = .ok (.goto 4, 3) := by decide +kernel
theorem dL_wants_62 : decode cL_wants 62 = .ok (.iconst 0, 1) := by decide +kernel
theorem dL_wants_63 : decode cL_wants 63 = .ok (.aload_n 0, 1) := by decide +kernel
theorem dL_wants_64 : decode cL_wants 64 = .ok (.iload_n 1, 1) := by decide +kernel
theorem dL_wants_65 : decode cL_wants 65 = .ok (.invokestatic 144, 3) := by decide +kernel
theorem dL_wants_68 : decode cL_wants 68 = .ok (.iconst 1, 1) := by decide +kernel
theorem dL_wants_69 : decode cL_wants 69 = .ok (.if_icmp .ne 7, 3) := by decide +kernel
theorem dL_wants_72 : decode cL_wants 72 = .ok (.iconst 1, 1) := by decide +kernel
theorem dL_wants_73 : decode cL_wants 73 = .ok (.goto 4, 3) := by decide +kernel
theorem dL_wants_76 : decode cL_wants 76 = .ok (.iconst 0, 1) := by decide +kernel
theorem dL_wants_77 : decode cL_wants 77 = .ok (.if_icmp .ne 7, 3) := by decide +kernel
theorem dL_wants_80 : decode cL_wants 80 = .ok (.iconst 1, 1) := by decide +kernel
theorem dL_wants_81 : decode cL_wants 81 = .ok (.goto 4, 3) := by decide +kernel
theorem dL_wants_84 : decode cL_wants 84 = .ok (.iconst 0, 1) := by decide +kernel
theorem dL_wants_85 : decode cL_wants 85 = .ok (.istore 7, 2) := by decide +kernel
theorem dL_wants_87 : decode cL_wants 87 = .ok (.iload 7, 2) := by decide +kernel
theorem dL_wants_89 : decode cL_wants 89 = .ok (.ifCond .eq 16, 3) := by decide +kernel
theorem dL_wants_92 : decode cL_wants 92 = .ok (.iload 5, 2) := by decide +kernel
theorem dL_wants_94 : decode cL_wants 94 = .ok (.bipush (-9), 2) := by decide +kernel
theorem dL_wants_96 : decode cL_wants 96 = .ok (.if_icmp .eq 9, 3) := by decide +kernel
theorem dL_wants_99 : decode cL_wants 99 = .ok (.iload_n 2, 1) := by decide +kernel
theorem dL_wants_100 : decode cL_wants 100 = .ok (.bipush 8, 2) := by decide +kernel
theorem dL_wants_102 : decode cL_wants 102 = .ok (.if_icmp .le 6, 3) := by decide +kernel
theorem dL_wants_105 : decode cL_wants 105 = .ok (.iload 7, 2) := by decide +kernel
theorem dL_wants_107 : decode cL_wants 107 = .ok (.ireturn, 1) := by decide +kernel
theorem dL_wants_108 : decode cL_wants 108 = .ok (.aload_n 0, 1) := by decide +kernel
theorem dL_wants_109 : decode cL_wants 109 = .ok (.invokestatic 223, 3) := by decide +kernel
theorem dL_wants_112 : decode cL_wants 112 = .ok (.lstore 8, 2) := by decide +kernel
theorem dL_wants_114 : decode cL_wants 114 = .ok (.aload_n 0, 1) := by decide +kernel
theorem dL_wants_115 : decode cL_wants 115 = .ok (.invokevirtual 210, 3) := by decide +kernel
theorem dL_wants_118 : decode cL_wants 118 = .ok (.istore 10, 2) := by decide +kernel
theorem dL_wants_120 : decode cL_wants 120 = .ok (.bipush 16, 2) := by decide +kernel
theorem dL_wants_122 : decode cL_wants 122 = .ok (.newarray .int, 2) := by decide +kernel
theorem dL_wants_124 : decode cL_wants 124 = .ok (.astore 11, 2) := by decide +kernel
theorem dL_wants_126 : decode cL_wants 126 = .ok (.iconst 0, 1) := by decide +kernel
theorem dL_wants_127 : decode cL_wants 127 = .ok (.istore 12, 2) := by decide +kernel
theorem dL_wants_129 : decode cL_wants 129 = .ok (.iload 12, 2) := by decide +kernel
theorem dL_wants_131 : decode cL_wants 131 = .ok (.iload 4, 2) := by decide +kernel
theorem dL_wants_133 : decode cL_wants 133 = .ok (.if_icmp .ge 100, 3) := by decide +kernel
theorem dL_wants_136 : decode cL_wants 136 = .ok (.iload 12, 2) := by decide +kernel
theorem dL_wants_138 : decode cL_wants 138 = .ok (.iload_n 3, 1) := by decide +kernel
theorem dL_wants_139 : decode cL_wants 139 = .ok (.idiv, 1) := by decide +kernel
theorem dL_wants_140 : decode cL_wants 140 = .ok (.iload_n 1, 1) := by decide +kernel
theorem dL_wants_141 : decode cL_wants 141 = .ok (.iload_n 3, 1) := by decide +kernel
theorem dL_wants_142 : decode cL_wants 142 = .ok (.idiv, 1) := by decide +kernel
theorem dL_wants_143 : decode cL_wants 143 = .ok (.isub, 1) := by decide +kernel
theorem dL_wants_144 : decode cL_wants 144 = .ok (.istore 13, 2) := by decide +kernel
theorem dL_wants_146 : decode cL_wants 146 = .ok (.iload 12, 2) := by decide +kernel
theorem dL_wants_148 : decode cL_wants 148 = .ok (.iload_n 3, 1) := by decide +kernel
theorem dL_wants_149 : decode cL_wants 149 = .ok (.irem, 1) := by decide +kernel
theorem dL_wants_150 : decode cL_wants 150 = .ok (.iload_n 1, 1) := by decide +kernel
theorem dL_wants_151 : decode cL_wants 151 = .ok (.iload_n 3, 1) := by decide +kernel
theorem dL_wants_152 : decode cL_wants 152 = .ok (.irem, 1) := by decide +kernel
theorem dL_wants_153 : decode cL_wants 153 = .ok (.isub, 1) := by decide +kernel
theorem dL_wants_154 : decode cL_wants 154 = .ok (.istore 14, 2) := by decide +kernel
theorem dL_wants_156 : decode cL_wants 156 = .ok (.iload 13, 2) := by decide +kernel
theorem dL_wants_158 : decode cL_wants 158 = .ok (.ifCond .ge 9, 3) := by decide +kernel
theorem dL_wants_161 : decode cL_wants 161 = .ok (.iload 13, 2) := by decide +kernel
theorem dL_wants_163 : decode cL_wants 163 = .ok (.ineg, 1) := by decide +kernel
theorem dL_wants_164 : decode cL_wants 164 = .ok (.goto 5, 3) := by decide +kernel
theorem dL_wants_167 : decode cL_wants 167 = .ok (.iload 13, 2) := by decide +kernel
theorem dL_wants_169 : decode cL_wants 169 = .ok (.iload 14, 2) := by decide +kernel
theorem dL_wants_171 : decode cL_wants 171 = .ok (.ifCond .ge 9, 3) := by decide +kernel
theorem dL_wants_174 : decode cL_wants 174 = .ok (.iload 14, 2) := by decide +kernel
theorem dL_wants_176 : decode cL_wants 176 = .ok (.ineg, 1) := by decide +kernel
theorem dL_wants_177 : decode cL_wants 177 = .ok (.goto 5, 3) := by decide +kernel
theorem dL_wants_180 : decode cL_wants 180 = .ok (.iload 14, 2) := by decide +kernel
theorem dL_wants_182 : decode cL_wants 182 = .ok (.iadd, 1) := by decide +kernel
theorem dL_wants_183 : decode cL_wants 183 = .ok (.istore 15, 2) := by decide +kernel
theorem dL_wants_185 : decode cL_wants 185 = .ok (.aload_n 0, 1) := by decide +kernel
theorem dL_wants_186 : decode cL_wants 186 = .ok (.iload_n 1, 1) := by decide +kernel
theorem dL_wants_187 : decode cL_wants 187 = .ok (.invokestatic 115, 3) := by decide +kernel
theorem dL_wants_190 : decode cL_wants 190 = .ok (.iload_n 2, 1) := by decide +kernel
theorem dL_wants_191 : decode cL_wants 191 = .ok (.iadd, 1) := by decide +kernel
theorem dL_wants_192 : decode cL_wants 192 = .ok (.iload 10, 2) := by decide +kernel
theorem dL_wants_194 : decode cL_wants 194 = .ok (.iload 15, 2) := by decide +kernel
theorem dL_wants_196 : decode cL_wants 196 = .ok (.imul, 1) := by decide +kernel
theorem dL_wants_197 : decode cL_wants 197 = .ok (.isub, 1) := by decide +kernel
theorem dL_wants_198 : decode cL_wants 198 = .ok (.istore 16, 2) := by decide +kernel
theorem dL_wants_200 : decode cL_wants 200 = .ok (.aload 11, 2) := by decide +kernel
theorem dL_wants_202 : decode cL_wants 202 = .ok (.iload 12, 2) := by decide +kernel
theorem dL_wants_204 : decode cL_wants 204 = .ok (.iload 16, 2) := by decide +kernel
theorem dL_wants_206 : decode cL_wants 206 = .ok (.aload_n 0, 1) := by decide +kernel
theorem dL_wants_207 : decode cL_wants 207 = .ok (.iload 12, 2) := by decide +kernel
theorem dL_wants_209 : decode cL_wants 209 = .ok (.invokestatic 115, 3) := by decide +kernel
theorem dL_wants_212 : decode cL_wants 212 = .ok (.if_icmp .le 8, 3) := by decide +kernel
theorem dL_wants_215 : decode cL_wants 215 = .ok (.iload 16, 2) := by decide +kernel
theorem dL_wants_217 : decode cL_wants 217 = .ok (.goto 9, 3) := by decide +kernel
theorem dL_wants_220 : decode cL_wants 220 = .ok (.aload_n 0, 1) := by decide +kernel
theorem dL_wants_221 : decode cL_wants 221 = .ok (.iload 12, 2) := by decide +kernel
theorem dL_wants_223 : decode cL_wants 223 = .ok (.invokestatic 115, 3) := by decide +kernel
theorem dL_wants_226 : decode cL_wants 226 = .ok (.iastore, 1) := by decide +kernel
theorem dL_wants_227 : decode cL_wants 227 = .ok (.iinc 12 1, 3) := by decide +kernel
theorem dL_wants_230 : decode cL_wants 230 = .ok (.goto (-101), 3) := by decide +kernel
theorem dL_wants_233 : decode cL_wants 233 = .ok (.aload_n 0, 1) := by decide +kernel
theorem dL_wants_234 : decode cL_wants 234 = .ok (.iconst 1, 1) := by decide +kernel
theorem dL_wants_235 : decode cL_wants 235 = .ok (.invokestatic 177, 3) := by decide +kernel
theorem dL_wants_238 : decode cL_wants 238 = .ok (.aload_n 0, 1) := by decide +kernel
theorem dL_wants_239 : decode cL_wants 239 = .ok (.invokevirtual 202, 3) := by decide +kernel
theorem dL_wants_242 : decode cL_wants 242 = .ok (.if_icmp .ne 7, 3) := by decide +kernel
theorem dL_wants_245 : decode cL_wants 245 = .ok (.iconst 1, 1) := by decide +kernel
theorem dL_wants_246 : decode cL_wants 246 = .ok (.goto 4, 3) := by decide +kernel
theorem dL_wants_249 : decode cL_wants 249 = .ok (.iconst 0, 1) := by decide +kernel
theorem dL_wants_250 : decode cL_wants 250 = .ok (.istore 7, 2) := by decide +kernel
theorem dL_wants_252 : decode cL_wants 252 = .ok (.iconst 0, 1) := by decide +kernel
theorem dL_wants_253 : decode cL_wants 253 = .ok (.istore 12, 2) := by decide +kernel
theorem dL_wants_255 : decode cL_wants 255 = .ok (.aload_n 0, 1) := by decide +kernel
theorem dL_wants_256 : decode cL_wants 256 = .ok (.invokevirtual 202, 3) := by decide +kernel
theorem dL_wants_259 : decode cL_wants 259 = .ok (.istore 13, 2) := by decide +kernel
theorem dL_wants_261 : decode cL_wants 261 = .ok (.iload 7, 2) := by decide +kernel
theorem dL_wants_263 : decode cL_wants 263 = .ok (.ifCond .eq 104, 3) := by decide +kernel
theorem dL_wants_266 : decode cL_wants 266 = .ok (.iload 12, 2) := by decide +kernel
theorem dL_wants_268 : decode cL_wants 268 = .ok (.iload 5, 2) := by decide +kernel
theorem dL_wants_270 : decode cL_wants 270 = .ok (.if_icmp .ge 97, 3) := by decide +kernel
theorem dL_wants_273 : decode cL_wants 273 = .ok (.bipush (-9), 2) := by decide +kernel
theorem dL_wants_275 : decode cL_wants 275 = .ok (.istore 14, 2) := by decide +kernel
theorem dL_wants_277 : decode cL_wants 277 = .ok (.iconst 0, 1) := by decide +kernel
theorem dL_wants_278 : decode cL_wants 278 = .ok (.istore 15, 2) := by decide +kernel
theorem dL_wants_280 : decode cL_wants 280 = .ok (.iload 15, 2) := by decide +kernel
theorem dL_wants_282 : decode cL_wants 282 = .ok (.iload 4, 2) := by decide +kernel
theorem dL_wants_284 : decode cL_wants 284 = .ok (.if_icmp .ge 54, 3) := by decide +kernel
theorem dL_wants_287 : decode cL_wants 287 = .ok (.aload_n 0, 1) := by decide +kernel
theorem dL_wants_288 : decode cL_wants 288 = .ok (.iload 15, 2) := by decide +kernel
theorem dL_wants_290 : decode cL_wants 290 = .ok (.invokestatic 115, 3) := by decide +kernel
theorem dL_wants_293 : decode cL_wants 293 = .ok (.aload 11, 2) := by decide +kernel
theorem dL_wants_295 : decode cL_wants 295 = .ok (.iload 15, 2) := by decide +kernel
theorem dL_wants_297 : decode cL_wants 297 = .ok (.iaload, 1) := by decide +kernel
theorem dL_wants_298 : decode cL_wants 298 = .ok (.if_icmp .ge 30, 3) := by decide +kernel
theorem dL_wants_301 : decode cL_wants 301 = .ok (.iload 14, 2) := by decide +kernel
theorem dL_wants_303 : decode cL_wants 303 = .ok (.bipush (-9), 2) := by decide +kernel
theorem dL_wants_305 : decode cL_wants 305 = .ok (.if_icmp .eq 18, 3) := by decide +kernel
theorem dL_wants_308 : decode cL_wants 308 = .ok (.aload_n 0, 1) := by decide +kernel
theorem dL_wants_309 : decode cL_wants 309 = .ok (.iload 15, 2) := by decide +kernel
theorem dL_wants_311 : decode cL_wants 311 = .ok (.invokestatic 115, 3) := by decide +kernel
theorem dL_wants_314 : decode cL_wants 314 = .ok (.aload_n 0, 1) := by decide +kernel
theorem dL_wants_315 : decode cL_wants 315 = .ok (.iload 14, 2) := by decide +kernel
theorem dL_wants_317 : decode cL_wants 317 = .ok (.invokestatic 115, 3) := by decide +kernel
theorem dL_wants_320 : decode cL_wants 320 = .ok (.if_icmp .ge 8, 3) := by decide +kernel
theorem dL_wants_323 : decode cL_wants 323 = .ok (.iload 15, 2) := by decide +kernel
theorem dL_wants_325 : decode cL_wants 325 = .ok (.goto 5, 3) := by decide +kernel
theorem dL_wants_328 : decode cL_wants 328 = .ok (.iload 14, 2) := by decide +kernel
theorem dL_wants_330 : decode cL_wants 330 = .ok (.istore 14, 2) := by decide +kernel
theorem dL_wants_332 : decode cL_wants 332 = .ok (.iinc 15 1, 3) := by decide +kernel
theorem dL_wants_335 : decode cL_wants 335 = .ok (.goto (-55), 3) := by decide +kernel
theorem dL_wants_338 : decode cL_wants 338 = .ok (.iload 14, 2) := by decide +kernel
theorem dL_wants_340 : decode cL_wants 340 = .ok (.bipush (-9), 2) := by decide +kernel
theorem dL_wants_342 : decode cL_wants 342 = .ok (.if_icmp .eq 16, 3) := by decide +kernel
theorem dL_wants_345 : decode cL_wants 345 = .ok (.aload_n 0, 1) := by decide +kernel
theorem dL_wants_346 : decode cL_wants 346 = .ok (.iload 14, 2) := by decide +kernel
theorem dL_wants_348 : decode cL_wants 348 = .ok (.invokestatic 129, 3) := by decide +kernel
theorem dL_wants_351 : decode cL_wants 351 = .ok (.ifCond .lt 7, 3) := by decide +kernel
theorem dL_wants_354 : decode cL_wants 354 = .ok (.iconst 1, 1) := by decide +kernel
theorem dL_wants_355 : decode cL_wants 355 = .ok (.goto 4, 3) := by decide +kernel
theorem dL_wants_358 : decode cL_wants 358 = .ok (.iconst 0, 1) := by decide +kernel
theorem dL_wants_359 : decode cL_wants 359 = .ok (.istore 7, 2) := by decide +kernel
theorem dL_wants_361 : decode cL_wants 361 = .ok (.iinc 12 1, 3) := by decide +kernel
theorem dL_wants_364 : decode cL_wants 364 = .ok (.goto (-103), 3) := by decide +kernel
theorem dL_wants_367 : decode cL_wants 367 = .ok (.iconst 0, 1) := by decide +kernel
theorem dL_wants_368 : decode cL_wants 368 = .ok (.istore 14, 2) := by decide +kernel
theorem dL_wants_370 : decode cL_wants 370 = .ok (.iload 14, 2) := by decide +kernel
theorem dL_wants_372 : decode cL_wants 372 = .ok (.iload 4, 2) := by decide +kernel
theorem dL_wants_374 : decode cL_wants 374 = .ok (.if_icmp .ge 35, 3) := by decide +kernel
theorem dL_wants_377 : decode cL_wants 377 = .ok (.iload 7, 2) := by decide +kernel
theorem dL_wants_379 : decode cL_wants 379 = .ok (.ifCond .eq 21, 3) := by decide +kernel
theorem dL_wants_382 : decode cL_wants 382 = .ok (.aload_n 0, 1) := by decide +kernel
theorem dL_wants_383 : decode cL_wants 383 = .ok (.iload 14, 2) := by decide +kernel
theorem dL_wants_385 : decode cL_wants 385 = .ok (.invokestatic 115, 3) := by decide +kernel
theorem dL_wants_388 : decode cL_wants 388 = .ok (.aload 11, 2) := by decide +kernel
theorem dL_wants_390 : decode cL_wants 390 = .ok (.iload 14, 2) := by decide +kernel
theorem dL_wants_392 : decode cL_wants 392 = .ok (.iaload, 1) := by decide +kernel
theorem dL_wants_393 : decode cL_wants 393 = .ok (.if_icmp .ne 7, 3) := by decide +kernel
theorem dL_wants_396 : decode cL_wants 396 = .ok (.iconst 1, 1) := by decide +kernel
theorem dL_wants_397 : decode cL_wants 397 = .ok (.goto 4, 3) := by decide +kernel
theorem dL_wants_400 : decode cL_wants 400 = .ok (.iconst 0, 1) := by decide +kernel
theorem dL_wants_401 : decode cL_wants 401 = .ok (.istore 7, 2) := by decide +kernel
theorem dL_wants_403 : decode cL_wants 403 = .ok (.iinc 14 1, 3) := by decide +kernel
theorem dL_wants_406 : decode cL_wants 406 = .ok (.goto (-36), 3) := by decide +kernel
theorem dL_wants_409 : decode cL_wants 409 = .ok (.iload 7, 2) := by decide +kernel
theorem dL_wants_411 : decode cL_wants 411 = .ok (.ifCond .eq 39, 3) := by decide +kernel
theorem dL_wants_414 : decode cL_wants 414 = .ok (.aload_n 0, 1) := by decide +kernel
theorem dL_wants_415 : decode cL_wants 415 = .ok (.invokevirtual 202, 3) := by decide +kernel
theorem dL_wants_418 : decode cL_wants 418 = .ok (.iload 13, 2) := by decide +kernel
theorem dL_wants_420 : decode cL_wants 420 = .ok (.iload 5, 2) := by decide +kernel
theorem dL_wants_422 : decode cL_wants 422 = .ok (.iadd, 1) := by decide +kernel
theorem dL_wants_423 : decode cL_wants 423 = .ok (.if_icmp .ne 27, 3) := by decide +kernel
theorem dL_wants_426 : decode cL_wants 426 = .ok (.aload_n 0, 1) := by decide +kernel
theorem dL_wants_427 : decode cL_wants 427 = .ok (.iconst 1, 1) := by decide +kernel
theorem dL_wants_428 : decode cL_wants 428 = .ok (.invokestatic 179, 3) := by decide +kernel
theorem dL_wants_431 : decode cL_wants 431 = .ok (.iload 13, 2) := by decide +kernel
theorem dL_wants_433 : decode cL_wants 433 = .ok (.if_icmp .ne 17, 3) := by decide +kernel
theorem dL_wants_436 : decode cL_wants 436 = .ok (.aload_n 0, 1) := by decide +kernel
theorem dL_wants_437 : decode cL_wants 437 = .ok (.invokestatic 223, 3) := by decide +kernel
theorem dL_wants_440 : decode cL_wants 440 = .ok (.lload 8, 2) := by decide +kernel
theorem dL_wants_442 : decode cL_wants 442 = .ok (.lcmp, 1) := by decide +kernel
theorem dL_wants_443 : decode cL_wants 443 = .ok (.ifCond .ne 7, 3) := by decide +kernel
theorem dL_wants_446 : decode cL_wants 446 = .ok (.iconst 1, 1) := by decide +kernel
theorem dL_wants_447 : decode cL_wants 447 = .ok (.goto 4, 3) := by decide +kernel
theorem dL_wants_450 : decode cL_wants 450 = .ok (.iconst 0, 1) := by decide +kernel
theorem dL_wants_451 : decode cL_wants 451 = .ok (.ireturn, 1) := by decide +kernel
set_option maxRecDepth 20000 in
theorem ggL_done_L_now : GoodIn wsL_done wsL_now := goodIn_ca (goodIn_ca (goodIn_r _ [7, 8, 9, 10, 11, 12, 13, 14, 15, 16, 17, 18, 19, 20, 21, 22, 23, 24, 25, 26, 27, 28, 29, 30, 31, 32, 33, 34, 35, 36, 37, 38, 39, 40, 41, 42, 43, 44, 45, 46, 47, 48, 49, 50, 51, 52, 53, 54, 55, 56, 57, 6, 58, 59, 60, 61, 62, 63, 64, 65, 66, 67, 68, 69, 70, 71, 72, 73, 74, 75, 76, 77, 78, 79, 80, 81, 82, 83, 84, 85, 86, 87, 88, 89, 90, 91, 92, 93, 94, 95, 96, 97, 98, 99, 100, 101, 102, 103, 104, 105, 106, 107, 108, 109, 110, 111, 112, 113, 114, 115, 116, 117, 118, 119, 120, 121, 122, 123, 124, 125, 126, 127, 128, 129, 130, 131, 132, 403, 404, 405, 406, 407, 408, 409, 410, 411, 412, 413, 414, 415, 416, 417, 418, 419, 420, 421, 422, 423, 424] (by decide +kernel) (by decide +kernel)) (goodIn_sub (fun _ h => List.mem_cons_of_mem _ (List.mem_append_left _ (List.mem_append_left _ (List.mem_append_right _ h)))) (by decide +kernel))) (goodIn_sub (fun _ h => List.mem_cons_of_mem _ (List.mem_append_left _ (List.mem_append_right _ h))) (by decide +kernel))
set_option maxRecDepth 20000 in
theorem gL_done_L_now : GoodIn wsL_done (va_wsS RL 223 yL_now wsL_now) := goodIn_app (goodIn_of _ (by decide +kernel)) ggL_done_L_now
set_option maxRecDepth 20000 in
theorem ggL_done_X8_totalGrade : GoodIn wsL_done wsX8_totalGrade := goodIn_r _ [30, 20, 31, 32, 33, 24, 34, 35, 403, 404, 405, 406, 407, 408, 409, 410, 411, 412, 413, 414, 415, 416, 417, 418, 419] (by decide +kernel) (by decide +kernel)
set_option maxRecDepth 20000 in
theorem gL_done_X8_totalGrade : GoodIn wsL_done (wsV RL 205 RX8 yX8_totalGrade wsX8_totalGrade) := goodIn_app (goodIn_of _ (by decide +kernel)) ggL_done_X8_totalGrade
set_option maxRecDepth 20000 in
theorem ggL_done_X8_totalBuckets : GoodIn wsL_done wsX8_totalBuckets := goodIn_r _ [19, 20, 21, 22, 23, 24, 25, 26, 403, 404, 405, 406, 407, 408, 409, 410, 411, 412, 413, 414, 415, 416, 417, 418, 419] (by decide +kernel) (by decide +kernel)
set_option maxRecDepth 20000 in
theorem gL_done_X8_totalBuckets : GoodIn wsL_done (wsV RL 202 RX8 yX8_totalBuckets wsX8_totalBuckets) := goodIn_app (goodIn_of _ (by decide +kernel)) ggL_done_X8_totalBuckets
set_option maxRecDepth 20000 in
theorem ggL_done_L_save : GoodIn wsL_done wsL_save := goodIn_ca (goodIn_r _ [135, 59, 136, 137, 138, 18, 139, 140, 20, 141, 142, 143, 68, 69, 144, 145, 146, 147, 148, 149, 150, 151, 152, 153, 24, 154, 91, 155, 156, 157, 158, 132, 90, 78, 44, 114, 26, 35, 21, 22, 23, 25, 403, 404, 405, 406, 407, 408, 409, 410, 411, 425, 426, 412, 413, 414, 415, 416, 417, 418, 419] (by decide +kernel) (by decide +kernel)) (goodIn_sub (fun _ h => List.mem_cons_of_mem _ (List.mem_append_left _ (List.mem_append_left _ (List.mem_append_right _ h)))) (by decide +kernel))
set_option maxRecDepth 20000 in
theorem gL_done_L_save : GoodIn wsL_done (va_wsS RL 177 yL_save wsL_save) := goodIn_app (goodIn_of _ (by decide +kernel)) ggL_done_L_save
set_option maxRecDepth 20000 in
theorem ggL_done_L_best : GoodIn wsL_done wsL_best := goodIn_ca (goodIn_r _ [161, 118, 162, 163, 164, 18, 165, 166, 49, 20, 123, 124, 125, 126, 127, 167, 168, 169, 170, 171, 172, 173, 174, 175, 176, 177, 178, 179, 180, 41, 42, 24, 43, 44, 181, 182, 183, 184, 185, 51, 52, 53, 54, 55, 186, 187, 188, 189, 190, 191, 192, 193, 75, 76, 77, 78, 194, 111, 112, 113, 114, 195, 129, 130, 131, 90, 91, 132, 196, 197, 198, 199, 200, 201, 202, 203, 204, 205, 206, 207, 208, 209, 210, 211, 212, 213, 156, 157, 158, 214, 215, 216, 217, 218, 219, 220, 221, 222, 223, 224, 225, 226, 227, 228, 229, 230, 231, 232, 233, 234, 235, 236, 403, 404, 405, 406, 407, 408, 409, 410, 411, 427, 428, 429, 430, 431, 432, 433, 434, 435, 412, 413, 414, 415, 416, 417, 418, 419, 420, 421, 422, 423, 424] (by decide +kernel) (by decide +kernel)) (goodIn_sub (fun _ h => List.mem_cons_of_mem _ (List.mem_append_left _ (List.mem_append_right _ h))) (by decide +kernel))
set_option maxRecDepth 20000 in
theorem gL_done_L_best : GoodIn wsL_done (va_wsS RL 162 yL_best wsL_best) := goodIn_app (goodIn_of _ (by decide +kernel)) ggL_done_L_best
set_option maxRecDepth 20000 in
theorem ggL_done_L_draw : GoodIn wsL_done wsL_draw := goodIn_ca (goodIn_ca (goodIn_r _ [239, 59, 240, 241, 242, 243, 18, 244, 245, 246, 20, 49, 247, 64, 65, 66, 67, 68, 69, 70, 71, 72, 53, 73, 55, 248, 249, 250, 24, 251, 252, 253, 254, 255, 78, 44, 256, 173, 174, 175, 257, 202, 203, 258, 111, 112, 113, 114, 259, 87, 88, 89, 90, 91, 260, 223, 224, 225, 226, 227, 228, 261, 262, 263, 264, 265, 266, 267, 268, 269, 152, 153, 154, 155, 156, 157, 158, 132, 26, 35, 270, 271, 272, 273, 274, 275, 276, 277, 403, 404, 405, 406, 407, 408, 409, 410, 411, 420, 421, 422, 423, 424, 412, 413, 414, 415, 416, 417, 418, 419, 436, 437, 438] (by decide +kernel) (by decide +kernel)) (goodIn_sub (fun _ h => List.mem_cons_of_mem _ (List.mem_append_right _ h)) (by decide +kernel))) (goodIn_sub (fun _ h => List.mem_cons_of_mem _ (List.mem_append_left _ (List.mem_append_left _ (List.mem_append_right _ h)))) (by decide +kernel))
set_option maxRecDepth 20000 in
theorem gL_done_L_draw : GoodIn wsL_done (va_wsS RL 129 yL_draw wsL_draw) := goodIn_app (goodIn_of _ (by decide +kernel)) ggL_done_L_draw
set_option maxRecDepth 20000 in
theorem ggL_done_L_grade : GoodIn wsL_done wsL_grade := goodIn_ca (goodIn_ca (goodIn_r _ [117, 59, 118, 119, 120, 121, 18, 122, 20, 64, 65, 66, 67, 68, 69, 49, 70, 71, 72, 53, 73, 55, 123, 124, 125, 126, 127, 128, 129, 130, 24, 131, 90, 91, 132, 403, 404, 405, 406, 407, 408, 409, 410, 411, 420, 421, 422, 423, 424, 412, 413, 414, 415, 416, 417, 418, 419] (by decide +kernel) (by decide +kernel)) (goodIn_sub (fun _ h => List.mem_cons_of_mem _ (List.mem_append_left _ (List.mem_append_left _ (List.mem_append_right _ h)))) (by decide +kernel))) (goodIn_sub (fun _ h => List.mem_cons_of_mem _ (List.mem_append_left _ (List.mem_append_right _ h))) (by decide +kernel))
set_option maxRecDepth 20000 in
theorem gL_done_L_grade : GoodIn wsL_done (va_wsS RL 122 yL_grade wsL_grade) := goodIn_app (goodIn_of _ (by decide +kernel)) ggL_done_L_grade
set_option maxRecDepth 20000 in
theorem ggL_done_L_undo : GoodIn wsL_done wsL_undo := goodIn_ca (goodIn_r _ [280, 240, 281, 282, 283, 18, 284, 245, 246, 247, 20, 285, 286, 287, 264, 288, 266, 289, 290, 291, 292, 268, 267, 269, 152, 153, 24, 154, 91, 155, 156, 157, 158, 132, 90, 78, 44, 114, 26, 35, 403, 404, 405, 406, 407, 408, 409, 410, 411, 436, 437, 438, 412, 413, 414, 415, 416, 417, 418, 419] (by decide +kernel) (by decide +kernel)) (goodIn_sub (fun _ h => List.mem_cons_of_mem _ (List.mem_append_right _ h)) (by decide +kernel))
set_option maxRecDepth 20000 in
theorem gL_done_L_undo : GoodIn wsL_done (va_wsS RL 198 yL_undo wsL_undo) := goodIn_app (goodIn_of _ (by decide +kernel)) ggL_done_L_undo
set_option maxRecDepth 20000 in
theorem ggL_done_L_ahead : GoodIn wsL_done wsL_ahead := goodIn_ca (goodIn_r _ [295, 118, 296, 297, 298, 18, 299, 300, 20, 49, 123, 124, 125, 126, 127, 301, 152, 153, 24, 154, 91, 155, 156, 157, 158, 132, 90, 78, 44, 114, 26, 35, 302, 303, 304, 305, 306, 307, 308, 309, 310, 51, 52, 53, 54, 55, 252, 253, 254, 255, 256, 173, 174, 175, 257, 202, 203, 258, 111, 112, 113, 259, 87, 88, 89, 260, 223, 224, 225, 226, 227, 228, 311, 129, 130, 131, 312, 271, 272, 273, 274, 275, 276, 277, 313, 403, 404, 405, 406, 407, 408, 409, 410, 411, 412, 413, 414, 415, 416, 417, 418, 419, 420, 421, 422, 423, 424] (by decide +kernel) (by decide +kernel)) (goodIn_sub (fun _ h => List.mem_cons_of_mem _ (List.mem_append_left _ (List.mem_append_right _ h))) (by decide +kernel))
set_option maxRecDepth 20000 in
theorem gL_done_L_ahead : GoodIn wsL_done (va_wsS RL 151 yL_ahead wsL_ahead) := goodIn_app (goodIn_of _ (by decide +kernel)) ggL_done_L_ahead
set_option maxRecDepth 20000 in
theorem ggL_done_L_byOrder : GoodIn wsL_done wsL_byOrder := goodIn_ca (goodIn_r _ [316, 118, 317, 318, 319, 18, 320, 247, 20, 49, 123, 124, 125, 126, 127, 261, 262, 263, 264, 265, 266, 267, 268, 269, 152, 153, 24, 154, 91, 155, 156, 157, 158, 132, 90, 78, 44, 114, 26, 35, 302, 303, 304, 305, 306, 307, 308, 309, 310, 51, 52, 53, 54, 55, 252, 253, 254, 255, 256, 173, 174, 175, 257, 202, 203, 258, 111, 112, 113, 259, 87, 88, 89, 260, 223, 224, 225, 226, 227, 228, 311, 129, 130, 131, 312, 271, 272, 273, 274, 275, 276, 277, 403, 404, 405, 406, 407, 408, 409, 410, 411, 436, 437, 438, 412, 413, 414, 415, 416, 417, 418, 419, 420, 421, 422, 423, 424] (by decide +kernel) (by decide +kernel)) (goodIn_sub (fun _ h => List.mem_cons_of_mem _ (List.mem_append_left _ (List.mem_append_right _ h))) (by decide +kernel))
set_option maxRecDepth 20000 in
theorem gL_done_L_byOrder : GoodIn wsL_done (va_wsS RL 131 yL_byOrder wsL_byOrder) := goodIn_app (goodIn_of _ (by decide +kernel)) ggL_done_L_byOrder
set_option maxRecDepth 20000 in
theorem ggL_done_L_script : GoodIn wsL_done wsL_script := goodIn_ca (goodIn_r _ [323, 118, 324, 325, 326, 18, 327, 126, 127, 328, 300, 20, 49, 123, 124, 125, 329, 330, 331, 332, 333, 334, 335, 301, 152, 153, 24, 154, 91, 155, 156, 157, 158, 132, 90, 78, 44, 114, 26, 35, 336, 337, 338, 339, 340, 341, 342, 343, 344, 345, 346, 347, 348, 349, 350, 351, 303, 304, 305, 306, 307, 308, 309, 310, 51, 52, 53, 54, 55, 252, 253, 254, 255, 256, 173, 174, 175, 257, 202, 203, 258, 111, 112, 113, 259, 87, 88, 89, 260, 223, 224, 225, 226, 227, 228, 311, 129, 130, 131, 312, 271, 272, 273, 274, 275, 276, 277, 352, 71, 72, 73, 353, 354, 355, 356, 249, 250, 251, 357, 358, 359, 360, 361, 362, 363, 364, 365, 366, 367, 403, 404, 405, 406, 407, 408, 409, 410, 411, 439, 440, 412, 413, 414, 415, 416, 417, 418, 419, 420, 421, 422, 423, 424] (by decide +kernel) (by decide +kernel)) (goodIn_sub (fun _ h => List.mem_cons_of_mem _ (List.mem_append_left _ (List.mem_append_right _ h))) (by decide +kernel))
set_option maxRecDepth 20000 in
theorem gL_done_L_script : GoodIn wsL_done (va_wsS RL 167 yL_script wsL_script) := goodIn_app (goodIn_of _ (by decide +kernel)) ggL_done_L_script
set_option maxRecDepth 20000 in
theorem ggL_done_L_drawn : GoodIn wsL_done wsL_drawn := goodIn_ca (goodIn_r _ [58, 59, 60, 61, 62, 18, 63, 20, 64, 65, 66, 67, 68, 69, 49, 70, 71, 72, 53, 73, 55, 74, 75, 76, 24, 77, 78, 403, 404, 405, 406, 407, 408, 409, 410, 411, 420, 421, 422, 423, 424, 412, 413, 414, 415, 416, 417, 418, 419] (by decide +kernel) (by decide +kernel)) (goodIn_sub (fun _ h => List.mem_cons_of_mem _ (List.mem_append_left _ (List.mem_append_left _ (List.mem_append_right _ h)))) (by decide +kernel))
set_option maxRecDepth 20000 in
theorem gL_done_L_drawn : GoodIn wsL_done (va_wsS RL 115 yL_drawn wsL_drawn) := goodIn_app (goodIn_of _ (by decide +kernel)) ggL_done_L_drawn
set_option maxRecDepth 20000 in
theorem ggL_done_L_simulate : GoodIn wsL_done wsL_simulate := goodIn_ca (goodIn_r _ [370, 118, 371, 372, 373, 374, 18, 375, 300, 20, 376, 377, 49, 123, 124, 125, 126, 127, 301, 152, 153, 24, 154, 91, 155, 156, 157, 158, 132, 90, 78, 44, 114, 26, 35, 378, 379, 380, 381, 310, 51, 52, 53, 54, 55, 382, 363, 364, 365, 383, 303, 304, 305, 306, 307, 308, 309, 252, 253, 254, 255, 256, 173, 174, 175, 257, 202, 203, 258, 111, 112, 113, 259, 87, 88, 89, 260, 223, 224, 225, 226, 227, 228, 311, 129, 130, 131, 312, 271, 272, 273, 274, 275, 276, 277, 31, 32, 33, 34, 403, 404, 405, 406, 407, 408, 409, 410, 411, 412, 413, 414, 415, 416, 417, 418, 419, 420, 421, 422, 423, 424] (by decide +kernel) (by decide +kernel)) (goodIn_sub (fun _ h => List.mem_cons_of_mem _ (List.mem_append_left _ (List.mem_append_right _ h))) (by decide +kernel))
set_option maxRecDepth 20000 in
theorem gL_done_L_simulate : GoodIn wsL_done (va_wsS RL 175 yL_simulate wsL_simulate) := goodIn_app (goodIn_of _ (by decide +kernel)) ggL_done_L_simulate
set_option maxRecDepth 20000 in
theorem ggL_done_L_restore : GoodIn wsL_done wsL_restore := goodIn_ca (goodIn_ca (goodIn_r _ [386, 59, 240, 387, 388, 389, 18, 390, 245, 246, 140, 20, 247, 141, 142, 143, 68, 69, 391, 392, 393, 147, 394, 150, 395, 396, 397, 398, 149, 151, 152, 153, 24, 154, 91, 155, 156, 157, 158, 132, 90, 78, 44, 114, 26, 35, 399, 400, 401, 264, 402, 267, 266, 21, 22, 23, 25, 403, 404, 405, 406, 407, 408, 409, 410, 411, 425, 426, 412, 413, 414, 415, 416, 417, 418, 419, 436, 437, 438] (by decide +kernel) (by decide +kernel)) (goodIn_sub (fun _ h => List.mem_cons_of_mem _ (List.mem_append_right _ h)) (by decide +kernel))) (goodIn_sub (fun _ h => List.mem_cons_of_mem _ (List.mem_append_left _ (List.mem_append_left _ (List.mem_append_right _ h)))) (by decide +kernel))
set_option maxRecDepth 20000 in
theorem gL_done_L_restore : GoodIn wsL_done (va_wsS RL 179 yL_restore wsL_restore) := goodIn_app (goodIn_of _ (by decide +kernel)) ggL_done_L_restore
theorem dL_done_0 : decode cL_done 0 = .ok (.aload_n 0, 1) := by decide +kernel
theorem dL_done_1 : decode cL_done 1 = .ok (.invokestatic 223, 3) := by decide +kernel
theorem dL_done_4 : decode cL_done 4 = .ok (.lstore_n 2, 1) := by decide +kernel
theorem dL_done_5 : decode cL_done 5 = .ok (.aload_n 0, 1) := by decide +kernel
theorem dL_done_6 : decode cL_done 6 = .ok (.invokevirtual 205, 3) := by decide +kernel
theorem dL_done_9 : decode cL_done 9 = .ok (.istore 4, 2) := by decide +kernel
theorem dL_done_11 : decode cL_done 11 = .ok (.aload_n 0, 1) := by decide +kernel
theorem dL_done_12 : decode cL_done 12 = .ok (.invokevirtual 202, 3) := by decide +kernel
theorem dL_done_15 : decode cL_done 15 = .ok (.istore 5, 2) := by decide +kernel
theorem dL_done_17 : decode cL_done 17 = .ok (.iconst 1, 1) := by decide +kernel
theorem dL_done_18 : decode cL_done 18 = .ok (.iload_n 1, 1) := by decide +kernel
theorem dL_done_19 : decode cL_done 19 = .ok (.iconst 4, 1) := by decide +kernel
theorem dL_done_20 : decode cL_done 20 = .ok (.irem, 1) := by decide +kernel
theorem dL_done_21 : decode cL_done 21 = .ok (.iadd, 1) := by decide +kernel
theorem dL_done_22 : decode cL_done 22 = .ok (.istore 6, 2) := by decide +kernel
theorem dL_done_24 : decode cL_done 24 = .ok (.aload_n 0, 1) := by decide +kernel
theorem dL_done_25 : decode cL_done 25 = .ok (.iconst 0, 1) := by decide +kernel
theorem dL_done_26 : decode cL_done 26 = .ok (.invokestatic 177, 3) := by decide +kernel
theorem dL_done_29 : decode cL_done 29 = .ok (.iload 5, 2) := by decide +kernel
theorem dL_done_31 : decode cL_done 31 = .ok (.if_icmp .ne 7, 3) := by decide +kernel
theorem dL_done_34 : decode cL_done 34 = .ok (.iconst 1, 1) := by decide +kernel
theorem dL_done_35 : decode cL_done 35 = .ok (.goto 4, 3) := by decide +kernel
theorem dL_done_38 : decode cL_done 38 = .ok (.iconst 0, 1) := by decide +kernel
theorem dL_done_39 : decode cL_done 39 = .ok (.istore 7, 2) := by decide +kernel
theorem dL_done_41 : decode cL_done 41 = .ok (.aload_n 0, 1) := by decide +kernel
theorem dL_done_42 : decode cL_done 42 = .ok (.iload 6, 2) := by decide +kernel
theorem dL_done_44 : decode cL_done 44 = .ok (.iload 6, 2) := by decide +kernel
theorem dL_done_46 : decode cL_done 46 = .ok (.invokestatic 162, 3) := by decide +kernel
theorem dL_done_49 : decode cL_done 49 = .ok (.istore 8, 2) := by decide +kernel
theorem dL_done_51 : decode cL_done 51 = .ok (.aload_n 0, 1) := by decide +kernel
theorem dL_done_52 : decode cL_done 52 = .ok (.iload 6, 2) := by decide +kernel
theorem dL_done_54 : decode cL_done 54 = .ok (.iconst 0, 1) := by decide +kernel
theorem dL_done_55 : decode cL_done 55 = .ok (.invokestatic 162, 3) := by decide +kernel
theorem dL_done_58 : decode cL_done 58 = .ok (.istore 9, 2) := by decide +kernel
theorem dL_done_60 : decode cL_done 60 = .ok (.iload 7, 2) := by decide +kernel
theorem dL_done_62 : decode cL_done 62 = .ok (.ifCond .eq 182, 3) := by decide +kernel
theorem dL_done_65 : decode cL_done 65 = .ok (.iload 8, 2) := by decide +kernel
theorem dL_done_67 : decode cL_done 67 = .ok (.bipush (-9), 2) := by decide +kernel
theorem dL_done_69 : decode cL_done 69 = .ok (.if_icmp .eq 175, 3) := by decide +kernel
theorem dL_done_72 : decode cL_done 72 = .ok (.iconst 4, 1) := by decide +kernel
theorem dL_done_73 : decode cL_done 73 = .ok (.newarray .int, 2) := by decide +kernel
theorem dL_done_75 : decode cL_done 75 = .ok (.astore 10, 2) := by decide +kernel
theorem dL_done_77 : decode cL_done 77 = .ok (.iconst 0, 1) := by decide +kernel
theorem dL_done_78 : decode cL_done 78 = .ok (.istore 11, 2) := by decide +kernel
theorem dL_done_80 : decode cL_done 80 = .ok (.iload 11, 2) := by decide +kernel
theorem dL_done_82 : decode cL_done 82 = .ok (.iload 6, 2) := by decide +kernel
theorem dL_done_84 : decode cL_done 84 = .ok (.if_icmp .ge 22, 3) := by decide +kernel
theorem dL_done_87 : decode cL_done 87 = .ok (.aload 10, 2) := by decide +kernel
theorem dL_done_89 : decode cL_done 89 = .ok (.iload 11, 2) := by decide +kernel
theorem dL_done_91 : decode cL_done 91 = .ok (.aload_n 0, 1) := by decide +kernel
theorem dL_done_92 : decode cL_done 92 = .ok (.iload 6, 2) := by decide +kernel
theorem dL_done_94 : decode cL_done 94 = .ok (.iload 11, 2) := by decide +kernel
theorem dL_done_96 : decode cL_done 96 = .ok (.invokestatic 162, 3) := by decide +kernel
theorem dL_done_99 : decode cL_done 99 = .ok (.iastore, 1) := by decide +kernel
theorem dL_done_100 : decode cL_done 100 = .ok (.iinc 11 1, 3) := by decide +kernel
theorem dL_done_103 : decode cL_done 103 = .ok (.goto (-23), 3) := by decide +kernel
theorem dL_done_106 : decode cL_done 106 = .ok (.iconst 0, 1) := by decide +kernel
theorem dL_done_107 : decode cL_done 107 = .ok (.istore 11, 2) := by decide +kernel
theorem dL_done_109 : decode cL_done 109 = .ok (.iload 11, 2) := by decide +kernel
theorem dL_done_111 : decode cL_done 111 = .ok (.iload 6, 2) := by decide +kernel
theorem dL_done_113 : decode cL_done 113 = .ok (.if_icmp .ge 33, 3) := by decide +kernel
theorem dL_done_116 : decode cL_done 116 = .ok (.iload 7, 2) := by decide +kernel
theorem dL_done_118 : decode cL_done 118 = .ok (.ifCond .eq 28, 3) := by decide +kernel
theorem dL_done_121 : decode cL_done 121 = .ok (.aload_n 0, 1) := by decide +kernel
theorem dL_done_122 : decode cL_done 122 = .ok (.aload 10, 2) := by decide +kernel
theorem dL_done_124 : decode cL_done 124 = .ok (.iload 11, 2) := by decide +kernel
theorem dL_done_126 : decode cL_done 126 = .ok (.iaload, 1) := by decide +kernel
theorem dL_done_127 : decode cL_done 127 = .ok (.invokestatic 129, 3) := by decide +kernel
theorem dL_done_130 : decode cL_done 130 = .ok (.ifCond .lt 7, 3) := by decide +kernel
theorem dL_done_133 : decode cL_done 133 = .ok (.iconst 1, 1) := by decide +kernel
theorem dL_done_134 : decode cL_done 134 = .ok (.goto 4, 3) := by decide +kernel
theorem dL_done_137 : decode cL_done 137 = .ok (.iconst 0, 1) := by decide +kernel
theorem dL_done_138 : decode cL_done 138 = .ok (.istore 7, 2) := by decide +kernel
theorem dL_done_140 : decode cL_done 140 = .ok (.iinc 11 1, 3) := by decide +kernel
theorem dL_done_143 : decode cL_done 143 = .ok (.goto (-34), 3) := by decide +kernel
theorem dL_done_146 : decode cL_done 146 = .ok (.iload 7, 2) := by decide +kernel
theorem dL_done_148 : decode cL_done 148 = .ok (.ifCond .eq 37, 3) := by decide +kernel
theorem dL_done_151 : decode cL_done 151 = .ok (.aload_n 0, 1) := by decide +kernel
theorem dL_done_152 : decode cL_done 152 = .ok (.invokevirtual 205, 3) := by decide +kernel
theorem dL_done_155 : decode cL_done 155 = .ok (.iload 4, 2) := by decide +kernel
theorem dL_done_157 : decode cL_done 157 = .ok (.iload 8, 2) := by decide +kernel
theorem dL_done_159 : decode cL_done 159 = .ok (.iadd, 1) := by decide +kernel
theorem dL_done_160 : decode cL_done 160 = .ok (.if_icmp .ne 25, 3) := by decide +kernel
theorem dL_done_163 : decode cL_done 163 = .ok (.iload 6, 2) := by decide +kernel
theorem dL_done_165 : decode cL_done 165 = .ok (.iconst 1, 1) := by decide +kernel
theorem dL_done_166 : decode cL_done 166 = .ok (.if_icmp .gt 15, 3) := by decide +kernel
theorem dL_done_169 : decode cL_done 169 = .ok (.aload_n 0, 1) := by decide +kernel
theorem dL_done_170 : decode cL_done 170 = .ok (.iload 9, 2) := by decide +kernel
theorem dL_done_172 : decode cL_done 172 = .ok (.iconst 0, 1) := by decide +kernel
theorem dL_done_173 : decode cL_done 173 = .ok (.invokestatic 122, 3) := by decide +kernel
theorem dL_done_176 : decode cL_done 176 = .ok (.bipush (-103), 2) := by decide +kernel
theorem dL_done_178 : decode cL_done 178 = .ok (.if_icmp .eq 7, 3) := by decide +kernel
theorem dL_done_181 : decode cL_done 181 = .ok (.iconst 1, 1) := by decide +kernel
theorem dL_done_182 : decode cL_done 182 = .ok (.goto 4, 3) := by decide +kernel
theorem dL_done_185 : decode cL_done 185 = .ok (.iconst 0, 1) := by decide +kernel
theorem dL_done_186 : decode cL_done 186 = .ok (.istore 7, 2) := by decide +kernel
theorem dL_done_188 : decode cL_done 188 = .ok (.iconst 0, 1) := by decide +kernel
theorem dL_done_189 : decode cL_done 189 = .ok (.istore 11, 2) := by decide +kernel
theorem dL_done_191 : decode cL_done 191 = .ok (.iload 11, 2) := by decide +kernel
theorem dL_done_193 : decode cL_done 193 = .ok (.iload 6, 2) := by decide +kernel
theorem dL_done_195 : decode cL_done 195 = .ok (.if_icmp .ge 28, 3) := by decide +kernel
theorem dL_done_198 : decode cL_done 198 = .ok (.iload 7, 2) := by decide +kernel
theorem dL_done_200 : decode cL_done 200 = .ok (.ifCond .eq 23, 3) := by decide +kernel
theorem dL_done_203 : decode cL_done 203 = .ok (.aload_n 0, 1) := by decide +kernel
theorem dL_done_204 : decode cL_done 204 = .ok (.invokestatic 198, 3) := by decide +kernel
theorem dL_done_207 : decode cL_done 207 = .ok (.ifCond .lt 7, 3) := by decide +kernel
theorem dL_done_210 : decode cL_done 210 = .ok (.iconst 1, 1) := by decide +kernel
theorem dL_done_211 : decode cL_done 211 = .ok (.goto 4, 3) := by decide +kernel
theorem dL_done_214 : decode cL_done 214 = .ok (.iconst 0, 1) := by decide +kernel
theorem dL_done_215 : decode cL_done 215 = .ok (.istore 7, 2) := by decide +kernel
theorem dL_done_217 : decode cL_done 217 = .ok (.iinc 11 1, 3) := by decide +kernel
theorem dL_done_220 : decode cL_done 220 = .ok (.goto (-29), 3) := by decide +kernel
theorem dL_done_223 : decode cL_done 223 = .ok (.iload 7, 2) := by decide +kernel
theorem dL_done_225 : decode cL_done 225 = .ok (.ifCond .eq 16, 3) := by decide +kernel
theorem dL_done_228 : decode cL_done 228 = .ok (.aload_n 0, 1) := by decide +kernel
theorem dL_done_229 : decode cL_done 229 = .ok (.invokestatic 223, 3) := by decide +kernel
theorem dL_done_232 : decode cL_done 232 = .ok (.lload_n 2, 1) := by decide +kernel
theorem dL_done_233 : decode cL_done 233 = .ok (.lcmp, 1) := by decide +kernel
theorem dL_done_234 : decode cL_done 234 = .ok (.ifCond .ne 7, 3) := by decide +kernel
theorem dL_done_237 : decode cL_done 237 = .ok (.iconst 1, 1) := by decide +kernel
theorem dL_done_238 : decode cL_done 238 = .ok (.goto 4, 3) := by decide +kernel
theorem dL_done_241 : decode cL_done 241 = .ok (.iconst 0, 1) := by decide +kernel
theorem dL_done_242 : decode cL_done 242 = .ok (.istore 7, 2) := by decide +kernel
theorem dL_done_244 : decode cL_done 244 = .ok (.aload_n 0, 1) := by decide +kernel
theorem dL_done_245 : decode cL_done 245 = .ok (.iconst 0, 1) := by decide +kernel
theorem dL_done_246 : decode cL_done 246 = .ok (.invokestatic 151, 3) := by decide +kernel
theorem dL_done_249 : decode cL_done 249 = .ok (.istore 10, 2) := by decide +kernel
theorem dL_done_251 : decode cL_done 251 = .ok (.aload_n 0, 1) := by decide +kernel
theorem dL_done_252 : decode cL_done 252 = .ok (.iconst 1, 1) := by decide +kernel
theorem dL_done_253 : decode cL_done 253 = .ok (.invokestatic 151, 3) := by decide +kernel
theorem dL_done_256 : decode cL_done 256 = .ok (.istore 11, 2) := by decide +kernel
theorem dL_done_258 : decode cL_done 258 = .ok (.iload 7, 2) := by decide +kernel
theorem dL_done_260 : decode cL_done 260 = .ok (.ifCond .eq 11, 3) := by decide +kernel
theorem dL_done_263 : decode cL_done 263 = .ok (.aload_n 0, 1) := by decide +kernel
theorem dL_done_264 : decode cL_done 264 = .ok (.iconst 3, 1) := by decide +kernel
theorem dL_done_265 : decode cL_done 265 = .ok (.invokestatic 131, 3) := by decide +kernel
theorem dL_done_268 : decode cL_done 268 = .ok (.goto 4, 3) := by decide +kernel
theorem dL_done_271 : decode cL_done 271 = .ok (.iconst 0, 1) := by decide +kernel
theorem dL_done_272 : decode cL_done 272 = .ok (.istore 12, 2) := by decide +kernel
theorem dL_done_274 : decode cL_done 274 = .ok (.iload 7, 2) := by decide +kernel
theorem dL_done_276 : decode cL_done 276 = .ok (.ifCond .eq 124, 3) := by decide +kernel
theorem dL_done_279 : decode cL_done 279 = .ok (.iload 12, 2) := by decide +kernel
theorem dL_done_281 : decode cL_done 281 = .ok (.ifCond .le 7, 3) := by decide +kernel
theorem dL_done_284 : decode cL_done 284 = .ok (.iconst 1, 1) := by decide +kernel
theorem dL_done_285 : decode cL_done 285 = .ok (.goto 4, 3) := by decide +kernel
theorem dL_done_288 : decode cL_done 288 = .ok (.iconst 0, 1) := by decide +kernel
theorem dL_done_289 : decode cL_done 289 = .ok (.iload 10, 2) := by decide +kernel
theorem dL_done_291 : decode cL_done 291 = .ok (.bipush (-9), 2) := by decide +kernel
theorem dL_done_293 : decode cL_done 293 = .ok (.if_icmp .eq 7, 3) := by decide +kernel
theorem dL_done_296 : decode cL_done 296 = .ok (.iconst 1, 1) := by decide +kernel
theorem dL_done_297 : decode cL_done 297 = .ok (.goto 4, 3) := by decide +kernel
theorem dL_done_300 : decode cL_done 300 = .ok (.iconst 0, 1) := by decide +kernel
theorem dL_done_301 : decode cL_done 301 = .ok (.if_icmp .ne 99, 3) := by decide +kernel
theorem dL_done_304 : decode cL_done 304 = .ok (.iload 12, 2) := by decide +kernel
theorem dL_done_306 : decode cL_done 306 = .ok (.iconst 1, 1) := by decide +kernel
theorem dL_done_307 : decode cL_done 307 = .ok (.if_icmp .le 7, 3) := by decide +kernel
theorem dL_done_310 : decode cL_done 310 = .ok (.iconst 1, 1) := by decide +kernel
theorem dL_done_311 : decode cL_done 311 = .ok (.goto 4, 3) := by decide +kernel
theorem dL_done_314 : decode cL_done 314 = .ok (.iconst 0, 1) := by decide +kernel
theorem dL_done_315 : decode cL_done 315 = .ok (.iload 11, 2) := by decide +kernel
theorem dL_done_317 : decode cL_done 317 = .ok (.bipush (-9), 2) := by decide +kernel
theorem dL_done_319 : decode cL_done 319 = .ok (.if_icmp .eq 7, 3) := by decide +kernel
theorem dL_done_322 : decode cL_done 322 = .ok (.iconst 1, 1) := by decide +kernel
theorem dL_done_323 : decode cL_done 323 = .ok (.goto 4, 3) := by decide +kernel
theorem dL_done_326 : decode cL_done 326 = .ok (.iconst 0, 1) := by decide +kernel
theorem dL_done_327 : decode cL_done 327 = .ok (.if_icmp .ne 73, 3) := by decide +kernel
theorem dL_done_330 : decode cL_done 330 = .ok (.aload_n 0, 1) := by decide +kernel
theorem dL_done_331 : decode cL_done 331 = .ok (.iconst 1, 1) := by decide +kernel
theorem dL_done_332 : decode cL_done 332 = .ok (.ldc2_w 239, 3) := by decide +kernel
theorem dL_done_335 : decode cL_done 335 = .ok (.invokestatic 167, 3) := by decide +kernel
theorem dL_done_338 : decode cL_done 338 = .ok (.ifCond .ne 62, 3) := by decide +kernel
theorem dL_done_341 : decode cL_done 341 = .ok (.iload 10, 2) := by decide +kernel
theorem dL_done_343 : decode cL_done 343 = .ok (.bipush (-9), 2) := by decide +kernel
theorem dL_done_345 : decode cL_done 345 = .ok (.if_icmp .eq 12, 3) := by decide +kernel
theorem dL_done_348 : decode cL_done 348 = .ok (.aload_n 0, 1) := by decide +kernel
theorem dL_done_349 : decode cL_done 349 = .ok (.iload 10, 2) := by decide +kernel
theorem dL_done_351 : decode cL_done 351 = .ok (.invokestatic 115, 3) := by decide +kernel
theorem dL_done_354 : decode cL_done 354 = .ok (.ifCond .le 46, 3) := by decide +kernel
theorem dL_done_357 : decode cL_done 357 = .ok (.aload_n 0, 1) := by decide +kernel
theorem dL_done_358 : decode cL_done 358 = .ok (.invokestatic 198, 3) := by decide +kernel
theorem dL_done_361 : decode cL_done 361 = .ok (.ifCond .lt 39, 3) := by decide +kernel
theorem dL_done_364 : decode cL_done 364 = .ok (.aload_n 0, 1) := by decide +kernel
theorem dL_done_365 : decode cL_done 365 = .ok (.invokestatic 223, 3) := by decide +kernel
theorem dL_done_368 : decode cL_done 368 = .ok (.lload_n 2, 1) := by decide +kernel
theorem dL_done_369 : decode cL_done 369 = .ok (.lcmp, 1) := by decide +kernel
theorem dL_done_370 : decode cL_done 370 = .ok (.ifCond .ne 30, 3) := by decide +kernel
theorem dL_done_373 : decode cL_done 373 = .ok (.aload_n 0, 1) := by decide +kernel
theorem dL_done_374 : decode cL_done 374 = .ok (.iconst 1, 1) := by decide +kernel
theorem dL_done_375 : decode cL_done 375 = .ok (.ldc2_w 241, 3) := by decide +kernel
theorem dL_done_378 : decode cL_done 378 = .ok (.invokestatic 167, 3) := by decide +kernel
theorem dL_done_381 : decode cL_done 381 = .ok (.iload 12, 2) := by decide +kernel
theorem dL_done_383 : decode cL_done 383 = .ok (.iconst 3, 1) := by decide +kernel
theorem dL_done_384 : decode cL_done 384 = .ok (.if_icmp .ne 8, 3) := by decide +kernel
theorem dL_done_387 : decode cL_done 387 = .ok (.bipush (-9), 2) := by decide +kernel
theorem dL_done_389 : decode cL_done 389 = .ok (.goto 4, 3) := by decide +kernel
theorem dL_done_392 : decode cL_done 392 = .ok (.iconst 0, 1) := by decide +kernel
theorem dL_done_393 : decode cL_done 393 = .ok (.if_icmp .ne 7, 3) := by decide +kernel
theorem dL_done_396 : decode cL_done 396 = .ok (.iconst 1, 1) := by decide +kernel
theorem dL_done_397 : decode cL_done 397 = .ok (.goto 4, 3) := by decide +kernel
theorem dL_done_400 : decode cL_done 400 = .ok (.iconst 0, 1) := by decide +kernel
theorem dL_done_401 : decode cL_done 401 = .ok (.istore 7, 2) := by decide +kernel
theorem dL_done_403 : decode cL_done 403 = .ok (.aload_n 0, 1) := by decide +kernel
theorem dL_done_404 : decode cL_done 404 = .ok (.iload_n 1, 1) := by decide +kernel
theorem dL_done_405 : decode cL_done 405 = .ok (.iconst 5, 1) := by decide +kernel
theorem dL_done_406 : decode cL_done 406 = .ok (.invokestatic 175, 3) := by decide +kernel
theorem dL_done_409 : decode cL_done 409 = .ok (.istore 13, 2) := by decide +kernel
theorem dL_done_411 : decode cL_done 411 = .ok (.iload 7, 2) := by decide +kernel
theorem dL_done_413 : decode cL_done 413 = .ok (.ifCond .eq 21, 3) := by decide +kernel
theorem dL_done_416 : decode cL_done 416 = .ok (.iload 13, 2) := by decide +kernel
theorem dL_done_418 : decode cL_done 418 = .ok (.ifCond .lt 16, 3) := by decide +kernel
theorem dL_done_421 : decode cL_done 421 = .ok (.aload_n 0, 1) := by decide +kernel
theorem dL_done_422 : decode cL_done 422 = .ok (.invokestatic 223, 3) := by decide +kernel
theorem dL_done_425 : decode cL_done 425 = .ok (.lload_n 2, 1) := by decide +kernel
theorem dL_done_426 : decode cL_done 426 = .ok (.lcmp, 1) := by decide +kernel
theorem dL_done_427 : decode cL_done 427 = .ok (.ifCond .ne 7, 3) := by decide +kernel
theorem dL_done_430 : decode cL_done 430 = .ok (.iconst 1, 1) := by decide +kernel
theorem dL_done_431 : decode cL_done 431 = .ok (.goto 4, 3) := by decide +kernel
theorem dL_done_434 : decode cL_done 434 = .ok (.iconst 0, 1) := by decide +kernel

theorem dL_now_45 : decode cL_now 45 = .ok (.aload_n 0, 1) := by decide +kernel
theorem dL_now_46 : decode cL_now 46 = .ok (.iload_n 3, 1) := by decide +kernel
theorem dL_now_47 : decode cL_now 47 = .ok (.invokestatic 115, 3) := by decide +kernel
theorem dL_now_50 : decode cL_now 50 = .ok (.i2l, 1) := by decide +kernel
theorem dL_now_51 : decode cL_now 51 = .ok (.ladd, 1) := by decide +kernel
theorem dL_now_52 : decode cL_now 52 = .ok (.ldc2_w 208, 3) := by decide +kernel
theorem dL_now_55 : decode cL_now 55 = .ok (.aload_n 0, 1) := by decide +kernel
theorem dL_now_56 : decode cL_now 56 = .ok (.iload_n 3, 1) := by decide +kernel
theorem dL_now_57 : decode cL_now 57 = .ok (.invokestatic 117, 3) := by decide +kernel
theorem dL_now_60 : decode cL_now 60 = .ok (.i2l, 1) := by decide +kernel
theorem dL_now_61 : decode cL_now 61 = .ok (.lmul, 1) := by decide +kernel
theorem dL_now_62 : decode cL_now 62 = .ok (.ladd, 1) := by decide +kernel
theorem dL_now_63 : decode cL_now 63 = .ok (.ldc2_w 215, 3) := by decide +kernel
theorem dL_now_66 : decode cL_now 66 = .ok (.aload_n 0, 1) := by decide +kernel
theorem dL_now_67 : decode cL_now 67 = .ok (.iload_n 3, 1) := by decide +kernel
theorem dL_now_68 : decode cL_now 68 = .ok (.invokestatic 119, 3) := by decide +kernel
theorem dL_now_71 : decode cL_now 71 = .ok (.i2l, 1) := by decide +kernel
theorem dL_now_72 : decode cL_now 72 = .ok (.lmul, 1) := by decide +kernel
theorem dL_now_73 : decode cL_now 73 = .ok (.ladd, 1) := by decide +kernel
theorem dL_now_74 : decode cL_now 74 = .ok (.ldc2_w 217, 3) := by decide +kernel
theorem dL_now_77 : decode cL_now 77 = .ok (.aload_n 0, 1) := by decide +kernel
theorem dL_now_78 : decode cL_now 78 = .ok (.iload_n 3, 1) := by decide +kernel
theorem dL_now_79 : decode cL_now 79 = .ok (.invokestatic 126, 3) := by decide +kernel
theorem dL_now_82 : decode cL_now 82 = .ok (.i2l, 1) := by decide +kernel
theorem dL_now_83 : decode cL_now 83 = .ok (.lmul, 1) := by decide +kernel
theorem dL_now_84 : decode cL_now 84 = .ok (.ladd, 1) := by decide +kernel
theorem dL_now_85 : decode cL_now 85 = .ok (.lstore_n 1, 1) := by decide +kernel
theorem dL_now_86 : decode cL_now 86 = .ok (.iconst 0, 1) := by decide +kernel
theorem dL_now_87 : decode cL_now 87 = .ok (.istore 4, 2) := by decide +kernel
theorem dL_now_89 : decode cL_now 89 = .ok (.iload 4, 2) := by decide +kernel
theorem dL_now_91 : decode cL_now 91 = .ok (.aload_n 0, 1) := by decide +kernel
theorem dL_now_92 : decode cL_now 92 = .ok (.iload_n 3, 1) := by decide +kernel
theorem dL_now_93 : decode cL_now 93 = .ok (.invokestatic 117, 3) := by decide +kernel
theorem dL_now_96 : decode cL_now 96 = .ok (.if_icmp .ge 28, 3) := by decide +kernel
theorem dL_now_99 : decode cL_now 99 = .ok (.ldc2_w 219, 3) := by decide +kernel
theorem dL_now_102 : decode cL_now 102 = .ok (.lload_n 1, 1) := by decide +kernel
theorem dL_now_103 : decode cL_now 103 = .ok (.lmul, 1) := by decide +kernel
theorem dL_now_104 : decode cL_now 104 = .ok (.ldc2_w 221, 3) := by decide +kernel
theorem dL_now_107 : decode cL_now 107 = .ok (.lrem, 1) := by decide +kernel
theorem dL_now_108 : decode cL_now 108 = .ok (.aload_n 0, 1) := by decide +kernel
theorem dL_now_109 : decode cL_now 109 = .ok (.iload_n 3, 1) := by decide +kernel
theorem dL_now_110 : decode cL_now 110 = .ok (.iload 4, 2) := by decide +kernel
theorem dL_now_112 : decode cL_now 112 = .ok (.invokestatic 122, 3) := by decide +kernel
theorem dL_now_115 : decode cL_now 115 = .ok (.i2l, 1) := by decide +kernel
theorem dL_now_116 : decode cL_now 116 = .ok (.ladd, 1) := by decide +kernel
theorem dL_now_117 : decode cL_now 117 = .ok (.lstore_n 1, 1) := by decide +kernel
theorem dL_now_118 : decode cL_now 118 = .ok (.iinc 4 1, 3) := by decide +kernel
theorem dL_now_121 : decode cL_now 121 = .ok (.goto (-32), 3) := by decide +kernel
theorem dL_now_124 : decode cL_now 124 = .ok (.iinc 3 1, 3) := by decide +kernel
theorem dL_now_127 : decode cL_now 127 = .ok (.goto (-99), 3) := by decide +kernel
theorem dL_now_130 : decode cL_now 130 = .ok (.lload_n 1, 1) := by decide +kernel
theorem dL_now_131 : decode cL_now 131 = .ok (.lreturn, 1) := by decide +kernel
set_option maxRecDepth 20000 in
theorem ggL_alike_X8_pointCount : GoodIn wsL_alike wsX8_pointCount := goodIn_r _ [6, 7, 8, 9, 10, 11, 12, 13, 451, 452, 453, 454, 455, 456, 457, 458, 459, 460, 461, 462, 463, 464] (by decide +kernel) (by decide +kernel)
set_option maxRecDepth 20000 in
theorem gL_alike_X8_pointCount : GoodIn wsL_alike (wsV RL 107 RX8 yX8_pointCount wsX8_pointCount) := goodIn_app (goodIn_of _ (by decide +kernel)) ggL_alike_X8_pointCount
set_option maxRecDepth 20000 in
theorem ggL_alike_L_now : GoodIn wsL_alike wsL_now := goodIn_ca (goodIn_ca (goodIn_r _ [17, 18, 19, 20, 21, 22, 23, 24, 25, 26, 27, 5, 28, 29, 30, 31, 32, 33, 34, 35, 36, 37, 38, 39, 40, 41, 42, 43, 44, 45, 46, 47, 48, 49, 50, 51, 52, 53, 2, 3, 4, 6, 7, 8, 9, 10, 11, 12, 13, 54, 55, 16, 56, 57, 58, 59, 60, 61, 62, 63, 64, 65, 66, 67, 68, 69, 70, 71, 72, 73, 74, 75, 76, 77, 78, 79, 80, 81, 82, 83, 84, 85, 86, 87, 88, 89, 90, 91, 92, 93, 94, 95, 96, 97, 98, 99, 100, 101, 102, 103, 104, 105, 106, 107, 108, 109, 110, 111, 112, 113, 114, 115, 116, 117, 118, 119, 120, 121, 122, 123, 124, 125, 126, 127, 128, 129, 130, 451, 452, 453, 454, 455, 456, 457, 458, 459, 465, 466, 467, 468, 469, 470, 471, 472, 460, 461, 462, 463, 464] (by decide +kernel) (by decide +kernel)) (goodIn_sub (fun _ h => List.mem_cons_of_mem _ (List.mem_append_left _ (List.mem_append_right _ h))) (by decide +kernel))) (goodIn_sub (fun _ h => List.mem_cons_of_mem _ (List.mem_append_right _ h)) (by decide +kernel))
set_option maxRecDepth 20000 in
theorem gL_alike_L_now : GoodIn wsL_alike (va_wsS RL 223 yL_now wsL_now) := goodIn_app (goodIn_of _ (by decide +kernel)) ggL_alike_L_now
set_option maxRecDepth 20000 in
theorem ggL_alike_X8_errorPosition : GoodIn wsL_alike wsX8_errorPosition := goodIn_r _ [134, 135, 136, 137, 138, 139, 140, 141, 142, 143, 144, 145, 146, 147, 148, 149, 150, 151, 152, 153, 154, 155, 156, 157, 158, 159, 160, 161, 162, 451, 452, 453, 454, 455, 456, 457, 458, 459, 473, 474] (by decide +kernel) (by decide +kernel)
set_option maxRecDepth 20000 in
theorem gL_alike_X8_errorPosition : GoodIn wsL_alike (wsV RL 227 RX8 yX8_errorPosition wsX8_errorPosition) := goodIn_app (goodIn_of _ (by decide +kernel)) ggL_alike_X8_errorPosition
set_option maxRecDepth 20000 in
theorem ggL_alike_X8_nextByOrder : GoodIn wsL_alike wsX8_nextByOrder := goodIn_r _ [166, 29, 7, 167, 168, 169, 33, 170, 171, 9, 10, 11, 12, 13, 172, 173, 174, 175, 76, 53, 176, 177, 178, 179, 180, 181, 182, 183, 109, 110, 111, 112, 184, 85, 86, 87, 88, 89, 185, 186, 187, 188, 189, 190, 191, 192, 127, 128, 129, 130, 451, 452, 453, 454, 455, 456, 457, 458, 459, 460, 461, 462, 463, 464, 465, 466, 467, 468, 469, 470, 471, 472] (by decide +kernel) (by decide +kernel)
set_option maxRecDepth 20000 in
theorem gL_alike_X8_nextByOrder : GoodIn wsL_alike (wsV RL 230 RX8 yX8_nextByOrder wsX8_nextByOrder) := goodIn_app (goodIn_of _ (by decide +kernel)) ggL_alike_X8_nextByOrder
set_option maxRecDepth 20000 in
theorem ggL_alike_L_ready : GoodIn wsL_alike wsL_ready := goodIn_ca (goodIn_r _ [195, 57, 196, 197, 198, 5, 199, 29, 7, 62, 63, 64, 65, 66, 67, 68, 69, 70, 11, 71, 13, 200, 201, 202, 33, 203, 172, 173, 174, 175, 76, 53, 176, 177, 178, 179, 180, 181, 182, 183, 109, 110, 111, 112, 184, 85, 86, 87, 88, 89, 185, 186, 187, 188, 189, 190, 191, 451, 452, 453, 454, 455, 456, 457, 458, 459, 460, 461, 462, 463, 464, 465, 466, 467, 468, 469, 470, 471, 472] (by decide +kernel) (by decide +kernel)) (goodIn_sub (fun _ h => List.mem_cons_of_mem _ (List.mem_append_left _ (List.mem_append_right _ h))) (by decide +kernel))
set_option maxRecDepth 20000 in
theorem gL_alike_L_ready : GoodIn wsL_alike (va_wsS RL 144 yL_ready wsL_ready) := goodIn_app (goodIn_of _ (by decide +kernel)) ggL_alike_L_ready
set_option maxRecDepth 20000 in
theorem ggL_alike_L_blockers : GoodIn wsL_alike wsL_blockers := goodIn_ca (goodIn_r _ [206, 57, 207, 208, 209, 5, 210, 29, 7, 62, 63, 64, 65, 66, 67, 68, 69, 70, 11, 71, 13, 211, 212, 213, 33, 214, 76, 53, 215, 216, 217, 218, 189, 219, 220, 221, 222, 190, 451, 452, 453, 454, 455, 456, 457, 458, 459, 460, 461, 462, 463, 464, 465, 466, 467, 468, 469, 470, 471, 472] (by decide +kernel) (by decide +kernel)) (goodIn_sub (fun _ h => List.mem_cons_of_mem _ (List.mem_append_left _ (List.mem_append_right _ h))) (by decide +kernel))
set_option maxRecDepth 20000 in
theorem gL_alike_L_blockers : GoodIn wsL_alike (va_wsS RL 147 yL_blockers wsL_blockers) := goodIn_app (goodIn_of _ (by decide +kernel)) ggL_alike_L_blockers
set_option maxRecDepth 20000 in
theorem ggL_alike_L_slack : GoodIn wsL_alike wsL_slack := goodIn_ca (goodIn_r _ [225, 57, 226, 227, 228, 5, 229, 29, 7, 62, 63, 64, 65, 66, 67, 68, 69, 70, 11, 71, 13, 230, 173, 174, 33, 175, 76, 53, 176, 177, 178, 179, 180, 181, 182, 183, 109, 110, 111, 112, 184, 85, 86, 87, 88, 89, 185, 186, 187, 188, 189, 190, 191, 451, 452, 453, 454, 455, 456, 457, 458, 459, 460, 461, 462, 463, 464, 465, 466, 467, 468, 469, 470, 471, 472] (by decide +kernel) (by decide +kernel)) (goodIn_sub (fun _ h => List.mem_cons_of_mem _ (List.mem_append_left _ (List.mem_append_right _ h))) (by decide +kernel))
set_option maxRecDepth 20000 in
theorem gL_alike_L_slack : GoodIn wsL_alike (va_wsS RL 149 yL_slack wsL_slack) := goodIn_app (goodIn_of _ (by decide +kernel)) ggL_alike_L_slack
set_option maxRecDepth 20000 in
theorem ggL_alike_L_most : GoodIn wsL_alike wsL_most := goodIn_ca (goodIn_r _ [233, 57, 234, 235, 236, 5, 237, 29, 7, 62, 63, 64, 65, 66, 67, 68, 69, 70, 11, 71, 13, 238, 239, 240, 33, 241, 242, 243, 244, 245, 76, 53, 171, 9, 10, 12, 246, 247, 248, 249, 250, 251, 252, 178, 253, 254, 183, 109, 110, 111, 112, 184, 85, 86, 87, 88, 89, 451, 452, 453, 454, 455, 456, 457, 458, 459, 460, 461, 462, 463, 464, 465, 466, 467, 468, 469, 470, 471, 472] (by decide +kernel) (by decide +kernel)) (goodIn_sub (fun _ h => List.mem_cons_of_mem _ (List.mem_append_left _ (List.mem_append_right _ h))) (by decide +kernel))
set_option maxRecDepth 20000 in
theorem gL_alike_L_most : GoodIn wsL_alike (va_wsS RL 159 yL_most wsL_most) := goodIn_app (goodIn_of _ (by decide +kernel)) ggL_alike_L_most
set_option maxRecDepth 20000 in
theorem ggL_alike_L_bucketsFor : GoodIn wsL_alike wsL_bucketsFor := goodIn_ca (goodIn_ca (goodIn_r _ [257, 57, 116, 258, 259, 260, 5, 261, 29, 7, 62, 63, 64, 65, 66, 67, 68, 69, 70, 11, 71, 13, 121, 122, 123, 124, 125, 262, 243, 244, 33, 245, 76, 53, 171, 9, 10, 12, 246, 247, 248, 249, 250, 251, 252, 178, 253, 254, 183, 109, 110, 111, 112, 184, 85, 86, 87, 88, 89, 451, 452, 453, 454, 455, 456, 457, 458, 459, 460, 461, 462, 463, 464, 465, 466, 467, 468, 469, 470, 471, 472] (by decide +kernel) (by decide +kernel)) (goodIn_sub (fun _ h => List.mem_cons_of_mem _ (List.mem_append_left _ (List.mem_append_right _ h))) (by decide +kernel))) (goodIn_sub (fun _ h => List.mem_cons_of_mem _ (List.mem_append_right _ h)) (by decide +kernel))
set_option maxRecDepth 20000 in
theorem gL_alike_L_bucketsFor : GoodIn wsL_alike (va_wsS RL 157 yL_bucketsFor wsL_bucketsFor) := goodIn_app (goodIn_of _ (by decide +kernel)) ggL_alike_L_bucketsFor
set_option maxRecDepth 20000 in
theorem ggL_alike_L_waste : GoodIn wsL_alike wsL_waste := goodIn_ca (goodIn_ca (goodIn_r _ [265, 57, 116, 266, 267, 268, 5, 269, 29, 62, 63, 64, 65, 66, 67, 7, 68, 69, 70, 11, 71, 13, 121, 122, 123, 124, 125, 270, 271, 272, 33, 273, 88, 130, 89, 451, 452, 453, 454, 455, 456, 457, 458, 459, 460, 461, 462, 463, 464, 465, 466, 467, 468, 469, 470, 471, 472] (by decide +kernel) (by decide +kernel)) (goodIn_sub (fun _ h => List.mem_cons_of_mem _ (List.mem_append_left _ (List.mem_append_right _ h))) (by decide +kernel))) (goodIn_sub (fun _ h => List.mem_cons_of_mem _ (List.mem_append_right _ h)) (by decide +kernel))
set_option maxRecDepth 20000 in
theorem gL_alike_L_waste : GoodIn wsL_alike (va_wsS RL 154 yL_waste wsL_waste) := goodIn_app (goodIn_of _ (by decide +kernel)) ggL_alike_L_waste
set_option maxRecDepth 20000 in
theorem ggL_alike_L_best : GoodIn wsL_alike wsL_best := goodIn_ca (goodIn_r _ [276, 116, 277, 278, 279, 5, 280, 281, 7, 29, 121, 122, 123, 124, 125, 282, 283, 284, 285, 286, 287, 177, 178, 179, 288, 289, 290, 291, 292, 50, 51, 33, 52, 53, 293, 294, 295, 296, 297, 9, 10, 11, 12, 13, 298, 299, 300, 301, 302, 303, 304, 305, 73, 74, 75, 76, 306, 109, 110, 111, 112, 307, 127, 128, 129, 88, 89, 130, 308, 309, 310, 311, 312, 313, 181, 182, 314, 315, 316, 317, 318, 319, 320, 321, 322, 323, 324, 325, 326, 327, 328, 329, 330, 331, 332, 333, 334, 335, 186, 187, 188, 189, 190, 191, 336, 337, 338, 339, 340, 341, 342, 343, 451, 452, 453, 454, 455, 456, 457, 458, 459, 475, 476, 477, 478, 479, 480, 481, 482, 483, 465, 466, 467, 468, 469, 470, 471, 472, 460, 461, 462, 463, 464] (by decide +kernel) (by decide +kernel)) (goodIn_sub (fun _ h => List.mem_cons_of_mem _ (List.mem_append_right _ h)) (by decide +kernel))
set_option maxRecDepth 20000 in
theorem gL_alike_L_best : GoodIn wsL_alike (va_wsS RL 162 yL_best wsL_best) := goodIn_app (goodIn_of _ (by decide +kernel)) ggL_alike_L_best
set_option maxRecDepth 20000 in
theorem ggL_alike_L_ahead : GoodIn wsL_alike wsL_ahead := goodIn_ca (goodIn_r _ [346, 116, 347, 348, 349, 5, 350, 351, 29, 7, 121, 122, 123, 124, 125, 352, 353, 354, 33, 355, 89, 356, 324, 325, 326, 130, 88, 76, 53, 112, 35, 44, 357, 358, 359, 360, 361, 168, 169, 170, 171, 9, 10, 11, 12, 13, 172, 173, 174, 175, 176, 177, 178, 179, 180, 181, 182, 183, 109, 110, 111, 184, 85, 86, 87, 185, 186, 187, 188, 189, 190, 191, 192, 127, 128, 129, 362, 363, 364, 365, 366, 367, 368, 369, 167, 451, 452, 453, 454, 455, 456, 457, 458, 459, 465, 466, 467, 468, 469, 470, 471, 472, 460, 461, 462, 463, 464] (by decide +kernel) (by decide +kernel)) (goodIn_sub (fun _ h => List.mem_cons_of_mem _ (List.mem_append_right _ h)) (by decide +kernel))
set_option maxRecDepth 20000 in
theorem gL_alike_L_ahead : GoodIn wsL_alike (va_wsS RL 151 yL_ahead wsL_ahead) := goodIn_app (goodIn_of _ (by decide +kernel)) ggL_alike_L_ahead
set_option maxRecDepth 20000 in
theorem ggL_alike_L_origins : GoodIn wsL_alike wsL_origins := goodIn_ca (goodIn_r _ [372, 116, 373, 374, 375, 5, 376, 124, 125, 377, 29, 7, 121, 122, 123, 378, 379, 380, 381, 382, 383, 384, 385, 386, 387, 33, 388, 171, 9, 10, 11, 12, 13, 389, 390, 391, 392, 393, 394, 395, 396, 192, 127, 128, 129, 88, 89, 130, 397, 398, 399, 400, 451, 452, 453, 454, 455, 456, 457, 458, 459, 484, 485, 460, 461, 462, 463, 464, 465, 466, 467, 468, 469, 470, 471, 472] (by decide +kernel) (by decide +kernel)) (goodIn_sub (fun _ h => List.mem_cons_of_mem _ (List.mem_append_right _ h)) (by decide +kernel))
set_option maxRecDepth 20000 in
theorem gL_alike_L_origins : GoodIn wsL_alike (va_wsS RL 165 yL_origins wsL_origins) := goodIn_app (goodIn_of _ (by decide +kernel)) ggL_alike_L_origins
set_option maxRecDepth 20000 in
theorem ggL_alike_L_simulate : GoodIn wsL_alike wsL_simulate := goodIn_ca (goodIn_r _ [403, 116, 404, 405, 406, 407, 5, 408, 351, 29, 409, 410, 7, 121, 122, 123, 124, 125, 352, 353, 354, 33, 355, 89, 356, 324, 325, 326, 130, 88, 76, 53, 112, 35, 44, 411, 412, 413, 414, 171, 9, 10, 11, 12, 13, 415, 416, 417, 418, 419, 358, 359, 360, 361, 168, 169, 170, 172, 173, 174, 175, 176, 177, 178, 179, 180, 181, 182, 183, 109, 110, 111, 184, 85, 86, 87, 185, 186, 187, 188, 189, 190, 191, 192, 127, 128, 129, 362, 363, 364, 365, 366, 367, 368, 369, 40, 41, 42, 43, 451, 452, 453, 454, 455, 456, 457, 458, 459, 465, 466, 467, 468, 469, 470, 471, 472, 460, 461, 462, 463, 464] (by decide +kernel) (by decide +kernel)) (goodIn_sub (fun _ h => List.mem_cons_of_mem _ (List.mem_append_right _ h)) (by decide +kernel))
set_option maxRecDepth 20000 in
theorem gL_alike_L_simulate : GoodIn wsL_alike (va_wsS RL 175 yL_simulate wsL_simulate) := goodIn_app (goodIn_of _ (by decide +kernel)) ggL_alike_L_simulate
set_option maxRecDepth 20000 in
theorem ggL_alike_L_script : GoodIn wsL_alike wsL_script := goodIn_ca (goodIn_r _ [422, 116, 423, 424, 425, 5, 426, 124, 125, 427, 351, 29, 7, 121, 122, 123, 378, 379, 380, 381, 382, 383, 384, 352, 353, 354, 33, 355, 89, 356, 324, 325, 326, 130, 88, 76, 53, 112, 35, 44, 428, 429, 430, 431, 432, 394, 395, 396, 433, 398, 399, 400, 434, 435, 436, 437, 358, 359, 360, 361, 168, 169, 170, 171, 9, 10, 11, 12, 13, 172, 173, 174, 175, 176, 177, 178, 179, 180, 181, 182, 183, 109, 110, 111, 184, 85, 86, 87, 185, 186, 187, 188, 189, 190, 191, 192, 127, 128, 129, 362, 363, 364, 365, 366, 367, 368, 369, 438, 69, 70, 71, 439, 440, 441, 442, 201, 202, 203, 443, 444, 445, 446, 447, 448, 416, 417, 418, 449, 450, 451, 452, 453, 454, 455, 456, 457, 458, 459, 484, 485, 465, 466, 467, 468, 469, 470, 471, 472, 460, 461, 462, 463, 464] (by decide +kernel) (by decide +kernel)) (goodIn_sub (fun _ h => List.mem_cons_of_mem _ (List.mem_append_right _ h)) (by decide +kernel))
set_option maxRecDepth 20000 in
theorem gL_alike_L_script : GoodIn wsL_alike (va_wsS RL 167 yL_script wsL_script) := goodIn_app (goodIn_of _ (by decide +kernel)) ggL_alike_L_script
theorem dL_alike_0 : decode cL_alike 0 = .ok (.aload_n 0, 1) := by decide +kernel
theorem dL_alike_1 : decode cL_alike 1 = .ok (.invokevirtual 107, 3) := by decide +kernel
theorem dL_alike_4 : decode cL_alike 4 = .ok (.aload_n 1, 1) := by decide +kernel
theorem dL_alike_5 : decode cL_alike 5 = .ok (.invokevirtual 107, 3) := by decide +kernel
theorem dL_alike_8 : decode cL_alike 8 = .ok (.if_icmp .ne 41, 3) := by decide +kernel
theorem dL_alike_11 : decode cL_alike 11 = .ok (.aload_n 0, 1) := by decide +kernel
theorem dL_alike_12 : decode cL_alike 12 = .ok (.invokestatic 223, 3) := by decide +kernel
theorem dL_alike_15 : decode cL_alike 15 = .ok (.aload_n 1, 1) := by decide +kernel
theorem dL_alike_16 : decode cL_alike 16 = .ok (.invokestatic 223, 3) := by decide +kernel
theorem dL_alike_19 : decode cL_alike 19 = .ok (.lcmp, 1) := by decide +kernel
theorem dL_alike_20 : decode cL_alike 20 = .ok (.ifCond .ne 29, 3) := by decide +kernel
theorem dL_alike_23 : decode cL_alike 23 = .ok (.aload_n 0, 1) := by decide +kernel
theorem dL_alike_24 : decode cL_alike 24 = .ok (.invokevirtual 227, 3) := by decide +kernel
theorem dL_alike_27 : decode cL_alike 27 = .ok (.aload_n 1, 1) := by decide +kernel
theorem dL_alike_28 : decode cL_alike 28 = .ok (.invokevirtual 227, 3) := by decide +kernel
theorem dL_alike_31 : decode cL_alike 31 = .ok (.if_icmp .ne 18, 3) := by decide +kernel
theorem dL_alike_34 : decode cL_alike 34 = .ok (.aload_n 0, 1) := by decide +kernel
theorem dL_alike_35 : decode cL_alike 35 = .ok (.invokevirtual 230, 3) := by decide +kernel
theorem dL_alike_38 : decode cL_alike 38 = .ok (.aload_n 1, 1) := by decide +kernel
theorem dL_alike_39 : decode cL_alike 39 = .ok (.invokevirtual 230, 3) := by decide +kernel
theorem dL_alike_42 : decode cL_alike 42 = .ok (.if_icmp .ne 7, 3) := by decide +kernel
theorem dL_alike_45 : decode cL_alike 45 = .ok (.iconst 1, 1) := by decide +kernel
theorem dL_alike_46 : decode cL_alike 46 = .ok (.goto 4, 3) := by decide +kernel
theorem dL_alike_49 : decode cL_alike 49 = .ok (.iconst 0, 1) := by decide +kernel
theorem dL_alike_50 : decode cL_alike 50 = .ok (.istore_n 2, 1) := by decide +kernel
theorem dL_alike_51 : decode cL_alike 51 = .ok (.iconst 0, 1) := by decide +kernel
theorem dL_alike_52 : decode cL_alike 52 = .ok (.istore_n 3, 1) := by decide +kernel
theorem dL_alike_53 : decode cL_alike 53 = .ok (.iload_n 3, 1) := by decide +kernel
theorem dL_alike_54 : decode cL_alike 54 = .ok (.bipush 16, 2) := by decide +kernel
theorem dL_alike_56 : decode cL_alike 56 = .ok (.if_icmp .ge 119, 3) := by decide +kernel
theorem dL_alike_59 : decode cL_alike 59 = .ok (.iload_n 2, 1) := by decide +kernel
theorem dL_alike_60 : decode cL_alike 60 = .ok (.ifCond .eq 107, 3) := by decide +kernel
theorem dL_alike_63 : decode cL_alike 63 = .ok (.aload_n 0, 1) := by decide +kernel
theorem dL_alike_64 : decode cL_alike 64 = .ok (.iload_n 3, 1) := by decide +kernel
theorem dL_alike_65 : decode cL_alike 65 = .ok (.invokestatic 144, 3) := by decide +kernel
theorem dL_alike_68 : decode cL_alike 68 = .ok (.aload_n 1, 1) := by decide +kernel
theorem dL_alike_69 : decode cL_alike 69 = .ok (.iload_n 3, 1) := by decide +kernel
theorem dL_alike_70 : decode cL_alike 70 = .ok (.invokestatic 144, 3) := by decide +kernel
theorem dL_alike_73 : decode cL_alike 73 = .ok (.if_icmp .ne 94, 3) := by decide +kernel
theorem dL_alike_76 : decode cL_alike 76 = .ok (.aload_n 0, 1) := by decide +kernel
theorem dL_alike_77 : decode cL_alike 77 = .ok (.iload_n 3, 1) := by decide +kernel
theorem dL_alike_78 : decode cL_alike 78 = .ok (.invokestatic 147, 3) := by decide +kernel
theorem dL_alike_81 : decode cL_alike 81 = .ok (.aload_n 1, 1) := by decide +kernel
theorem dL_alike_82 : decode cL_alike 82 = .ok (.iload_n 3, 1) := by decide +kernel
theorem dL_alike_83 : decode cL_alike 83 = .ok (.invokestatic 147, 3) := by decide +kernel
theorem dL_alike_86 : decode cL_alike 86 = .ok (.if_icmp .ne 81, 3) := by decide +kernel
theorem dL_alike_89 : decode cL_alike 89 = .ok (.aload_n 0, 1) := by decide +kernel
theorem dL_alike_90 : decode cL_alike 90 = .ok (.iload_n 3, 1) := by decide +kernel
theorem dL_alike_91 : decode cL_alike 91 = .ok (.invokestatic 149, 3) := by decide +kernel
theorem dL_alike_94 : decode cL_alike 94 = .ok (.aload_n 1, 1) := by decide +kernel
theorem dL_alike_95 : decode cL_alike 95 = .ok (.iload_n 3, 1) := by decide +kernel
theorem dL_alike_96 : decode cL_alike 96 = .ok (.invokestatic 149, 3) := by decide +kernel
theorem dL_alike_99 : decode cL_alike 99 = .ok (.if_icmp .ne 68, 3) := by decide +kernel
theorem dL_alike_102 : decode cL_alike 102 = .ok (.aload_n 0, 1) := by decide +kernel
theorem dL_alike_103 : decode cL_alike 103 = .ok (.iload_n 3, 1) := by decide +kernel
theorem dL_alike_104 : decode cL_alike 104 = .ok (.invokestatic 159, 3) := by decide +kernel
theorem dL_alike_107 : decode cL_alike 107 = .ok (.aload_n 1, 1) := by decide +kernel
theorem dL_alike_108 : decode cL_alike 108 = .ok (.iload_n 3, 1) := by decide +kernel
theorem dL_alike_109 : decode cL_alike 109 = .ok (.invokestatic 159, 3) := by decide +kernel
theorem dL_alike_112 : decode cL_alike 112 = .ok (.if_icmp .ne 55, 3) := by decide +kernel
theorem dL_alike_115 : decode cL_alike 115 = .ok (.aload_n 0, 1) := by decide +kernel
theorem dL_alike_116 : decode cL_alike 116 = .ok (.iload_n 3, 1) := by decide +kernel
theorem dL_alike_117 : decode cL_alike 117 = .ok (.iconst 1, 1) := by decide +kernel
theorem dL_alike_118 : decode cL_alike 118 = .ok (.iload_n 3, 1) := by decide +kernel
theorem dL_alike_119 : decode cL_alike 119 = .ok (.iconst 5, 1) := by decide +kernel
theorem dL_alike_120 : decode cL_alike 120 = .ok (.irem, 1) := by decide +kernel
theorem dL_alike_121 : decode cL_alike 121 = .ok (.iadd, 1) := by decide +kernel
theorem dL_alike_122 : decode cL_alike 122 = .ok (.invokestatic 157, 3) := by decide +kernel
theorem dL_alike_125 : decode cL_alike 125 = .ok (.aload_n 1, 1) := by decide +kernel
theorem dL_alike_126 : decode cL_alike 126 = .ok (.iload_n 3, 1) := by decide +kernel
theorem dL_alike_127 : decode cL_alike 127 = .ok (.iconst 1, 1) := by decide +kernel
theorem dL_alike_128 : decode cL_alike 128 = .ok (.iload_n 3, 1) := by decide +kernel
theorem dL_alike_129 : decode cL_alike 129 = .ok (.iconst 5, 1) := by decide +kernel
theorem dL_alike_130 : decode cL_alike 130 = .ok (.irem, 1) := by decide +kernel
theorem dL_alike_131 : decode cL_alike 131 = .ok (.iadd, 1) := by decide +kernel
theorem dL_alike_132 : decode cL_alike 132 = .ok (.invokestatic 157, 3) := by decide +kernel
theorem dL_alike_135 : decode cL_alike 135 = .ok (.if_icmp .ne 32, 3) := by decide +kernel
theorem dL_alike_138 : decode cL_alike 138 = .ok (.aload_n 0, 1) := by decide +kernel
theorem dL_alike_139 : decode cL_alike 139 = .ok (.iload_n 3, 1) := by decide +kernel
theorem dL_alike_140 : decode cL_alike 140 = .ok (.iconst 1, 1) := by decide +kernel
theorem dL_alike_141 : decode cL_alike 141 = .ok (.iload_n 3, 1) := by decide +kernel
theorem dL_alike_142 : decode cL_alike 142 = .ok (.bipush 9, 2) := by decide +kernel
theorem dL_alike_144 : decode cL_alike 144 = .ok (.irem, 1) := by decide +kernel
theorem dL_alike_145 : decode cL_alike 145 = .ok (.iadd, 1) := by decide +kernel
theorem dL_alike_146 : decode cL_alike 146 = .ok (.invokestatic 154, 3) := by decide +kernel
theorem dL_alike_149 : decode cL_alike 149 = .ok (.aload_n 1, 1) := by decide +kernel
theorem dL_alike_150 : decode cL_alike 150 = .ok (.iload_n 3, 1) := by decide +kernel
theorem dL_alike_151 : decode cL_alike 151 = .ok (.iconst 1, 1) := by decide +kernel
theorem dL_alike_152 : decode cL_alike 152 = .ok (.iload_n 3, 1) := by decide +kernel
theorem dL_alike_153 : decode cL_alike 153 = .ok (.bipush 9, 2) := by decide +kernel
theorem dL_alike_155 : decode cL_alike 155 = .ok (.irem, 1) := by decide +kernel
theorem dL_alike_156 : decode cL_alike 156 = .ok (.iadd, 1) := by decide +kernel
theorem dL_alike_157 : decode cL_alike 157 = .ok (.invokestatic 154, 3) := by decide +kernel
theorem dL_alike_160 : decode cL_alike 160 = .ok (.if_icmp .ne 7, 3) := by decide +kernel
theorem dL_alike_163 : decode cL_alike 163 = .ok (.iconst 1, 1) := by decide +kernel
theorem dL_alike_164 : decode cL_alike 164 = .ok (.goto 4, 3) := by decide +kernel
theorem dL_alike_167 : decode cL_alike 167 = .ok (.iconst 0, 1) := by decide +kernel
theorem dL_alike_168 : decode cL_alike 168 = .ok (.istore_n 2, 1) := by decide +kernel
theorem dL_alike_169 : decode cL_alike 169 = .ok (.iinc 3 1, 3) := by decide +kernel
theorem dL_alike_172 : decode cL_alike 172 = .ok (.goto (-119), 3) := by decide +kernel
theorem dL_alike_175 : decode cL_alike 175 = .ok (.iconst 0, 1) := by decide +kernel
theorem dL_alike_176 : decode cL_alike 176 = .ok (.istore_n 3, 1) := by decide +kernel
theorem dL_alike_177 : decode cL_alike 177 = .ok (.iload_n 3, 1) := by decide +kernel
theorem dL_alike_178 : decode cL_alike 178 = .ok (.iconst 2, 1) := by decide +kernel
theorem dL_alike_179 : decode cL_alike 179 = .ok (.if_icmp .gt 34, 3) := by decide +kernel
theorem dL_alike_182 : decode cL_alike 182 = .ok (.iload_n 2, 1) := by decide +kernel
theorem dL_alike_183 : decode cL_alike 183 = .ok (.ifCond .eq 22, 3) := by decide +kernel
theorem dL_alike_186 : decode cL_alike 186 = .ok (.aload_n 0, 1) := by decide +kernel
theorem dL_alike_187 : decode cL_alike 187 = .ok (.iconst 2, 1) := by decide +kernel
theorem dL_alike_188 : decode cL_alike 188 = .ok (.iload_n 3, 1) := by decide +kernel
theorem dL_alike_189 : decode cL_alike 189 = .ok (.invokestatic 162, 3) := by decide +kernel
theorem dL_alike_192 : decode cL_alike 192 = .ok (.aload_n 1, 1) := by decide +kernel
theorem dL_alike_193 : decode cL_alike 193 = .ok (.iconst 2, 1) := by decide +kernel
theorem dL_alike_194 : decode cL_alike 194 = .ok (.iload_n 3, 1) := by decide +kernel
theorem dL_alike_195 : decode cL_alike 195 = .ok (.invokestatic 162, 3) := by decide +kernel
theorem dL_alike_198 : decode cL_alike 198 = .ok (.if_icmp .ne 7, 3) := by decide +kernel
theorem dL_alike_201 : decode cL_alike 201 = .ok (.iconst 1, 1) := by decide +kernel
theorem dL_alike_202 : decode cL_alike 202 = .ok (.goto 4, 3) := by decide +kernel
theorem dL_alike_205 : decode cL_alike 205 = .ok (.iconst 0, 1) := by decide +kernel
theorem dL_alike_206 : decode cL_alike 206 = .ok (.istore_n 2, 1) := by decide +kernel
theorem dL_alike_207 : decode cL_alike 207 = .ok (.iinc 3 1, 3) := by decide +kernel
theorem dL_alike_210 : decode cL_alike 210 = .ok (.goto (-33), 3) := by decide +kernel
theorem dL_alike_213 : decode cL_alike 213 = .ok (.iload_n 2, 1) := by decide +kernel
theorem dL_alike_214 : decode cL_alike 214 = .ok (.ifCond .eq 92, 3) := by decide +kernel
theorem dL_alike_217 : decode cL_alike 217 = .ok (.aload_n 0, 1) := by decide +kernel
theorem dL_alike_218 : decode cL_alike 218 = .ok (.iconst 3, 1) := by decide +kernel
theorem dL_alike_219 : decode cL_alike 219 = .ok (.iconst 3, 1) := by decide +kernel
theorem dL_alike_220 : decode cL_alike 220 = .ok (.invokestatic 162, 3) := by decide +kernel
theorem dL_alike_223 : decode cL_alike 223 = .ok (.aload_n 1, 1) := by decide +kernel
theorem dL_alike_224 : decode cL_alike 224 = .ok (.iconst 3, 1) := by decide +kernel
theorem dL_alike_225 : decode cL_alike 225 = .ok (.iconst 3, 1) := by decide +kernel
theorem dL_alike_226 : decode cL_alike 226 = .ok (.invokestatic 162, 3) := by decide +kernel
theorem dL_alike_229 : decode cL_alike 229 = .ok (.if_icmp .ne 77, 3) := by decide +kernel
theorem dL_alike_232 : decode cL_alike 232 = .ok (.aload_n 0, 1) := by decide +kernel
theorem dL_alike_233 : decode cL_alike 233 = .ok (.bipush 9, 2) := by decide +kernel
theorem dL_alike_235 : decode cL_alike 235 = .ok (.invokestatic 151, 3) := by decide +kernel
theorem dL_alike_238 : decode cL_alike 238 = .ok (.aload_n 1, 1) := by decide +kernel
theorem dL_alike_239 : decode cL_alike 239 = .ok (.bipush 9, 2) := by decide +kernel
theorem dL_alike_241 : decode cL_alike 241 = .ok (.invokestatic 151, 3) := by decide +kernel
theorem dL_alike_244 : decode cL_alike 244 = .ok (.if_icmp .ne 62, 3) := by decide +kernel
theorem dL_alike_247 : decode cL_alike 247 = .ok (.aload_n 0, 1) := by decide +kernel
theorem dL_alike_248 : decode cL_alike 248 = .ok (.iconst 2, 1) := by decide +kernel
theorem dL_alike_249 : decode cL_alike 249 = .ok (.bipush 55, 2) := by decide +kernel
theorem dL_alike_251 : decode cL_alike 251 = .ok (.invokestatic 165, 3) := by decide +kernel
theorem dL_alike_254 : decode cL_alike 254 = .ok (.aload_n 1, 1) := by decide +kernel
theorem dL_alike_255 : decode cL_alike 255 = .ok (.iconst 2, 1) := by decide +kernel
theorem dL_alike_256 : decode cL_alike 256 = .ok (.bipush 55, 2) := by decide +kernel
theorem dL_alike_258 : decode cL_alike 258 = .ok (.invokestatic 165, 3) := by decide +kernel
theorem dL_alike_261 : decode cL_alike 261 = .ok (.if_icmp .ne 45, 3) := by decide +kernel
theorem dL_alike_264 : decode cL_alike 264 = .ok (.aload_n 0, 1) := by decide +kernel
theorem dL_alike_265 : decode cL_alike 265 = .ok (.bipush 7, 2) := by decide +kernel
theorem dL_alike_267 : decode cL_alike 267 = .ok (.bipush 20, 2) := by decide +kernel
theorem dL_alike_269 : decode cL_alike 269 = .ok (.invokestatic 175, 3) := by decide +kernel
theorem dL_alike_272 : decode cL_alike 272 = .ok (.aload_n 1, 1) := by decide +kernel
theorem dL_alike_273 : decode cL_alike 273 = .ok (.bipush 7, 2) := by decide +kernel
theorem dL_alike_275 : decode cL_alike 275 = .ok (.bipush 20, 2) := by decide +kernel
theorem dL_alike_277 : decode cL_alike 277 = .ok (.invokestatic 175, 3) := by decide +kernel
theorem dL_alike_280 : decode cL_alike 280 = .ok (.if_icmp .ne 26, 3) := by decide +kernel
theorem dL_alike_283 : decode cL_alike 283 = .ok (.aload_n 0, 1) := by decide +kernel
theorem dL_alike_284 : decode cL_alike 284 = .ok (.iconst 2, 1) := by decide +kernel
theorem dL_alike_285 : decode cL_alike 285 = .ok (.ldc2_w 233, 3) := by decide +kernel
theorem dL_alike_288 : decode cL_alike 288 = .ok (.invokestatic 167, 3) := by decide +kernel
theorem dL_alike_291 : decode cL_alike 291 = .ok (.aload_n 1, 1) := by decide +kernel
theorem dL_alike_292 : decode cL_alike 292 = .ok (.iconst 2, 1) := by decide +kernel
theorem dL_alike_293 : decode cL_alike 293 = .ok (.ldc2_w 233, 3) := by decide +kernel
theorem dL_alike_296 : decode cL_alike 296 = .ok (.invokestatic 167, 3) := by decide +kernel
theorem dL_alike_299 : decode cL_alike 299 = .ok (.if_icmp .ne 7, 3) := by decide +kernel
theorem dL_alike_302 : decode cL_alike 302 = .ok (.iconst 1, 1) := by decide +kernel
theorem dL_alike_303 : decode cL_alike 303 = .ok (.goto 4, 3) := by decide +kernel
theorem dL_alike_306 : decode cL_alike 306 = .ok (.iconst 0, 1) := by decide +kernel
theorem dL_alike_307 : decode cL_alike 307 = .ok (.ireturn, 1) := by decide +kernel
theorem dL_areBeside_0 : decode cL_areBeside 0 = .ok (.iload_n 1, 1) := by decide +kernel
theorem dL_areBeside_1 : decode cL_areBeside 1 = .ok (.iload_n 0, 1) := by decide +kernel
theorem dL_areBeside_2 : decode cL_areBeside 2 = .ok (.idiv, 1) := by decide +kernel
theorem dL_areBeside_3 : decode cL_areBeside 3 = .ok (.iload_n 2, 1) := by decide +kernel
theorem dL_areBeside_4 : decode cL_areBeside 4 = .ok (.iload_n 0, 1) := by decide +kernel
theorem dL_areBeside_5 : decode cL_areBeside 5 = .ok (.idiv, 1) := by decide +kernel
theorem dL_areBeside_6 : decode cL_areBeside 6 = .ok (.isub, 1) := by decide +kernel
theorem dL_areBeside_7 : decode cL_areBeside 7 = .ok (.istore_n 3, 1) := by decide +kernel
theorem dL_areBeside_8 : decode cL_areBeside 8 = .ok (.iload_n 1, 1) := by decide +kernel
theorem dL_areBeside_9 : decode cL_areBeside 9 = .ok (.iload_n 0, 1) := by decide +kernel
theorem dL_areBeside_10 : decode cL_areBeside 10 = .ok (.irem, 1) := by decide +kernel
theorem dL_areBeside_11 : decode cL_areBeside 11 = .ok (.iload_n 2, 1) := by decide +kernel
theorem dL_areBeside_12 : decode cL_areBeside 12 = .ok (.iload_n 0, 1) := by decide +kernel
theorem dL_areBeside_13 : decode cL_areBeside 13 = .ok (.irem, 1) := by decide +kernel
theorem dL_areBeside_14 : decode cL_areBeside 14 = .ok (.isub, 1) := by decide +kernel
theorem dL_areBeside_15 : decode cL_areBeside 15 = .ok (.istore 4, 2) := by decide +kernel
theorem dL_areBeside_17 : decode cL_areBeside 17 = .ok (.iload_n 3, 1) := by decide +kernel
theorem dL_areBeside_18 : decode cL_areBeside 18 = .ok (.iload_n 3, 1) := by decide +kernel
theorem dL_areBeside_19 : decode cL_areBeside 19 = .ok (.imul, 1) := by decide +kernel
theorem dL_areBeside_20 : decode cL_areBeside 20 = .ok (.iload 4, 2) := by decide +kernel
theorem dL_areBeside_22 : decode cL_areBeside 22 = .ok (.iload 4, 2) := by decide +kernel
theorem dL_areBeside_24 : decode cL_areBeside 24 = .ok (.imul, 1) := by decide +kernel
theorem dL_areBeside_25 : decode cL_areBeside 25 = .ok (.iadd, 1) := by decide +kernel
theorem dL_areBeside_26 : decode cL_areBeside 26 = .ok (.iconst 1, 1) := by decide +kernel
theorem dL_areBeside_27 : decode cL_areBeside 27 = .ok (.if_icmp .ne 7, 3) := by decide +kernel
theorem dL_areBeside_30 : decode cL_areBeside 30 = .ok (.iconst 1, 1) := by decide +kernel
theorem dL_areBeside_31 : decode cL_areBeside 31 = .ok (.goto 4, 3) := by decide +kernel
theorem dL_areBeside_34 : decode cL_areBeside 34 = .ok (.iconst 0, 1) := by decide +kernel
theorem dL_areBeside_35 : decode cL_areBeside 35 = .ok (.ireturn, 1) := by decide +kernel
set_option maxRecDepth 20000 in
theorem ggL_bounds_X8_pointCount : GoodIn wsL_bounds wsX8_pointCount := goodIn_r _ [5, 6, 7, 8, 9, 10, 11, 12, 204, 205, 206, 207, 208, 209, 210, 211, 212, 213, 214, 215, 216, 217] (by decide +kernel) (by decide +kernel)
set_option maxRecDepth 20000 in
theorem gL_bounds_X8_pointCount : GoodIn wsL_bounds (wsV RL 107 RX8 yX8_pointCount wsX8_pointCount) := goodIn_app (goodIn_of _ (by decide +kernel)) ggL_bounds_X8_pointCount
set_option maxRecDepth 20000 in
theorem ggL_bounds_L_remaining : GoodIn wsL_bounds wsL_remaining := goodIn_ca (goodIn_r _ [16, 17, 18, 19, 20, 4, 21, 22, 23, 24, 25, 26, 27, 28, 6, 29, 30, 31, 10, 32, 12, 33, 34, 35, 36, 37, 38, 39, 204, 205, 206, 207, 208, 209, 210, 211, 212, 213, 214, 215, 216, 217, 218, 219, 220, 221, 222, 223, 224, 225] (by decide +kernel) (by decide +kernel)) (goodIn_sub (fun _ h => List.mem_cons_of_mem _ (List.mem_append_left _ (List.mem_append_right _ h))) (by decide +kernel))
set_option maxRecDepth 20000 in
theorem gL_bounds_L_remaining : GoodIn wsL_bounds (va_wsS RL 117 yL_remaining wsL_remaining) := goodIn_app (goodIn_of _ (by decide +kernel)) ggL_bounds_L_remaining
set_option maxRecDepth 20000 in
theorem ggL_bounds_L_areBeside : GoodIn wsL_bounds wsL_areBeside := goodIn_r _ [42] (by decide +kernel) (by decide +kernel)
set_option maxRecDepth 20000 in
theorem gL_bounds_L_areBeside : GoodIn wsL_bounds (va_wsS RL 235 yL_areBeside wsL_areBeside) := goodIn_app (goodIn_of _ (by decide +kernel)) ggL_bounds_L_areBeside
set_option maxRecDepth 20000 in
theorem ggL_bounds_X8_bound : GoodIn wsL_bounds wsX8_bound := goodIn_r _ [46, 22, 47, 48, 49, 36, 50, 51, 204, 205, 206, 207, 208, 209, 210, 211, 212, 218, 219, 220, 221, 222, 223, 224, 225] (by decide +kernel) (by decide +kernel)
set_option maxRecDepth 20000 in
theorem gL_bounds_X8_bound : GoodIn wsL_bounds (wsV RL 210 RX8 yX8_bound wsX8_bound) := goodIn_app (goodIn_of _ (by decide +kernel)) ggL_bounds_X8_bound
set_option maxRecDepth 20000 in
theorem ggL_bounds_L_drawn : GoodIn wsL_bounds wsL_drawn := goodIn_ca (goodIn_r _ [54, 17, 55, 56, 57, 4, 58, 22, 23, 24, 25, 26, 27, 28, 6, 29, 30, 31, 10, 32, 12, 59, 60, 61, 36, 62, 63, 204, 205, 206, 207, 208, 209, 210, 211, 212, 213, 214, 215, 216, 217, 218, 219, 220, 221, 222, 223, 224, 225] (by decide +kernel) (by decide +kernel)) (goodIn_sub (fun _ h => List.mem_cons_of_mem _ (List.mem_append_left _ (List.mem_append_right _ h))) (by decide +kernel))
set_option maxRecDepth 20000 in
theorem gL_bounds_L_drawn : GoodIn wsL_bounds (va_wsS RL 115 yL_drawn wsL_drawn) := goodIn_app (goodIn_of _ (by decide +kernel)) ggL_bounds_L_drawn
set_option maxRecDepth 20000 in
theorem ggL_bounds_L_hung : GoodIn wsL_bounds wsL_hung := goodIn_ca (goodIn_r _ [66, 17, 67, 68, 69, 4, 70, 22, 23, 24, 25, 26, 27, 28, 6, 29, 30, 31, 10, 32, 12, 71, 72, 73, 36, 74, 75, 204, 205, 206, 207, 208, 209, 210, 211, 212, 213, 214, 215, 216, 217, 218, 219, 220, 221, 222, 223, 224, 225] (by decide +kernel) (by decide +kernel)) (goodIn_sub (fun _ h => List.mem_cons_of_mem _ (List.mem_append_left _ (List.mem_append_right _ h))) (by decide +kernel))
set_option maxRecDepth 20000 in
theorem gL_bounds_L_hung : GoodIn wsL_bounds (va_wsS RL 126 yL_hung wsL_hung) := goodIn_app (goodIn_of _ (by decide +kernel)) ggL_bounds_L_hung
set_option maxRecDepth 20000 in
theorem ggL_bounds_L_grade : GoodIn wsL_bounds wsL_grade := goodIn_ca (goodIn_ca (goodIn_r _ [78, 17, 79, 80, 81, 82, 4, 83, 22, 23, 24, 25, 26, 27, 28, 6, 29, 30, 31, 10, 32, 12, 84, 85, 86, 87, 88, 89, 90, 91, 36, 92, 38, 39, 93, 204, 205, 206, 207, 208, 209, 210, 211, 212, 213, 214, 215, 216, 217, 218, 219, 220, 221, 222, 223, 224, 225] (by decide +kernel) (by decide +kernel)) (goodIn_sub (fun _ h => List.mem_cons_of_mem _ (List.mem_append_left _ (List.mem_append_right _ h))) (by decide +kernel))) (goodIn_sub (fun _ h => List.mem_cons_of_mem _ (List.mem_append_right _ h)) (by decide +kernel))
set_option maxRecDepth 20000 in
theorem gL_bounds_L_grade : GoodIn wsL_bounds (va_wsS RL 122 yL_grade wsL_grade) := goodIn_app (goodIn_of _ (by decide +kernel)) ggL_bounds_L_grade
set_option maxRecDepth 20000 in
theorem ggL_bounds_L_blockers : GoodIn wsL_bounds wsL_blockers := goodIn_ca (goodIn_r _ [96, 17, 97, 98, 99, 4, 100, 22, 6, 23, 24, 25, 26, 27, 28, 29, 30, 31, 10, 32, 12, 101, 102, 103, 36, 104, 63, 51, 105, 106, 107, 108, 109, 110, 111, 112, 113, 114, 204, 205, 206, 207, 208, 209, 210, 211, 212, 213, 214, 215, 216, 217, 218, 219, 220, 221, 222, 223, 224, 225] (by decide +kernel) (by decide +kernel)) (goodIn_sub (fun _ h => List.mem_cons_of_mem _ (List.mem_append_left _ (List.mem_append_right _ h))) (by decide +kernel))
set_option maxRecDepth 20000 in
theorem gL_bounds_L_blockers : GoodIn wsL_bounds (va_wsS RL 147 yL_blockers wsL_blockers) := goodIn_app (goodIn_of _ (by decide +kernel)) ggL_bounds_L_blockers
set_option maxRecDepth 20000 in
theorem ggL_bounds_L_slack : GoodIn wsL_bounds wsL_slack := goodIn_ca (goodIn_r _ [117, 17, 118, 119, 120, 4, 121, 22, 6, 23, 24, 25, 26, 27, 28, 29, 30, 31, 10, 32, 12, 122, 123, 124, 36, 125, 63, 51, 126, 127, 128, 129, 130, 131, 132, 133, 72, 73, 74, 75, 134, 34, 35, 37, 38, 39, 135, 136, 137, 138, 109, 114, 139, 204, 205, 206, 207, 208, 209, 210, 211, 212, 213, 214, 215, 216, 217, 218, 219, 220, 221, 222, 223, 224, 225] (by decide +kernel) (by decide +kernel)) (goodIn_sub (fun _ h => List.mem_cons_of_mem _ (List.mem_append_left _ (List.mem_append_right _ h))) (by decide +kernel))
set_option maxRecDepth 20000 in
theorem gL_bounds_L_slack : GoodIn wsL_bounds (va_wsS RL 149 yL_slack wsL_slack) := goodIn_app (goodIn_of _ (by decide +kernel)) ggL_bounds_L_slack
set_option maxRecDepth 20000 in
theorem ggL_bounds_L_ready : GoodIn wsL_bounds wsL_ready := goodIn_ca (goodIn_r _ [142, 17, 143, 144, 145, 4, 146, 22, 6, 23, 24, 25, 26, 27, 28, 29, 30, 31, 10, 32, 12, 147, 148, 149, 36, 150, 151, 123, 124, 125, 63, 51, 126, 127, 128, 129, 130, 131, 132, 133, 72, 73, 74, 75, 134, 34, 35, 37, 38, 39, 135, 136, 137, 138, 109, 114, 139, 204, 205, 206, 207, 208, 209, 210, 211, 212, 213, 214, 215, 216, 217, 218, 219, 220, 221, 222, 223, 224, 225] (by decide +kernel) (by decide +kernel)) (goodIn_sub (fun _ h => List.mem_cons_of_mem _ (List.mem_append_left _ (List.mem_append_right _ h))) (by decide +kernel))
set_option maxRecDepth 20000 in
theorem gL_bounds_L_ready : GoodIn wsL_bounds (va_wsS RL 144 yL_ready wsL_ready) := goodIn_app (goodIn_of _ (by decide +kernel)) ggL_bounds_L_ready
set_option maxRecDepth 20000 in
theorem ggL_bounds_L_slices : GoodIn wsL_bounds wsL_slices := goodIn_ca (goodIn_r _ [154, 17, 155, 156, 157, 4, 158, 22, 23, 24, 25, 26, 27, 28, 6, 29, 30, 31, 10, 32, 12, 159, 160, 161, 36, 162, 38, 204, 205, 206, 207, 208, 209, 210, 211, 212, 213, 214, 215, 216, 217, 218, 219, 220, 221, 222, 223, 224, 225] (by decide +kernel) (by decide +kernel)) (goodIn_sub (fun _ h => List.mem_cons_of_mem _ (List.mem_append_left _ (List.mem_append_right _ h))) (by decide +kernel))
set_option maxRecDepth 20000 in
theorem gL_bounds_L_slices : GoodIn wsL_bounds (va_wsS RL 119 yL_slices wsL_slices) := goodIn_app (goodIn_of _ (by decide +kernel)) ggL_bounds_L_slices
set_option maxRecDepth 20000 in
theorem ggL_bounds_X8_nextByOrder : GoodIn wsL_bounds wsX8_nextByOrder := goodIn_r _ [166, 22, 6, 167, 168, 169, 36, 170, 171, 8, 9, 10, 11, 12, 151, 123, 124, 125, 63, 51, 126, 127, 128, 129, 130, 131, 132, 133, 72, 73, 74, 75, 134, 34, 35, 37, 38, 39, 135, 136, 137, 138, 109, 114, 139, 172, 90, 91, 92, 93, 204, 205, 206, 207, 208, 209, 210, 211, 212, 213, 214, 215, 216, 217, 218, 219, 220, 221, 222, 223, 224, 225] (by decide +kernel) (by decide +kernel)
set_option maxRecDepth 20000 in
theorem gL_bounds_X8_nextByOrder : GoodIn wsL_bounds (wsV RL 230 RX8 yX8_nextByOrder wsX8_nextByOrder) := goodIn_app (goodIn_of _ (by decide +kernel)) ggL_bounds_X8_nextByOrder
set_option maxRecDepth 20000 in
theorem ggL_bounds_L_ahead : GoodIn wsL_bounds wsL_ahead := goodIn_ca (goodIn_r _ [175, 79, 176, 177, 178, 4, 179, 180, 22, 6, 84, 85, 86, 87, 88, 181, 182, 183, 36, 184, 39, 185, 186, 187, 188, 93, 38, 63, 51, 75, 189, 190, 191, 192, 193, 194, 195, 168, 169, 170, 171, 8, 9, 10, 11, 12, 151, 123, 124, 125, 126, 127, 128, 129, 130, 131, 132, 133, 72, 73, 74, 134, 34, 35, 37, 135, 136, 137, 138, 109, 114, 139, 172, 90, 91, 92, 196, 197, 198, 199, 200, 201, 202, 203, 167, 204, 205, 206, 207, 208, 209, 210, 211, 212, 218, 219, 220, 221, 222, 223, 224, 225, 213, 214, 215, 216, 217] (by decide +kernel) (by decide +kernel)) (goodIn_sub (fun _ h => List.mem_cons_of_mem _ (List.mem_append_right _ h)) (by decide +kernel))
set_option maxRecDepth 20000 in
theorem gL_bounds_L_ahead : GoodIn wsL_bounds (va_wsS RL 151 yL_ahead wsL_ahead) := goodIn_app (goodIn_of _ (by decide +kernel)) ggL_bounds_L_ahead
theorem dL_bounds_0 : decode cL_bounds 0 = .ok (.aload_n 0, 1) := by decide +kernel
theorem dL_bounds_1 : decode cL_bounds 1 = .ok (.invokevirtual 107, 3) := by decide +kernel
theorem dL_bounds_4 : decode cL_bounds 4 = .ok (.istore_n 2, 1) := by decide +kernel
theorem dL_bounds_5 : decode cL_bounds 5 = .ok (.iconst 1, 1) := by decide +kernel
theorem dL_bounds_6 : decode cL_bounds 6 = .ok (.istore_n 3, 1) := by decide +kernel
theorem dL_bounds_7 : decode cL_bounds 7 = .ok (.bipush (-9), 2) := by decide +kernel
theorem dL_bounds_9 : decode cL_bounds 9 = .ok (.istore 4, 2) := by decide +kernel
theorem dL_bounds_11 : decode cL_bounds 11 = .ok (.iconst 0, 1) := by decide +kernel
theorem dL_bounds_12 : decode cL_bounds 12 = .ok (.istore 5, 2) := by decide +kernel
theorem dL_bounds_14 : decode cL_bounds 14 = .ok (.iconst (-1), 1) := by decide +kernel
theorem dL_bounds_15 : decode cL_bounds 15 = .ok (.istore 6, 2) := by decide +kernel
theorem dL_bounds_17 : decode cL_bounds 17 = .ok (.iconst 0, 1) := by decide +kernel
theorem dL_bounds_18 : decode cL_bounds 18 = .ok (.istore 7, 2) := by decide +kernel
theorem dL_bounds_20 : decode cL_bounds 20 = .ok (.iload 7, 2) := by decide +kernel
theorem dL_bounds_22 : decode cL_bounds 22 = .ok (.iload_n 2, 1) := by decide +kernel
theorem dL_bounds_23 : decode cL_bounds 23 = .ok (.if_icmp .ge 333, 3) := by decide +kernel
theorem dL_bounds_26 : decode cL_bounds 26 = .ok (.iload_n 3, 1) := by decide +kernel
theorem dL_bounds_27 : decode cL_bounds 27 = .ok (.ifCond .eq 329, 3) := by decide +kernel
theorem dL_bounds_30 : decode cL_bounds 30 = .ok (.aload_n 0, 1) := by decide +kernel
theorem dL_bounds_31 : decode cL_bounds 31 = .ok (.iload 7, 2) := by decide +kernel
theorem dL_bounds_33 : decode cL_bounds 33 = .ok (.invokestatic 117, 3) := by decide +kernel
theorem dL_bounds_36 : decode cL_bounds 36 = .ok (.istore 8, 2) := by decide +kernel
theorem dL_bounds_38 : decode cL_bounds 38 = .ok (.iconst 0, 1) := by decide +kernel
theorem dL_bounds_39 : decode cL_bounds 39 = .ok (.istore 9, 2) := by decide +kernel
theorem dL_bounds_41 : decode cL_bounds 41 = .ok (.iload 8, 2) := by decide +kernel
theorem dL_bounds_43 : decode cL_bounds 43 = .ok (.istore 10, 2) := by decide +kernel
theorem dL_bounds_45 : decode cL_bounds 45 = .ok (.iconst 0, 1) := by decide +kernel
theorem dL_bounds_46 : decode cL_bounds 46 = .ok (.istore 11, 2) := by decide +kernel
theorem dL_bounds_48 : decode cL_bounds 48 = .ok (.iload 11, 2) := by decide +kernel
theorem dL_bounds_50 : decode cL_bounds 50 = .ok (.iload_n 2, 1) := by decide +kernel
theorem dL_bounds_51 : decode cL_bounds 51 = .ok (.if_icmp .ge 89, 3) := by decide +kernel
theorem dL_bounds_54 : decode cL_bounds 54 = .ok (.iload_n 1, 1) := by decide +kernel
theorem dL_bounds_55 : decode cL_bounds 55 = .ok (.iload 7, 2) := by decide +kernel
theorem dL_bounds_57 : decode cL_bounds 57 = .ok (.iload 11, 2) := by decide +kernel
theorem dL_bounds_59 : decode cL_bounds 59 = .ok (.invokestatic 235, 3) := by decide +kernel
theorem dL_bounds_62 : decode cL_bounds 62 = .ok (.ifCond .eq 72, 3) := by decide +kernel
theorem dL_bounds_65 : decode cL_bounds 65 = .ok (.aload_n 0, 1) := by decide +kernel
theorem dL_bounds_66 : decode cL_bounds 66 = .ok (.invokevirtual 210, 3) := by decide +kernel
theorem dL_bounds_69 : decode cL_bounds 69 = .ok (.aload_n 0, 1) := by decide +kernel
theorem dL_bounds_70 : decode cL_bounds 70 = .ok (.iload 7, 2) := by decide +kernel
theorem dL_bounds_72 : decode cL_bounds 72 = .ok (.invokestatic 115, 3) := by decide +kernel
theorem dL_bounds_75 : decode cL_bounds 75 = .ok (.isub, 1) := by decide +kernel
theorem dL_bounds_76 : decode cL_bounds 76 = .ok (.aload_n 0, 1) := by decide +kernel
theorem dL_bounds_77 : decode cL_bounds 77 = .ok (.iload 11, 2) := by decide +kernel
theorem dL_bounds_79 : decode cL_bounds 79 = .ok (.invokestatic 115, 3) := by decide +kernel
theorem dL_bounds_82 : decode cL_bounds 82 = .ok (.iadd, 1) := by decide +kernel
theorem dL_bounds_83 : decode cL_bounds 83 = .ok (.istore 12, 2) := by decide +kernel
theorem dL_bounds_85 : decode cL_bounds 85 = .ok (.iload_n 3, 1) := by decide +kernel
theorem dL_bounds_86 : decode cL_bounds 86 = .ok (.ifCond .eq 12, 3) := by decide +kernel
theorem dL_bounds_89 : decode cL_bounds 89 = .ok (.iload 12, 2) := by decide +kernel
theorem dL_bounds_91 : decode cL_bounds 91 = .ok (.ifCond .lt 7, 3) := by decide +kernel
theorem dL_bounds_94 : decode cL_bounds 94 = .ok (.iconst 1, 1) := by decide +kernel
theorem dL_bounds_95 : decode cL_bounds 95 = .ok (.goto 4, 3) := by decide +kernel
theorem dL_bounds_98 : decode cL_bounds 98 = .ok (.iconst 0, 1) := by decide +kernel
theorem dL_bounds_99 : decode cL_bounds 99 = .ok (.istore_n 3, 1) := by decide +kernel
theorem dL_bounds_100 : decode cL_bounds 100 = .ok (.iload 9, 2) := by decide +kernel
theorem dL_bounds_102 : decode cL_bounds 102 = .ok (.iload 12, 2) := by decide +kernel
theorem dL_bounds_104 : decode cL_bounds 104 = .ok (.ifCond .ne 10, 3) := by decide +kernel
theorem dL_bounds_107 : decode cL_bounds 107 = .ok (.iconst 1, 1) := by decide +kernel
theorem dL_bounds_108 : decode cL_bounds 108 = .ok (.iload 11, 2) := by decide +kernel
theorem dL_bounds_110 : decode cL_bounds 110 = .ok (.ishl, 1) := by decide +kernel
theorem dL_bounds_111 : decode cL_bounds 111 = .ok (.goto 4, 3) := by decide +kernel
theorem dL_bounds_114 : decode cL_bounds 114 = .ok (.iconst 0, 1) := by decide +kernel
theorem dL_bounds_115 : decode cL_bounds 115 = .ok (.ior, 1) := by decide +kernel
theorem dL_bounds_116 : decode cL_bounds 116 = .ok (.istore 9, 2) := by decide +kernel
theorem dL_bounds_118 : decode cL_bounds 118 = .ok (.iload 12, 2) := by decide +kernel
theorem dL_bounds_120 : decode cL_bounds 120 = .ok (.iload 10, 2) := by decide +kernel
theorem dL_bounds_122 : decode cL_bounds 122 = .ok (.if_icmp .ge 8, 3) := by decide +kernel
theorem dL_bounds_125 : decode cL_bounds 125 = .ok (.iload 12, 2) := by decide +kernel
theorem dL_bounds_127 : decode cL_bounds 127 = .ok (.goto 5, 3) := by decide +kernel
theorem dL_bounds_130 : decode cL_bounds 130 = .ok (.iload 10, 2) := by decide +kernel
theorem dL_bounds_132 : decode cL_bounds 132 = .ok (.istore 10, 2) := by decide +kernel
theorem dL_bounds_134 : decode cL_bounds 134 = .ok (.iinc 11 1, 3) := by decide +kernel
theorem dL_bounds_137 : decode cL_bounds 137 = .ok (.goto (-89), 3) := by decide +kernel
theorem dL_bounds_140 : decode cL_bounds 140 = .ok (.aload_n 0, 1) := by decide +kernel
theorem dL_bounds_141 : decode cL_bounds 141 = .ok (.iload 7, 2) := by decide +kernel
theorem dL_bounds_143 : decode cL_bounds 143 = .ok (.invokestatic 126, 3) := by decide +kernel
theorem dL_bounds_146 : decode cL_bounds 146 = .ok (.iconst 1, 1) := by decide +kernel
theorem dL_bounds_147 : decode cL_bounds 147 = .ok (.if_icmp .ne 7, 3) := by decide +kernel
theorem dL_bounds_150 : decode cL_bounds 150 = .ok (.iconst 0, 1) := by decide +kernel
theorem dL_bounds_151 : decode cL_bounds 151 = .ok (.goto 5, 3) := by decide +kernel
theorem dL_bounds_154 : decode cL_bounds 154 = .ok (.iload 10, 2) := by decide +kernel
theorem dL_bounds_156 : decode cL_bounds 156 = .ok (.istore 10, 2) := by decide +kernel
theorem dL_bounds_158 : decode cL_bounds 158 = .ok (.aload_n 0, 1) := by decide +kernel
theorem dL_bounds_159 : decode cL_bounds 159 = .ok (.iload 7, 2) := by decide +kernel
theorem dL_bounds_161 : decode cL_bounds 161 = .ok (.iconst 0, 1) := by decide +kernel
theorem dL_bounds_162 : decode cL_bounds 162 = .ok (.invokestatic 122, 3) := by decide +kernel
theorem dL_bounds_165 : decode cL_bounds 165 = .ok (.istore 11, 2) := by decide +kernel
theorem dL_bounds_167 : decode cL_bounds 167 = .ok (.iload_n 3, 1) := by decide +kernel
theorem dL_bounds_168 : decode cL_bounds 168 = .ok (.ifCond .eq 142, 3) := by decide +kernel
theorem dL_bounds_171 : decode cL_bounds 171 = .ok (.aload_n 0, 1) := by decide +kernel
theorem dL_bounds_172 : decode cL_bounds 172 = .ok (.iload 7, 2) := by decide +kernel
theorem dL_bounds_174 : decode cL_bounds 174 = .ok (.invokestatic 147, 3) := by decide +kernel
theorem dL_bounds_177 : decode cL_bounds 177 = .ok (.iload 9, 2) := by decide +kernel
theorem dL_bounds_179 : decode cL_bounds 179 = .ok (.if_icmp .ne 131, 3) := by decide +kernel
theorem dL_bounds_182 : decode cL_bounds 182 = .ok (.aload_n 0, 1) := by decide +kernel
theorem dL_bounds_183 : decode cL_bounds 183 = .ok (.iload 7, 2) := by decide +kernel
theorem dL_bounds_185 : decode cL_bounds 185 = .ok (.invokestatic 149, 3) := by decide +kernel
theorem dL_bounds_188 : decode cL_bounds 188 = .ok (.iload 10, 2) := by decide +kernel
theorem dL_bounds_190 : decode cL_bounds 190 = .ok (.if_icmp .ne 120, 3) := by decide +kernel
theorem dL_bounds_193 : decode cL_bounds 193 = .ok (.aload_n 0, 1) := by decide +kernel
theorem dL_bounds_194 : decode cL_bounds 194 = .ok (.iload 7, 2) := by decide +kernel
theorem dL_bounds_196 : decode cL_bounds 196 = .ok (.invokestatic 144, 3) := by decide +kernel
theorem dL_bounds_199 : decode cL_bounds 199 = .ok (.iconst 1, 1) := by decide +kernel
theorem dL_bounds_200 : decode cL_bounds 200 = .ok (.if_icmp .ne 7, 3) := by decide +kernel
theorem dL_bounds_203 : decode cL_bounds 203 = .ok (.iconst 1, 1) := by decide +kernel
theorem dL_bounds_204 : decode cL_bounds 204 = .ok (.goto 4, 3) := by decide +kernel
theorem dL_bounds_207 : decode cL_bounds 207 = .ok (.iconst 0, 1) := by decide +kernel
theorem dL_bounds_208 : decode cL_bounds 208 = .ok (.iload 10, 2) := by decide +kernel
theorem dL_bounds_210 : decode cL_bounds 210 = .ok (.ifCond .le 7, 3) := by decide +kernel
theorem dL_bounds_213 : decode cL_bounds 213 = .ok (.iconst 1, 1) := by decide +kernel
theorem dL_bounds_214 : decode cL_bounds 214 = .ok (.goto 4, 3) := by decide +kernel
theorem dL_bounds_217 : decode cL_bounds 217 = .ok (.iconst 0, 1) := by decide +kernel
theorem dL_bounds_218 : decode cL_bounds 218 = .ok (.if_icmp .ne 92, 3) := by decide +kernel
theorem dL_bounds_221 : decode cL_bounds 221 = .ok (.iload 11, 2) := by decide +kernel
theorem dL_bounds_223 : decode cL_bounds 223 = .ok (.bipush (-9), 2) := by decide +kernel
theorem dL_bounds_225 : decode cL_bounds 225 = .ok (.if_icmp .ne 7, 3) := by decide +kernel
theorem dL_bounds_228 : decode cL_bounds 228 = .ok (.iconst 1, 1) := by decide +kernel
theorem dL_bounds_229 : decode cL_bounds 229 = .ok (.goto 4, 3) := by decide +kernel
theorem dL_bounds_232 : decode cL_bounds 232 = .ok (.iconst 0, 1) := by decide +kernel
theorem dL_bounds_233 : decode cL_bounds 233 = .ok (.iload 8, 2) := by decide +kernel
theorem dL_bounds_235 : decode cL_bounds 235 = .ok (.ifCond .ne 7, 3) := by decide +kernel
theorem dL_bounds_238 : decode cL_bounds 238 = .ok (.iconst 1, 1) := by decide +kernel
theorem dL_bounds_239 : decode cL_bounds 239 = .ok (.goto 4, 3) := by decide +kernel
theorem dL_bounds_242 : decode cL_bounds 242 = .ok (.iconst 0, 1) := by decide +kernel
theorem dL_bounds_243 : decode cL_bounds 243 = .ok (.if_icmp .ne 67, 3) := by decide +kernel
theorem dL_bounds_246 : decode cL_bounds 246 = .ok (.aload_n 0, 1) := by decide +kernel
theorem dL_bounds_247 : decode cL_bounds 247 = .ok (.iload 7, 2) := by decide +kernel
theorem dL_bounds_249 : decode cL_bounds 249 = .ok (.invokestatic 119, 3) := by decide +kernel
theorem dL_bounds_252 : decode cL_bounds 252 = .ok (.ifCond .le 7, 3) := by decide +kernel
theorem dL_bounds_255 : decode cL_bounds 255 = .ok (.iconst 1, 1) := by decide +kernel
theorem dL_bounds_256 : decode cL_bounds 256 = .ok (.goto 4, 3) := by decide +kernel
theorem dL_bounds_259 : decode cL_bounds 259 = .ok (.iconst 0, 1) := by decide +kernel
theorem dL_bounds_260 : decode cL_bounds 260 = .ok (.iload 8, 2) := by decide +kernel
theorem dL_bounds_262 : decode cL_bounds 262 = .ok (.ifCond .le 7, 3) := by decide +kernel
theorem dL_bounds_265 : decode cL_bounds 265 = .ok (.iconst 1, 1) := by decide +kernel
theorem dL_bounds_266 : decode cL_bounds 266 = .ok (.goto 4, 3) := by decide +kernel
theorem dL_bounds_269 : decode cL_bounds 269 = .ok (.iconst 0, 1) := by decide +kernel
theorem dL_bounds_270 : decode cL_bounds 270 = .ok (.if_icmp .ne 40, 3) := by decide +kernel
theorem dL_bounds_273 : decode cL_bounds 273 = .ok (.iload 8, 2) := by decide +kernel
theorem dL_bounds_275 : decode cL_bounds 275 = .ok (.ifCond .eq 18, 3) := by decide +kernel
theorem dL_bounds_278 : decode cL_bounds 278 = .ok (.aload_n 0, 1) := by decide +kernel
theorem dL_bounds_279 : decode cL_bounds 279 = .ok (.iload 7, 2) := by decide +kernel
theorem dL_bounds_281 : decode cL_bounds 281 = .ok (.iload 8, 2) := by decide +kernel
theorem dL_bounds_283 : decode cL_bounds 283 = .ok (.iconst 1, 1) := by decide +kernel
theorem dL_bounds_284 : decode cL_bounds 284 = .ok (.isub, 1) := by decide +kernel
theorem dL_bounds_285 : decode cL_bounds 285 = .ok (.invokestatic 122, 3) := by decide +kernel
theorem dL_bounds_288 : decode cL_bounds 288 = .ok (.bipush (-9), 2) := by decide +kernel
theorem dL_bounds_290 : decode cL_bounds 290 = .ok (.if_icmp .eq 20, 3) := by decide +kernel
theorem dL_bounds_293 : decode cL_bounds 293 = .ok (.aload_n 0, 1) := by decide +kernel
theorem dL_bounds_294 : decode cL_bounds 294 = .ok (.iload 7, 2) := by decide +kernel
theorem dL_bounds_296 : decode cL_bounds 296 = .ok (.iload 8, 2) := by decide +kernel
theorem dL_bounds_298 : decode cL_bounds 298 = .ok (.invokestatic 122, 3) := by decide +kernel
theorem dL_bounds_301 : decode cL_bounds 301 = .ok (.bipush (-9), 2) := by decide +kernel
theorem dL_bounds_303 : decode cL_bounds 303 = .ok (.if_icmp .ne 7, 3) := by decide +kernel
theorem dL_bounds_306 : decode cL_bounds 306 = .ok (.iconst 1, 1) := by decide +kernel
theorem dL_bounds_307 : decode cL_bounds 307 = .ok (.goto 4, 3) := by decide +kernel
theorem dL_bounds_310 : decode cL_bounds 310 = .ok (.iconst 0, 1) := by decide +kernel
theorem dL_bounds_311 : decode cL_bounds 311 = .ok (.istore_n 3, 1) := by decide +kernel
theorem dL_bounds_312 : decode cL_bounds 312 = .ok (.iload 10, 2) := by decide +kernel
theorem dL_bounds_314 : decode cL_bounds 314 = .ok (.iload 5, 2) := by decide +kernel
theorem dL_bounds_316 : decode cL_bounds 316 = .ok (.if_icmp .gt 22, 3) := by decide +kernel
theorem dL_bounds_319 : decode cL_bounds 319 = .ok (.iload 10, 2) := by decide +kernel
theorem dL_bounds_321 : decode cL_bounds 321 = .ok (.ifCond .le 29, 3) := by decide +kernel
theorem dL_bounds_324 : decode cL_bounds 324 = .ok (.iload 10, 2) := by decide +kernel
theorem dL_bounds_326 : decode cL_bounds 326 = .ok (.iload 5, 2) := by decide +kernel
theorem dL_bounds_328 : decode cL_bounds 328 = .ok (.if_icmp .ne 22, 3) := by decide +kernel
theorem dL_bounds_331 : decode cL_bounds 331 = .ok (.iload 11, 2) := by decide +kernel
theorem dL_bounds_333 : decode cL_bounds 333 = .ok (.iload 6, 2) := by decide +kernel
theorem dL_bounds_335 : decode cL_bounds 335 = .ok (.if_icmp .le 15, 3) := by decide +kernel
theorem dL_bounds_338 : decode cL_bounds 338 = .ok (.iload 7, 2) := by decide +kernel
theorem dL_bounds_340 : decode cL_bounds 340 = .ok (.istore 4, 2) := by decide +kernel
theorem dL_bounds_342 : decode cL_bounds 342 = .ok (.iload 10, 2) := by decide +kernel
theorem dL_bounds_344 : decode cL_bounds 344 = .ok (.istore 5, 2) := by decide +kernel
theorem dL_bounds_346 : decode cL_bounds 346 = .ok (.iload 11, 2) := by decide +kernel
theorem dL_bounds_348 : decode cL_bounds 348 = .ok (.istore 6, 2) := by decide +kernel
theorem dL_bounds_350 : decode cL_bounds 350 = .ok (.iinc 7 1, 3) := by decide +kernel
theorem dL_bounds_353 : decode cL_bounds 353 = .ok (.goto (-333), 3) := by decide +kernel
theorem dL_bounds_356 : decode cL_bounds 356 = .ok (.iload_n 3, 1) := by decide +kernel
theorem dL_bounds_357 : decode cL_bounds 357 = .ok (.ifCond .eq 26, 3) := by decide +kernel
theorem dL_bounds_360 : decode cL_bounds 360 = .ok (.aload_n 0, 1) := by decide +kernel
theorem dL_bounds_361 : decode cL_bounds 361 = .ok (.invokevirtual 230, 3) := by decide +kernel
theorem dL_bounds_364 : decode cL_bounds 364 = .ok (.iload 4, 2) := by decide +kernel
theorem dL_bounds_366 : decode cL_bounds 366 = .ok (.if_icmp .ne 17, 3) := by decide +kernel
theorem dL_bounds_369 : decode cL_bounds 369 = .ok (.aload_n 0, 1) := by decide +kernel
theorem dL_bounds_370 : decode cL_bounds 370 = .ok (.iconst 0, 1) := by decide +kernel
theorem dL_bounds_371 : decode cL_bounds 371 = .ok (.invokestatic 151, 3) := by decide +kernel
theorem dL_bounds_374 : decode cL_bounds 374 = .ok (.iload 4, 2) := by decide +kernel
theorem dL_bounds_376 : decode cL_bounds 376 = .ok (.if_icmp .ne 7, 3) := by decide +kernel
theorem dL_bounds_379 : decode cL_bounds 379 = .ok (.iconst 1, 1) := by decide +kernel
theorem dL_bounds_380 : decode cL_bounds 380 = .ok (.goto 4, 3) := by decide +kernel
theorem dL_bounds_383 : decode cL_bounds 383 = .ok (.iconst 0, 1) := by decide +kernel

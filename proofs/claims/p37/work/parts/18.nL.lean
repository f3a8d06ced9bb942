theorem dL_cell_0 : decode cL_cell 0 = .ok (.iload_n 1, 1) := by decide +kernel
theorem dL_cell_1 : decode cL_cell 1 = .ok (.aload_n 0, 1) := by decide +kernel
theorem dL_cell_2 : decode cL_cell 2 = .ok (.arraylength, 1) := by decide +kernel
theorem dL_cell_3 : decode cL_cell 3 = .ok (.if_icmp .ge 9, 3) := by decide +kernel
theorem dL_cell_6 : decode cL_cell 6 = .ok (.aload_n 0, 1) := by decide +kernel
theorem dL_cell_7 : decode cL_cell 7 = .ok (.iload_n 1, 1) := by decide +kernel
theorem dL_cell_8 : decode cL_cell 8 = .ok (.iaload, 1) := by decide +kernel
theorem dL_cell_9 : decode cL_cell 9 = .ok (.goto 11, 3) := by decide +kernel
theorem dL_cell_12 : decode cL_cell 12 = .ok (.ldc 7, 2) := by decide +kernel
theorem dL_cell_14 : decode cL_cell 14 = .ok (.iload_n 1, 1) := by decide +kernel
theorem dL_cell_15 : decode cL_cell 15 = .ok (.imul, 1) := by decide +kernel
theorem dL_cell_16 : decode cL_cell 16 = .ok (.sipush 10099, 3) := by decide +kernel
theorem dL_cell_19 : decode cL_cell 19 = .ok (.iadd, 1) := by decide +kernel
theorem dL_cell_20 : decode cL_cell 20 = .ok (.ldc 8, 2) := by decide +kernel
theorem dL_cell_22 : decode cL_cell 22 = .ok (.iand, 1) := by decide +kernel
theorem dL_cell_23 : decode cL_cell 23 = .ok (.ireturn, 1) := by decide +kernel
set_option maxRecDepth 20000 in
theorem ggL_append_X8_append : GoodIn wsL_append wsX8_append := goodIn_ca (goodIn_ca (goodIn_r _ [7, 8, 9, 10, 11, 12, 6, 13, 14, 15, 16, 17, 18, 19, 20, 21, 22, 23, 24, 25, 26, 27, 28, 29, 30, 31, 32, 33, 34, 35, 36, 37] (by decide +kernel) (by decide +kernel)) (goodIn_sub (fun _ h => List.mem_cons_of_mem _ (List.mem_append_left _ (List.mem_append_right _ h))) (by decide +kernel))) (goodIn_sub (fun _ h => List.mem_cons_of_mem _ (List.mem_append_right _ h)) (by decide +kernel))
set_option maxRecDepth 20000 in
theorem gL_append_X8_append : GoodIn wsL_append (wsV RL 9 RX8 yX8_append wsX8_append) := goodIn_app (goodIn_of _ (by decide +kernel)) ggL_append_X8_append
theorem dL_append_0 : decode cL_append 0 = .ok (.aload_n 0, 1) := by decide +kernel
theorem dL_append_1 : decode cL_append 1 = .ok (.iload_n 1, 1) := by decide +kernel
theorem dL_append_2 : decode cL_append 2 = .ok (.invokevirtual 9, 3) := by decide +kernel
theorem dL_append_5 : decode cL_append 5 = .ok (.ireturn, 1) := by decide +kernel
theorem dL_append_6 : decode cL_append 6 = .ok (.astore_n 2, 1) := by decide +kernel
theorem dL_append_7 : decode cL_append 7 = .ok (.bipush (-102), 2) := by decide +kernel
theorem dL_append_9 : decode cL_append 9 = .ok (.ireturn, 1) := by decide +kernel
theorem dL_append_10 : decode cL_append 10 = .ok (.astore_n 2, 1) := by decide +kernel
theorem dL_append_11 : decode cL_append 11 = .ok (.bipush (-103), 2) := by decide +kernel
theorem dL_append_13 : decode cL_append 13 = .ok (.ireturn, 1) := by decide +kernel
set_option maxRecDepth 20000 in
theorem ggL_load_X8_load : GoodIn wsL_load wsX8_load := goodIn_ca (goodIn_r _ [6, 7, 8, 9, 10, 11, 12, 13, 14, 15, 16, 17, 18, 19, 20, 21, 22, 23, 24, 25, 26, 27, 28, 29, 30, 31, 32, 33, 34, 35, 36, 37, 38, 39, 40, 41, 42, 43, 44, 45, 46, 47, 48, 49, 50, 51, 52, 53, 54, 55, 56, 57, 58, 59, 60, 61, 62, 63, 64, 65, 66, 67, 68, 69, 70, 71, 72, 73, 74, 75, 76, 77, 78, 79, 80, 81, 82, 83, 84, 85, 86, 87, 88, 89, 90, 91, 92, 93, 94, 95, 96, 97, 98, 99, 100, 101, 102, 103, 104, 105, 106, 107, 108, 109, 110, 111, 112, 113, 114, 115, 116, 117, 118, 119, 120, 121, 122, 123, 124, 125, 126, 127, 128, 129, 130, 131, 132, 133, 134, 135, 136, 137, 138, 139, 140, 141] (by decide +kernel) (by decide +kernel)) (goodIn_sub (fun _ h => List.mem_cons_of_mem _ (List.mem_append_right _ h)) (by decide +kernel))
set_option maxRecDepth 20000 in
theorem gL_load_X8_load : GoodIn wsL_load (wsV RL 19 RX8 yX8_load wsX8_load) := goodIn_app (goodIn_of _ (by decide +kernel)) ggL_load_X8_load
theorem dL_load_0 : decode cL_load 0 = .ok (.aload_n 0, 1) := by decide +kernel
theorem dL_load_1 : decode cL_load 1 = .ok (.invokevirtual 19, 3) := by decide +kernel
theorem dL_load_4 : decode cL_load 4 = .ok (.ireturn, 1) := by decide +kernel
theorem dL_load_5 : decode cL_load 5 = .ok (.astore_n 1, 1) := by decide +kernel
theorem dL_load_6 : decode cL_load 6 = .ok (.bipush (-103), 2) := by decide +kernel
theorem dL_load_8 : decode cL_load 8 = .ok (.ireturn, 1) := by decide +kernel
set_option maxRecDepth 20000 in
theorem ggL_drawn_X8_drawn : GoodIn wsL_drawn wsX8_drawn := goodIn_ca (goodIn_r _ [6, 7, 8, 9, 10, 5, 11, 12, 13, 14, 15, 16, 17, 18, 19, 20, 21, 22, 23, 24, 25, 26, 27, 28, 29, 30, 31, 32, 33, 34, 35, 36, 37, 38, 39, 40, 41, 42, 43, 44, 45, 46, 47, 48] (by decide +kernel) (by decide +kernel)) (goodIn_sub (fun _ h => List.mem_cons_of_mem _ (List.mem_append_right _ h)) (by decide +kernel))
set_option maxRecDepth 20000 in
theorem gL_drawn_X8_drawn : GoodIn wsL_drawn (wsV RL 23 RX8 yX8_drawn wsX8_drawn) := goodIn_app (goodIn_of _ (by decide +kernel)) ggL_drawn_X8_drawn
theorem dL_drawn_0 : decode cL_drawn 0 = .ok (.aload_n 0, 1) := by decide +kernel
theorem dL_drawn_1 : decode cL_drawn 1 = .ok (.iload_n 1, 1) := by decide +kernel
theorem dL_drawn_2 : decode cL_drawn 2 = .ok (.invokevirtual 23, 3) := by decide +kernel
theorem dL_drawn_5 : decode cL_drawn 5 = .ok (.ireturn, 1) := by decide +kernel
theorem dL_drawn_6 : decode cL_drawn 6 = .ok (.astore_n 2, 1) := by decide +kernel
theorem dL_drawn_7 : decode cL_drawn 7 = .ok (.bipush (-101), 2) := by decide +kernel
theorem dL_drawn_9 : decode cL_drawn 9 = .ok (.ireturn, 1) := by decide +kernel
set_option maxRecDepth 20000 in
theorem ggL_remaining_X8_remaining : GoodIn wsL_remaining wsX8_remaining := goodIn_ca (goodIn_r _ [6, 7, 8, 9, 10, 5, 11, 12, 13, 14, 15, 16, 17, 18, 19, 20, 21, 22, 23, 24, 25, 26, 27, 28, 29, 30, 31, 32, 33, 34, 35, 36, 37, 38, 39, 40, 41, 42, 43, 44, 45, 46, 47, 48, 49] (by decide +kernel) (by decide +kernel)) (goodIn_sub (fun _ h => List.mem_cons_of_mem _ (List.mem_append_right _ h)) (by decide +kernel))
set_option maxRecDepth 20000 in
theorem gL_remaining_X8_remaining : GoodIn wsL_remaining (wsV RL 28 RX8 yX8_remaining wsX8_remaining) := goodIn_app (goodIn_of _ (by decide +kernel)) ggL_remaining_X8_remaining
theorem dL_remaining_0 : decode cL_remaining 0 = .ok (.aload_n 0, 1) := by decide +kernel
theorem dL_remaining_1 : decode cL_remaining 1 = .ok (.iload_n 1, 1) := by decide +kernel
theorem dL_remaining_2 : decode cL_remaining 2 = .ok (.invokevirtual 28, 3) := by decide +kernel
theorem dL_remaining_5 : decode cL_remaining 5 = .ok (.ireturn, 1) := by decide +kernel
theorem dL_remaining_6 : decode cL_remaining 6 = .ok (.astore_n 2, 1) := by decide +kernel
theorem dL_remaining_7 : decode cL_remaining 7 = .ok (.bipush (-101), 2) := by decide +kernel
theorem dL_remaining_9 : decode cL_remaining 9 = .ok (.ireturn, 1) := by decide +kernel
set_option maxRecDepth 20000 in
theorem ggL_slices_X8_sliceCount : GoodIn wsL_slices wsX8_sliceCount := goodIn_ca (goodIn_r _ [6, 7, 8, 9, 10, 5, 11, 12, 13, 14, 15, 16, 17, 18, 19, 20, 21, 22, 23, 24, 25, 26, 27, 28, 29, 30, 31, 32, 33, 34, 35, 36, 37, 38, 39, 40, 41, 42, 43, 44, 45, 46, 47, 48] (by decide +kernel) (by decide +kernel)) (goodIn_sub (fun _ h => List.mem_cons_of_mem _ (List.mem_append_right _ h)) (by decide +kernel))
set_option maxRecDepth 20000 in
theorem gL_slices_X8_sliceCount : GoodIn wsL_slices (wsV RL 31 RX8 yX8_sliceCount wsX8_sliceCount) := goodIn_app (goodIn_of _ (by decide +kernel)) ggL_slices_X8_sliceCount
theorem dL_slices_0 : decode cL_slices 0 = .ok (.aload_n 0, 1) := by decide +kernel
theorem dL_slices_1 : decode cL_slices 1 = .ok (.iload_n 1, 1) := by decide +kernel
theorem dL_slices_2 : decode cL_slices 2 = .ok (.invokevirtual 31, 3) := by decide +kernel
theorem dL_slices_5 : decode cL_slices 5 = .ok (.ireturn, 1) := by decide +kernel
theorem dL_slices_6 : decode cL_slices 6 = .ok (.astore_n 2, 1) := by decide +kernel
theorem dL_slices_7 : decode cL_slices 7 = .ok (.bipush (-101), 2) := by decide +kernel
theorem dL_slices_9 : decode cL_slices 9 = .ok (.ireturn, 1) := by decide +kernel
set_option maxRecDepth 20000 in
theorem ggL_grade_X8_gradeAhead : GoodIn wsL_grade wsX8_gradeAhead := goodIn_ca (goodIn_ca (goodIn_r _ [7, 8, 9, 10, 11, 6, 12, 13, 14, 15, 16, 17, 18, 19, 20, 21, 22, 23, 24, 25, 26, 27, 28, 29, 30, 31, 32, 33, 34, 35, 36, 37, 38, 39, 40, 41, 42, 43, 44, 45, 46, 47, 48, 49, 50, 51, 52, 53, 54, 55, 56] (by decide +kernel) (by decide +kernel)) (goodIn_sub (fun _ h => List.mem_cons_of_mem _ (List.mem_append_left _ (List.mem_append_right _ h))) (by decide +kernel))) (goodIn_sub (fun _ h => List.mem_cons_of_mem _ (List.mem_append_right _ h)) (by decide +kernel))
set_option maxRecDepth 20000 in
theorem gL_grade_X8_gradeAhead : GoodIn wsL_grade (wsV RL 34 RX8 yX8_gradeAhead wsX8_gradeAhead) := goodIn_app (goodIn_of _ (by decide +kernel)) ggL_grade_X8_gradeAhead
theorem dL_grade_0 : decode cL_grade 0 = .ok (.aload_n 0, 1) := by decide +kernel
theorem dL_grade_1 : decode cL_grade 1 = .ok (.iload_n 1, 1) := by decide +kernel
theorem dL_grade_2 : decode cL_grade 2 = .ok (.iload_n 2, 1) := by decide +kernel
theorem dL_grade_3 : decode cL_grade 3 = .ok (.invokevirtual 34, 3) := by decide +kernel
theorem dL_grade_6 : decode cL_grade 6 = .ok (.ireturn, 1) := by decide +kernel
theorem dL_grade_7 : decode cL_grade 7 = .ok (.astore_n 3, 1) := by decide +kernel
theorem dL_grade_8 : decode cL_grade 8 = .ok (.bipush (-101), 2) := by decide +kernel
theorem dL_grade_10 : decode cL_grade 10 = .ok (.ireturn, 1) := by decide +kernel
theorem dL_grade_11 : decode cL_grade 11 = .ok (.astore_n 3, 1) := by decide +kernel
theorem dL_grade_12 : decode cL_grade 12 = .ok (.bipush (-102), 2) := by decide +kernel
theorem dL_grade_14 : decode cL_grade 14 = .ok (.ireturn, 1) := by decide +kernel
set_option maxRecDepth 20000 in
theorem ggL_hung_X8_isHung : GoodIn wsL_hung wsX8_isHung := goodIn_ca (goodIn_r _ [6, 7, 8, 9, 10, 5, 11, 12, 13, 14, 15, 16, 17, 18, 19, 20, 21, 22, 23, 24, 25, 26, 27, 28, 29, 30, 31, 32, 33, 34, 35, 36, 37, 38, 39, 40, 41, 42, 43, 44, 45, 46, 47, 48] (by decide +kernel) (by decide +kernel)) (goodIn_sub (fun _ h => List.mem_cons_of_mem _ (List.mem_append_right _ h)) (by decide +kernel))
set_option maxRecDepth 20000 in
theorem gL_hung_X8_isHung : GoodIn wsL_hung (wsV RL 38 RX8 yX8_isHung wsX8_isHung) := goodIn_app (goodIn_of _ (by decide +kernel)) ggL_hung_X8_isHung
theorem dL_hung_0 : decode cL_hung 0 = .ok (.aload_n 0, 1) := by decide +kernel
theorem dL_hung_1 : decode cL_hung 1 = .ok (.iload_n 1, 1) := by decide +kernel
theorem dL_hung_2 : decode cL_hung 2 = .ok (.invokevirtual 38, 3) := by decide +kernel
theorem dL_hung_5 : decode cL_hung 5 = .ok (.ifCond .eq 7, 3) := by decide +kernel
theorem dL_hung_8 : decode cL_hung 8 = .ok (.iconst 1, 1) := by decide +kernel
theorem dL_hung_9 : decode cL_hung 9 = .ok (.goto 4, 3) := by decide +kernel
theorem dL_hung_12 : decode cL_hung 12 = .ok (.iconst 0, 1) := by decide +kernel
theorem dL_hung_13 : decode cL_hung 13 = .ok (.ireturn, 1) := by decide +kernel
theorem dL_hung_14 : decode cL_hung 14 = .ok (.astore_n 2, 1) := by decide +kernel
theorem dL_hung_15 : decode cL_hung 15 = .ok (.bipush (-101), 2) := by decide +kernel
theorem dL_hung_17 : decode cL_hung 17 = .ok (.ireturn, 1) := by decide +kernel
set_option maxRecDepth 20000 in
theorem ggL_draw_X8_draw : GoodIn wsL_draw wsX8_draw := goodIn_ca (goodIn_ca (goodIn_r _ [7, 8, 9, 10, 11, 12, 13, 14, 15, 6, 16, 17, 18, 19, 20, 21, 22, 23, 24, 25, 26, 27, 28, 29, 30, 31, 32, 33, 34, 35, 36, 37, 38, 39, 40, 41, 42, 43, 44, 45, 46, 47, 48, 49, 50, 51, 52, 53, 54, 55, 56, 57, 58, 59, 60, 61, 62, 63, 64, 65, 66, 67, 68, 69, 70, 71, 72, 73, 74, 75, 76, 77, 78, 79, 80, 81, 82, 83, 84, 85, 86, 87, 88, 89, 90, 91, 92, 93, 94, 95, 96, 97, 98, 99, 100, 101, 102, 103, 104, 105, 106, 107, 108, 109, 110, 111, 112] (by decide +kernel) (by decide +kernel)) (goodIn_sub (fun _ h => List.mem_cons_of_mem _ (List.mem_append_left _ (List.mem_append_right _ h))) (by decide +kernel))) (goodIn_sub (fun _ h => List.mem_cons_of_mem _ (List.mem_append_right _ h)) (by decide +kernel))
set_option maxRecDepth 20000 in
theorem gL_draw_X8_draw : GoodIn wsL_draw (wsV RL 42 RX8 yX8_draw wsX8_draw) := goodIn_app (goodIn_of _ (by decide +kernel)) ggL_draw_X8_draw
theorem dL_draw_0 : decode cL_draw 0 = .ok (.aload_n 0, 1) := by decide +kernel
theorem dL_draw_1 : decode cL_draw 1 = .ok (.iload_n 1, 1) := by decide +kernel
theorem dL_draw_2 : decode cL_draw 2 = .ok (.invokevirtual 42, 3) := by decide +kernel
theorem dL_draw_5 : decode cL_draw 5 = .ok (.ireturn, 1) := by decide +kernel
theorem dL_draw_6 : decode cL_draw 6 = .ok (.astore_n 2, 1) := by decide +kernel
theorem dL_draw_7 : decode cL_draw 7 = .ok (.bipush (-101), 2) := by decide +kernel
theorem dL_draw_9 : decode cL_draw 9 = .ok (.ireturn, 1) := by decide +kernel
theorem dL_draw_10 : decode cL_draw 10 = .ok (.astore_n 2, 1) := by decide +kernel
theorem dL_draw_11 : decode cL_draw 11 = .ok (.bipush (-103), 2) := by decide +kernel
theorem dL_draw_13 : decode cL_draw 13 = .ok (.ireturn, 1) := by decide +kernel
set_option maxRecDepth 20000 in
theorem ggL_byOrder_X8_drawByOrder : GoodIn wsL_byOrder wsX8_drawByOrder := goodIn_ca (goodIn_r _ [6, 7, 8, 9, 10, 11, 5, 12, 13, 14, 15, 16, 17, 18, 19, 20, 21, 22, 23, 24, 25, 26, 27, 28, 29, 30, 31, 32, 33, 34, 35, 36, 37, 38, 39, 40, 41, 42, 43, 44, 45, 46, 47, 48, 49, 50, 51, 52, 53, 54, 55, 56, 57, 58, 59, 60, 61, 62, 63, 64, 65, 66, 67, 68, 69, 70, 71, 72, 73, 74, 75, 76, 77, 78, 79, 80, 81, 82, 83, 84, 85, 86, 87, 88, 89, 90, 91, 92, 93, 94, 95, 96, 97, 98, 99, 100, 101, 102, 103, 104, 105, 106, 107, 108, 109, 110, 111, 112, 113, 114, 115, 116] (by decide +kernel) (by decide +kernel)) (goodIn_sub (fun _ h => List.mem_cons_of_mem _ (List.mem_append_right _ h)) (by decide +kernel))
set_option maxRecDepth 20000 in
theorem gL_byOrder_X8_drawByOrder : GoodIn wsL_byOrder (wsV RL 45 RX8 yX8_drawByOrder wsX8_drawByOrder) := goodIn_app (goodIn_of _ (by decide +kernel)) ggL_byOrder_X8_drawByOrder
theorem dL_byOrder_0 : decode cL_byOrder 0 = .ok (.aload_n 0, 1) := by decide +kernel
theorem dL_byOrder_1 : decode cL_byOrder 1 = .ok (.iload_n 1, 1) := by decide +kernel
theorem dL_byOrder_2 : decode cL_byOrder 2 = .ok (.invokevirtual 45, 3) := by decide +kernel
theorem dL_byOrder_5 : decode cL_byOrder 5 = .ok (.ireturn, 1) := by decide +kernel
theorem dL_byOrder_6 : decode cL_byOrder 6 = .ok (.astore_n 2, 1) := by decide +kernel
theorem dL_byOrder_7 : decode cL_byOrder 7 = .ok (.bipush (-102), 2) := by decide +kernel
theorem dL_byOrder_9 : decode cL_byOrder 9 = .ok (.ireturn, 1) := by decide +kernel
set_option maxRecDepth 20000 in
theorem ggL_hang_X8_hang : GoodIn wsL_hang wsX8_hang := goodIn_ca (goodIn_ca (goodIn_r _ [7, 8, 9, 10, 11, 12, 13, 14, 6, 15, 16, 17, 18, 19, 20, 21, 22, 23, 24, 25, 26, 27, 28, 29, 30, 31, 32, 33, 34, 35, 36, 37, 38, 39, 40, 41, 42, 43, 44, 45, 46, 47, 48, 49, 50, 51, 52, 53, 54, 55, 56, 57, 58, 59, 60, 61, 62, 63, 64, 65, 66, 67, 68, 69, 70, 71, 72, 73, 74, 75, 76, 77, 78, 79, 80, 81, 82, 83, 84, 85, 86, 87, 88, 89, 90, 91, 92, 93] (by decide +kernel) (by decide +kernel)) (goodIn_sub (fun _ h => List.mem_cons_of_mem _ (List.mem_append_left _ (List.mem_append_right _ h))) (by decide +kernel))) (goodIn_sub (fun _ h => List.mem_cons_of_mem _ (List.mem_append_right _ h)) (by decide +kernel))
set_option maxRecDepth 20000 in
theorem gL_hang_X8_hang : GoodIn wsL_hang (wsV RL 48 RX8 yX8_hang wsX8_hang) := goodIn_app (goodIn_of _ (by decide +kernel)) ggL_hang_X8_hang
theorem dL_hang_0 : decode cL_hang 0 = .ok (.aload_n 0, 1) := by decide +kernel
theorem dL_hang_1 : decode cL_hang 1 = .ok (.iload_n 1, 1) := by decide +kernel
theorem dL_hang_2 : decode cL_hang 2 = .ok (.invokevirtual 48, 3) := by decide +kernel
theorem dL_hang_5 : decode cL_hang 5 = .ok (.ireturn, 1) := by decide +kernel
theorem dL_hang_6 : decode cL_hang 6 = .ok (.astore_n 2, 1) := by decide +kernel
theorem dL_hang_7 : decode cL_hang 7 = .ok (.bipush (-101), 2) := by decide +kernel
theorem dL_hang_9 : decode cL_hang 9 = .ok (.ireturn, 1) := by decide +kernel
theorem dL_hang_10 : decode cL_hang 10 = .ok (.astore_n 2, 1) := by decide +kernel
theorem dL_hang_11 : decode cL_hang 11 = .ok (.bipush (-103), 2) := by decide +kernel
theorem dL_hang_13 : decode cL_hang 13 = .ok (.ireturn, 1) := by decide +kernel
set_option maxRecDepth 20000 in
theorem ggL_release_X8_release : GoodIn wsL_release wsX8_release := goodIn_ca (goodIn_ca (goodIn_r _ [7, 8, 9, 10, 11, 12, 13, 14, 6, 15, 16, 17, 18, 19, 20, 21, 22, 23, 24, 25, 26, 27, 28, 29, 30, 31, 32, 33, 34, 35, 36, 37, 38, 39, 40, 41, 42, 43, 44, 45, 46, 47, 48, 49, 50, 51, 52, 53, 54, 55, 56, 57, 58, 59, 60, 61, 62, 63, 64, 65, 66, 67, 68, 69, 70, 71, 72, 73, 74, 75, 76, 77, 78, 79, 80, 81, 82, 83, 84, 85, 86, 87, 88, 89, 90, 91, 92, 93] (by decide +kernel) (by decide +kernel)) (goodIn_sub (fun _ h => List.mem_cons_of_mem _ (List.mem_append_left _ (List.mem_append_right _ h))) (by decide +kernel))) (goodIn_sub (fun _ h => List.mem_cons_of_mem _ (List.mem_append_right _ h)) (by decide +kernel))
set_option maxRecDepth 20000 in
theorem gL_release_X8_release : GoodIn wsL_release (wsV RL 51 RX8 yX8_release wsX8_release) := goodIn_app (goodIn_of _ (by decide +kernel)) ggL_release_X8_release
theorem dL_release_0 : decode cL_release 0 = .ok (.aload_n 0, 1) := by decide +kernel
theorem dL_release_1 : decode cL_release 1 = .ok (.iload_n 1, 1) := by decide +kernel
theorem dL_release_2 : decode cL_release 2 = .ok (.invokevirtual 51, 3) := by decide +kernel
theorem dL_release_5 : decode cL_release 5 = .ok (.ireturn, 1) := by decide +kernel
theorem dL_release_6 : decode cL_release 6 = .ok (.astore_n 2, 1) := by decide +kernel
theorem dL_release_7 : decode cL_release 7 = .ok (.bipush (-101), 2) := by decide +kernel
theorem dL_release_9 : decode cL_release 9 = .ok (.ireturn, 1) := by decide +kernel
theorem dL_release_10 : decode cL_release 10 = .ok (.astore_n 2, 1) := by decide +kernel
theorem dL_release_11 : decode cL_release 11 = .ok (.bipush (-103), 2) := by decide +kernel
theorem dL_release_13 : decode cL_release 13 = .ok (.ireturn, 1) := by decide +kernel
set_option maxRecDepth 20000 in
theorem ggL_add_X8_addSlice : GoodIn wsL_add wsX8_addSlice := goodIn_ca (goodIn_ca (goodIn_ca (goodIn_r _ [8, 9, 10, 11, 12, 13, 14, 15, 7, 16, 17, 18, 19, 20, 21, 22, 23, 24, 25, 26, 27, 28, 29, 30, 31, 32, 33, 34, 35, 36, 37, 38, 39, 40, 41, 42, 43, 44, 45, 46, 47, 48, 49, 50, 51, 52, 53, 54, 55, 56, 57, 58, 59, 60, 61, 62, 63, 64, 65, 66, 67, 68, 69, 70, 71, 72, 73, 74, 75, 76, 77, 78, 79, 80, 81, 82, 83, 84, 85, 86, 87, 88] (by decide +kernel) (by decide +kernel)) (goodIn_sub (fun _ h => List.mem_cons_of_mem _ (List.mem_append_left _ (List.mem_append_left _ (List.mem_append_right _ h)))) (by decide +kernel))) (goodIn_sub (fun _ h => List.mem_cons_of_mem _ (List.mem_append_left _ (List.mem_append_right _ h))) (by decide +kernel))) (goodIn_sub (fun _ h => List.mem_cons_of_mem _ (List.mem_append_right _ h)) (by decide +kernel))
set_option maxRecDepth 20000 in
theorem gL_add_X8_addSlice : GoodIn wsL_add (wsV RL 54 RX8 yX8_addSlice wsX8_addSlice) := goodIn_app (goodIn_of _ (by decide +kernel)) ggL_add_X8_addSlice
theorem dL_add_0 : decode cL_add 0 = .ok (.aload_n 0, 1) := by decide +kernel
theorem dL_add_1 : decode cL_add 1 = .ok (.iload_n 1, 1) := by decide +kernel
theorem dL_add_2 : decode cL_add 2 = .ok (.iload_n 2, 1) := by decide +kernel
theorem dL_add_3 : decode cL_add 3 = .ok (.iload_n 3, 1) := by decide +kernel
theorem dL_add_4 : decode cL_add 4 = .ok (.invokevirtual 54, 3) := by decide +kernel
theorem dL_add_7 : decode cL_add 7 = .ok (.ireturn, 1) := by decide +kernel
theorem dL_add_8 : decode cL_add 8 = .ok (.astore 4, 2) := by decide +kernel
theorem dL_add_10 : decode cL_add 10 = .ok (.bipush (-101), 2) := by decide +kernel
theorem dL_add_12 : decode cL_add 12 = .ok (.ireturn, 1) := by decide +kernel
theorem dL_add_13 : decode cL_add 13 = .ok (.astore 4, 2) := by decide +kernel
theorem dL_add_15 : decode cL_add 15 = .ok (.bipush (-102), 2) := by decide +kernel
theorem dL_add_17 : decode cL_add 17 = .ok (.ireturn, 1) := by decide +kernel
theorem dL_add_18 : decode cL_add 18 = .ok (.astore 4, 2) := by decide +kernel
theorem dL_add_20 : decode cL_add 20 = .ok (.bipush (-103), 2) := by decide +kernel
theorem dL_add_22 : decode cL_add 22 = .ok (.ireturn, 1) := by decide +kernel
set_option maxRecDepth 20000 in
theorem ggL_setBound_X8_setBound : GoodIn wsL_setBound wsX8_setBound := goodIn_ca (goodIn_ca (goodIn_r _ [7, 8, 9, 10, 11, 12, 13, 14, 6, 15, 16, 17, 18, 19, 20, 21, 22, 23, 24, 25, 26, 27, 28, 29, 30, 31, 32, 33, 34, 35, 36, 37, 38, 39, 40, 41, 42, 43, 44, 45, 46, 47, 48, 49, 50, 51, 52, 53, 54, 55, 56, 57, 58, 59, 60, 61, 62, 63, 64, 65, 66, 67, 68, 69, 70, 71, 72, 73, 74, 75, 76, 77, 78, 79, 80, 81, 82, 83, 84, 85, 86, 87, 88, 89, 90, 91, 92, 93, 94, 95] (by decide +kernel) (by decide +kernel)) (goodIn_sub (fun _ h => List.mem_cons_of_mem _ (List.mem_append_left _ (List.mem_append_right _ h))) (by decide +kernel))) (goodIn_sub (fun _ h => List.mem_cons_of_mem _ (List.mem_append_right _ h)) (by decide +kernel))
set_option maxRecDepth 20000 in
theorem gL_setBound_X8_setBound : GoodIn wsL_setBound (wsV RL 58 RX8 yX8_setBound wsX8_setBound) := goodIn_app (goodIn_of _ (by decide +kernel)) ggL_setBound_X8_setBound
theorem dL_setBound_0 : decode cL_setBound 0 = .ok (.aload_n 0, 1) := by decide +kernel
theorem dL_setBound_1 : decode cL_setBound 1 = .ok (.iload_n 1, 1) := by decide +kernel
theorem dL_setBound_2 : decode cL_setBound 2 = .ok (.invokevirtual 58, 3) := by decide +kernel
theorem dL_setBound_5 : decode cL_setBound 5 = .ok (.ireturn, 1) := by decide +kernel
theorem dL_setBound_6 : decode cL_setBound 6 = .ok (.astore_n 2, 1) := by decide +kernel
theorem dL_setBound_7 : decode cL_setBound 7 = .ok (.bipush (-102), 2) := by decide +kernel
theorem dL_setBound_9 : decode cL_setBound 9 = .ok (.ireturn, 1) := by decide +kernel
theorem dL_setBound_10 : decode cL_setBound 10 = .ok (.astore_n 2, 1) := by decide +kernel
theorem dL_setBound_11 : decode cL_setBound 11 = .ok (.bipush (-103), 2) := by decide +kernel
theorem dL_setBound_13 : decode cL_setBound 13 = .ok (.ireturn, 1) := by decide +kernel
set_option maxRecDepth 20000 in
theorem ggL_undo_X8_undo : GoodIn wsL_undo wsX8_undo := goodIn_ca (goodIn_r _ [6, 7, 8, 9, 10, 11, 12, 13, 14, 15, 16, 17, 18, 19, 20, 21, 22, 23, 24, 25, 26, 27, 28, 29, 30, 31, 32, 33, 34, 35, 36, 37, 38, 39, 40, 41, 42, 43, 44, 45, 46, 47, 48, 49, 50, 51, 52, 53, 54, 55, 56, 57, 58, 59] (by decide +kernel) (by decide +kernel)) (goodIn_sub (fun _ h => List.mem_cons_of_mem _ (List.mem_append_right _ h)) (by decide +kernel))
set_option maxRecDepth 20000 in
theorem gL_undo_X8_undo : GoodIn wsL_undo (wsV RL 61 RX8 yX8_undo wsX8_undo) := goodIn_app (goodIn_of _ (by decide +kernel)) ggL_undo_X8_undo
theorem dL_undo_0 : decode cL_undo 0 = .ok (.aload_n 0, 1) := by decide +kernel
theorem dL_undo_1 : decode cL_undo 1 = .ok (.invokevirtual 61, 3) := by decide +kernel
theorem dL_undo_4 : decode cL_undo 4 = .ok (.ireturn, 1) := by decide +kernel
theorem dL_undo_5 : decode cL_undo 5 = .ok (.astore_n 1, 1) := by decide +kernel
theorem dL_undo_6 : decode cL_undo 6 = .ok (.bipush (-103), 2) := by decide +kernel
theorem dL_undo_8 : decode cL_undo 8 = .ok (.ireturn, 1) := by decide +kernel
set_option maxRecDepth 20000 in
theorem ggL_ready_X8_isReady : GoodIn wsL_ready wsX8_isReady := goodIn_ca (goodIn_r _ [6, 7, 8, 9, 10, 11, 5, 12, 13, 14, 15, 16, 17, 18, 19, 20, 21, 22, 23, 24, 25, 26, 27, 28, 29, 30, 31, 32, 33, 34, 35, 36, 37, 38, 39, 40, 41, 42, 43, 44, 45, 46, 47, 48, 49, 50, 51, 52, 53, 54, 55, 56, 57, 58, 59, 60, 61, 62, 63, 64, 65, 66, 67, 68, 69, 70, 71, 72, 73, 74, 75, 76, 77, 78] (by decide +kernel) (by decide +kernel)) (goodIn_sub (fun _ h => List.mem_cons_of_mem _ (List.mem_append_right _ h)) (by decide +kernel))
set_option maxRecDepth 20000 in
theorem gL_ready_X8_isReady : GoodIn wsL_ready (wsV RL 64 RX8 yX8_isReady wsX8_isReady) := goodIn_app (goodIn_of _ (by decide +kernel)) ggL_ready_X8_isReady
theorem dL_ready_0 : decode cL_ready 0 = .ok (.aload_n 0, 1) := by decide +kernel
theorem dL_ready_1 : decode cL_ready 1 = .ok (.iload_n 1, 1) := by decide +kernel
theorem dL_ready_2 : decode cL_ready 2 = .ok (.invokevirtual 64, 3) := by decide +kernel
theorem dL_ready_5 : decode cL_ready 5 = .ok (.ifCond .eq 7, 3) := by decide +kernel
theorem dL_ready_8 : decode cL_ready 8 = .ok (.iconst 1, 1) := by decide +kernel
theorem dL_ready_9 : decode cL_ready 9 = .ok (.goto 4, 3) := by decide +kernel
theorem dL_ready_12 : decode cL_ready 12 = .ok (.iconst 0, 1) := by decide +kernel
theorem dL_ready_13 : decode cL_ready 13 = .ok (.ireturn, 1) := by decide +kernel
theorem dL_ready_14 : decode cL_ready 14 = .ok (.astore_n 2, 1) := by decide +kernel
theorem dL_ready_15 : decode cL_ready 15 = .ok (.bipush (-101), 2) := by decide +kernel
theorem dL_ready_17 : decode cL_ready 17 = .ok (.ireturn, 1) := by decide +kernel
set_option maxRecDepth 20000 in
theorem ggL_blockers_X8_blockers : GoodIn wsL_blockers wsX8_blockers := goodIn_ca (goodIn_r _ [6, 7, 8, 9, 10, 11, 5, 12, 13, 14, 15, 16, 17, 18, 19, 20, 21, 22, 23, 24, 25, 26, 27, 28, 29, 30, 31, 32, 33, 34, 35, 36, 37, 38, 39, 40, 41, 42, 43, 44, 45, 46, 47, 48, 49, 50, 51, 52, 53, 54, 55, 56, 57, 58, 59] (by decide +kernel) (by decide +kernel)) (goodIn_sub (fun _ h => List.mem_cons_of_mem _ (List.mem_append_right _ h)) (by decide +kernel))
set_option maxRecDepth 20000 in
theorem gL_blockers_X8_blockers : GoodIn wsL_blockers (wsV RL 67 RX8 yX8_blockers wsX8_blockers) := goodIn_app (goodIn_of _ (by decide +kernel)) ggL_blockers_X8_blockers
theorem dL_blockers_0 : decode cL_blockers 0 = .ok (.aload_n 0, 1) := by decide +kernel
theorem dL_blockers_1 : decode cL_blockers 1 = .ok (.iload_n 1, 1) := by decide +kernel
theorem dL_blockers_2 : decode cL_blockers 2 = .ok (.invokevirtual 67, 3) := by decide +kernel
theorem dL_blockers_5 : decode cL_blockers 5 = .ok (.ireturn, 1) := by decide +kernel
theorem dL_blockers_6 : decode cL_blockers 6 = .ok (.astore_n 2, 1) := by decide +kernel
theorem dL_blockers_7 : decode cL_blockers 7 = .ok (.bipush (-101), 2) := by decide +kernel
theorem dL_blockers_9 : decode cL_blockers 9 = .ok (.ireturn, 1) := by decide +kernel
set_option maxRecDepth 20000 in
theorem ggL_slack_X8_slack : GoodIn wsL_slack wsX8_slack := goodIn_ca (goodIn_r _ [6, 7, 8, 9, 10, 11, 5, 12, 13, 14, 15, 16, 17, 18, 19, 20, 21, 22, 23, 24, 25, 26, 27, 28, 29, 30, 31, 32, 33, 34, 35, 36, 37, 38, 39, 40, 41, 42, 43, 44, 45, 46, 47, 48, 49, 50, 51, 52, 53, 54, 55, 56, 57, 58, 59, 60, 61, 62, 63, 64, 65, 66, 67, 68, 69, 70, 71, 72, 73, 74] (by decide +kernel) (by decide +kernel)) (goodIn_sub (fun _ h => List.mem_cons_of_mem _ (List.mem_append_right _ h)) (by decide +kernel))
set_option maxRecDepth 20000 in
theorem gL_slack_X8_slack : GoodIn wsL_slack (wsV RL 70 RX8 yX8_slack wsX8_slack) := goodIn_app (goodIn_of _ (by decide +kernel)) ggL_slack_X8_slack
theorem dL_slack_0 : decode cL_slack 0 = .ok (.aload_n 0, 1) := by decide +kernel
theorem dL_slack_1 : decode cL_slack 1 = .ok (.iload_n 1, 1) := by decide +kernel
theorem dL_slack_2 : decode cL_slack 2 = .ok (.invokevirtual 70, 3) := by decide +kernel
theorem dL_slack_5 : decode cL_slack 5 = .ok (.ireturn, 1) := by decide +kernel
theorem dL_slack_6 : decode cL_slack 6 = .ok (.astore_n 2, 1) := by decide +kernel
theorem dL_slack_7 : decode cL_slack 7 = .ok (.bipush (-101), 2) := by decide +kernel
theorem dL_slack_9 : decode cL_slack 9 = .ok (.ireturn, 1) := by decide +kernel
set_option maxRecDepth 20000 in
theorem ggL_ahead_X8_orderAhead : GoodIn wsL_ahead wsX8_orderAhead := goodIn_ca (goodIn_r _ [6, 7, 8, 9, 10, 11, 5, 12, 13, 14, 15, 16, 17, 18, 19, 20, 21, 22, 23, 24, 25, 26, 27, 28, 29, 30, 31, 32, 33, 34, 35, 36, 37, 38, 39, 40, 41, 42, 43, 44, 45, 46, 47, 48, 49, 50, 51, 52, 53, 54, 55, 56, 57, 58, 59, 60, 61, 62, 63, 64, 65, 66, 67, 68, 69, 70, 71, 72, 73, 74, 75, 76, 77, 78, 79, 80, 81, 82, 83, 84, 85, 86, 87, 88, 89, 90, 91, 92, 93, 94, 95, 96, 97, 98, 99, 100, 101, 102, 103, 104, 105, 106] (by decide +kernel) (by decide +kernel)) (goodIn_sub (fun _ h => List.mem_cons_of_mem _ (List.mem_append_right _ h)) (by decide +kernel))
set_option maxRecDepth 20000 in
theorem gL_ahead_X8_orderAhead : GoodIn wsL_ahead (wsV RL 73 RX8 yX8_orderAhead wsX8_orderAhead) := goodIn_app (goodIn_of _ (by decide +kernel)) ggL_ahead_X8_orderAhead
theorem dL_ahead_0 : decode cL_ahead 0 = .ok (.aload_n 0, 1) := by decide +kernel
theorem dL_ahead_1 : decode cL_ahead 1 = .ok (.iload_n 1, 1) := by decide +kernel
theorem dL_ahead_2 : decode cL_ahead 2 = .ok (.invokevirtual 73, 3) := by decide +kernel
theorem dL_ahead_5 : decode cL_ahead 5 = .ok (.ireturn, 1) := by decide +kernel
theorem dL_ahead_6 : decode cL_ahead 6 = .ok (.astore_n 2, 1) := by decide +kernel
theorem dL_ahead_7 : decode cL_ahead 7 = .ok (.bipush (-102), 2) := by decide +kernel
theorem dL_ahead_9 : decode cL_ahead 9 = .ok (.ireturn, 1) := by decide +kernel
set_option maxRecDepth 20000 in
theorem ggL_waste_X8_bucketsToWaste : GoodIn wsL_waste wsX8_bucketsToWaste := goodIn_ca (goodIn_ca (goodIn_r _ [7, 8, 9, 10, 11, 6, 12, 13, 14, 15, 16, 17, 18, 19, 20, 21, 22, 23, 24, 25, 26, 27, 28, 29, 30, 31, 32, 33, 34, 35, 36, 37, 38, 39, 40, 41, 42, 43, 44, 45, 46, 47, 48, 49, 50, 51, 52, 53, 54, 55, 56] (by decide +kernel) (by decide +kernel)) (goodIn_sub (fun _ h => List.mem_cons_of_mem _ (List.mem_append_left _ (List.mem_append_right _ h))) (by decide +kernel))) (goodIn_sub (fun _ h => List.mem_cons_of_mem _ (List.mem_append_right _ h)) (by decide +kernel))
set_option maxRecDepth 20000 in
theorem gL_waste_X8_bucketsToWaste : GoodIn wsL_waste (wsV RL 76 RX8 yX8_bucketsToWaste wsX8_bucketsToWaste) := goodIn_app (goodIn_of _ (by decide +kernel)) ggL_waste_X8_bucketsToWaste
theorem dL_waste_0 : decode cL_waste 0 = .ok (.aload_n 0, 1) := by decide +kernel
theorem dL_waste_1 : decode cL_waste 1 = .ok (.iload_n 1, 1) := by decide +kernel
theorem dL_waste_2 : decode cL_waste 2 = .ok (.iload_n 2, 1) := by decide +kernel
theorem dL_waste_3 : decode cL_waste 3 = .ok (.invokevirtual 76, 3) := by decide +kernel
theorem dL_waste_6 : decode cL_waste 6 = .ok (.ireturn, 1) := by decide +kernel
theorem dL_waste_7 : decode cL_waste 7 = .ok (.astore_n 3, 1) := by decide +kernel
theorem dL_waste_8 : decode cL_waste 8 = .ok (.bipush (-101), 2) := by decide +kernel
theorem dL_waste_10 : decode cL_waste 10 = .ok (.ireturn, 1) := by decide +kernel
theorem dL_waste_11 : decode cL_waste 11 = .ok (.astore_n 3, 1) := by decide +kernel
theorem dL_waste_12 : decode cL_waste 12 = .ok (.bipush (-102), 2) := by decide +kernel
theorem dL_waste_14 : decode cL_waste 14 = .ok (.ireturn, 1) := by decide +kernel
set_option maxRecDepth 20000 in
theorem ggL_bucketsFor_X8_bucketsFor : GoodIn wsL_bucketsFor wsX8_bucketsFor := goodIn_ca (goodIn_ca (goodIn_r _ [7, 8, 9, 10, 11, 12, 6, 13, 14, 15, 16, 17, 18, 19, 20, 21, 22, 23, 24, 25, 26, 27, 28, 29, 30, 31, 32, 33, 34, 35, 36, 37, 38, 39, 40, 41, 42, 43, 44, 45, 46, 47, 48, 49, 50, 51, 52, 53, 54, 55, 56, 57, 58, 59, 60, 61, 62, 63, 64, 65, 66, 67, 68, 69, 70, 71, 72, 73, 74, 75, 76, 77, 78, 79, 80] (by decide +kernel) (by decide +kernel)) (goodIn_sub (fun _ h => List.mem_cons_of_mem _ (List.mem_append_left _ (List.mem_append_right _ h))) (by decide +kernel))) (goodIn_sub (fun _ h => List.mem_cons_of_mem _ (List.mem_append_right _ h)) (by decide +kernel))
set_option maxRecDepth 20000 in
theorem gL_bucketsFor_X8_bucketsFor : GoodIn wsL_bucketsFor (wsV RL 79 RX8 yX8_bucketsFor wsX8_bucketsFor) := goodIn_app (goodIn_of _ (by decide +kernel)) ggL_bucketsFor_X8_bucketsFor
theorem dL_bucketsFor_0 : decode cL_bucketsFor 0 = .ok (.aload_n 0, 1) := by decide +kernel
theorem dL_bucketsFor_1 : decode cL_bucketsFor 1 = .ok (.iload_n 1, 1) := by decide +kernel
theorem dL_bucketsFor_2 : decode cL_bucketsFor 2 = .ok (.iload_n 2, 1) := by decide +kernel
theorem dL_bucketsFor_3 : decode cL_bucketsFor 3 = .ok (.invokevirtual 79, 3) := by decide +kernel
theorem dL_bucketsFor_6 : decode cL_bucketsFor 6 = .ok (.ireturn, 1) := by decide +kernel
theorem dL_bucketsFor_7 : decode cL_bucketsFor 7 = .ok (.astore_n 3, 1) := by decide +kernel
theorem dL_bucketsFor_8 : decode cL_bucketsFor 8 = .ok (.bipush (-101), 2) := by decide +kernel
theorem dL_bucketsFor_10 : decode cL_bucketsFor 10 = .ok (.ireturn, 1) := by decide +kernel
theorem dL_bucketsFor_11 : decode cL_bucketsFor 11 = .ok (.astore_n 3, 1) := by decide +kernel
theorem dL_bucketsFor_12 : decode cL_bucketsFor 12 = .ok (.bipush (-102), 2) := by decide +kernel
theorem dL_bucketsFor_14 : decode cL_bucketsFor 14 = .ok (.ireturn, 1) := by decide +kernel
set_option maxRecDepth 20000 in
theorem ggL_most_X8_mostFrom : GoodIn wsL_most wsX8_mostFrom := goodIn_ca (goodIn_r _ [6, 7, 8, 9, 10, 11, 5, 12, 13, 14, 15, 16, 17, 18, 19, 20, 21, 22, 23, 24, 25, 26, 27, 28, 29, 30, 31, 32, 33, 34, 35, 36, 37, 38, 39, 40, 41, 42, 43, 44, 45, 46, 47, 48, 49, 50, 51, 52, 53, 54, 55, 56, 57, 58, 59, 60, 61, 62, 63, 64, 65, 66, 67, 68, 69, 70, 71, 72, 73, 74, 75, 76, 77, 78] (by decide +kernel) (by decide +kernel)) (goodIn_sub (fun _ h => List.mem_cons_of_mem _ (List.mem_append_right _ h)) (by decide +kernel))
set_option maxRecDepth 20000 in
theorem gL_most_X8_mostFrom : GoodIn wsL_most (wsV RL 82 RX8 yX8_mostFrom wsX8_mostFrom) := goodIn_app (goodIn_of _ (by decide +kernel)) ggL_most_X8_mostFrom
theorem dL_most_0 : decode cL_most 0 = .ok (.aload_n 0, 1) := by decide +kernel
theorem dL_most_1 : decode cL_most 1 = .ok (.iload_n 1, 1) := by decide +kernel
theorem dL_most_2 : decode cL_most 2 = .ok (.invokevirtual 82, 3) := by decide +kernel
theorem dL_most_5 : decode cL_most 5 = .ok (.ireturn, 1) := by decide +kernel
theorem dL_most_6 : decode cL_most 6 = .ok (.astore_n 2, 1) := by decide +kernel
theorem dL_most_7 : decode cL_most 7 = .ok (.bipush (-101), 2) := by decide +kernel
theorem dL_most_9 : decode cL_most 9 = .ok (.ireturn, 1) := by decide +kernel
set_option maxRecDepth 20000 in
theorem ggL_best_X8_bestSequence : GoodIn wsL_best wsX8_bestSequence := goodIn_ca (goodIn_r _ [6, 7, 8, 9, 10, 11, 5, 12, 13, 14, 15, 16, 17, 18, 19, 20, 21, 22, 23, 24, 25, 26, 27, 28, 29, 30, 31, 32, 33, 34, 35, 36, 37, 38, 39, 40, 41, 42, 43, 44, 45, 46, 47, 48, 49, 50, 51, 52, 53, 54, 55, 56, 57, 58, 59, 60, 61, 62, 63, 64, 65, 66, 67, 68, 69, 70, 71, 72, 73, 74, 75, 76, 77, 78, 79, 80, 81, 82, 83, 84, 85, 86, 87, 88, 89, 90, 91, 92, 93, 94, 95, 96, 97, 98, 99, 100, 101, 102, 103, 104, 105, 106, 107, 108, 109, 110, 111, 112, 113, 114, 115, 116, 117, 118, 119, 120, 121, 122, 123, 124, 125, 126, 127, 128, 129, 130, 131, 132, 133, 134, 135, 136, 137, 138, 139, 140, 141, 142] (by decide +kernel) (by decide +kernel)) (goodIn_sub (fun _ h => List.mem_cons_of_mem _ (List.mem_append_right _ h)) (by decide +kernel))
set_option maxRecDepth 20000 in
theorem gL_best_X8_bestSequence : GoodIn wsL_best (wsV RL 85 RX8 yX8_bestSequence wsX8_bestSequence) := goodIn_app (goodIn_of _ (by decide +kernel)) ggL_best_X8_bestSequence
theorem dL_best_0 : decode cL_best 0 = .ok (.aload_n 0, 1) := by decide +kernel
theorem dL_best_1 : decode cL_best 1 = .ok (.iload_n 1, 1) := by decide +kernel
theorem dL_best_2 : decode cL_best 2 = .ok (.iload_n 2, 1) := by decide +kernel
theorem dL_best_3 : decode cL_best 3 = .ok (.invokevirtual 85, 3) := by decide +kernel
theorem dL_best_6 : decode cL_best 6 = .ok (.ireturn, 1) := by decide +kernel
theorem dL_best_7 : decode cL_best 7 = .ok (.astore_n 3, 1) := by decide +kernel
theorem dL_best_8 : decode cL_best 8 = .ok (.bipush (-102), 2) := by decide +kernel
theorem dL_best_10 : decode cL_best 10 = .ok (.ireturn, 1) := by decide +kernel
set_option maxRecDepth 20000 in
theorem ggL_origins_X8_origins : GoodIn wsL_origins wsX8_origins := goodIn_ca (goodIn_r _ [6, 7, 8, 9, 10, 11, 12, 13, 5, 14, 15, 16, 17, 18, 19, 20, 21, 22, 23, 24, 25, 26, 27, 28, 29, 30, 31, 32, 33, 34, 35, 36, 37, 38, 39, 40, 41, 42, 43, 44, 45, 46, 47, 48, 49, 50, 51, 52, 53, 54, 55, 56, 57, 58, 59, 60, 61, 62, 63, 64, 65, 66, 67, 68, 69, 70, 71, 72, 73, 74, 75] (by decide +kernel) (by decide +kernel)) (goodIn_sub (fun _ h => List.mem_cons_of_mem _ (List.mem_append_right _ h)) (by decide +kernel))
set_option maxRecDepth 20000 in
theorem gL_origins_X8_origins : GoodIn wsL_origins (wsV RL 88 RX8 yX8_origins wsX8_origins) := goodIn_app (goodIn_of _ (by decide +kernel)) ggL_origins_X8_origins
theorem dL_origins_0 : decode cL_origins 0 = .ok (.aload_n 0, 1) := by decide +kernel
theorem dL_origins_1 : decode cL_origins 1 = .ok (.iload_n 1, 1) := by decide +kernel
theorem dL_origins_2 : decode cL_origins 2 = .ok (.iload_n 2, 1) := by decide +kernel
theorem dL_origins_3 : decode cL_origins 3 = .ok (.invokevirtual 88, 3) := by decide +kernel
theorem dL_origins_6 : decode cL_origins 6 = .ok (.ireturn, 1) := by decide +kernel
theorem dL_origins_7 : decode cL_origins 7 = .ok (.astore_n 3, 1) := by decide +kernel
theorem dL_origins_8 : decode cL_origins 8 = .ok (.bipush (-102), 2) := by decide +kernel
theorem dL_origins_10 : decode cL_origins 10 = .ok (.ireturn, 1) := by decide +kernel
set_option maxRecDepth 20000 in
theorem ggL_script_X8_runScript : GoodIn wsL_script wsX8_runScript := goodIn_ca (goodIn_r _ [6, 7, 8, 9, 10, 11, 12, 13, 14, 5, 15, 16, 17, 18, 19, 20, 21, 22, 23, 24, 25, 26, 27, 28, 29, 30, 31, 32, 33, 34, 35, 36, 37, 38, 39, 40, 41, 42, 43, 44, 45, 46, 47, 48, 49, 50, 51, 52, 53, 54, 55, 56, 57, 58, 59, 60, 61, 62, 63, 64, 65, 66, 67, 68, 69, 70, 71, 72, 73, 74, 75, 76, 77, 78, 79, 80, 81, 82, 83, 84, 85, 86, 87, 88, 89, 90, 91, 92, 93, 94, 95, 96, 97, 98, 99, 100, 101, 102, 103, 104, 105, 106, 107, 108, 109, 110, 111, 112, 113, 114, 115, 116, 117, 118, 119, 120, 121, 122, 123, 124, 125, 126, 127, 128, 129, 130, 131, 132, 133, 134, 135, 136, 137, 138, 139, 140, 141, 142, 143, 144, 145, 146, 147, 148, 149, 150, 151, 152] (by decide +kernel) (by decide +kernel)) (goodIn_sub (fun _ h => List.mem_cons_of_mem _ (List.mem_append_right _ h)) (by decide +kernel))
set_option maxRecDepth 20000 in
theorem gL_script_X8_runScript : GoodIn wsL_script (wsV RL 91 RX8 yX8_runScript wsX8_runScript) := goodIn_app (goodIn_of _ (by decide +kernel)) ggL_script_X8_runScript
theorem dL_script_0 : decode cL_script 0 = .ok (.aload_n 0, 1) := by decide +kernel
theorem dL_script_1 : decode cL_script 1 = .ok (.iload_n 1, 1) := by decide +kernel
theorem dL_script_2 : decode cL_script 2 = .ok (.lload_n 2, 1) := by decide +kernel
theorem dL_script_3 : decode cL_script 3 = .ok (.invokevirtual 91, 3) := by decide +kernel
theorem dL_script_6 : decode cL_script 6 = .ok (.ireturn, 1) := by decide +kernel
theorem dL_script_7 : decode cL_script 7 = .ok (.astore 4, 2) := by decide +kernel
theorem dL_script_9 : decode cL_script 9 = .ok (.bipush (-102), 2) := by decide +kernel
theorem dL_script_11 : decode cL_script 11 = .ok (.ireturn, 1) := by decide +kernel
set_option maxRecDepth 20000 in
theorem ggL_simulate_X8_simulate : GoodIn wsL_simulate wsX8_simulate := goodIn_ca (goodIn_r _ [7, 8, 9, 10, 11, 12, 13, 14, 6, 15, 16, 17, 18, 19, 20, 21, 22, 23, 24, 25, 26, 27, 28, 29, 30, 31, 32, 33, 34, 35, 36, 37, 38, 39, 40, 41, 42, 43, 44, 45, 46, 47, 48, 49, 50, 51, 52, 53, 54, 55, 56, 57, 58, 59, 60, 61, 62, 63, 64, 65, 66, 67, 68, 69, 70, 71, 72, 73, 74, 75, 76, 77, 78, 79, 80, 81, 82, 83, 84, 85, 86, 87, 88, 89, 90, 91, 92, 93, 94, 95, 96, 97, 98, 99, 100, 101, 102, 103, 104, 105, 106, 107, 108, 109, 110, 111, 112, 113, 114, 115, 116, 117, 118, 119, 120] (by decide +kernel) (by decide +kernel)) (goodIn_sub (fun _ h => List.mem_cons_of_mem _ (List.mem_append_right _ h)) (by decide +kernel))
set_option maxRecDepth 20000 in
theorem gL_simulate_X8_simulate : GoodIn wsL_simulate (wsV RL 97 RX8 yX8_simulate wsX8_simulate) := goodIn_app (goodIn_of _ (by decide +kernel)) ggL_simulate_X8_simulate
theorem dL_simulate_0 : decode cL_simulate 0 = .ok (.aload_n 0, 1) := by decide +kernel
theorem dL_simulate_1 : decode cL_simulate 1 = .ok (.iload_n 1, 1) := by decide +kernel
theorem dL_simulate_2 : decode cL_simulate 2 = .ok (.i2l, 1) := by decide +kernel
theorem dL_simulate_3 : decode cL_simulate 3 = .ok (.ldc2_w 95, 3) := by decide +kernel
theorem dL_simulate_6 : decode cL_simulate 6 = .ok (.lmul, 1) := by decide +kernel
theorem dL_simulate_7 : decode cL_simulate 7 = .ok (.iload_n 2, 1) := by decide +kernel
theorem dL_simulate_8 : decode cL_simulate 8 = .ok (.invokevirtual 97, 3) := by decide +kernel
theorem dL_simulate_11 : decode cL_simulate 11 = .ok (.ireturn, 1) := by decide +kernel
theorem dL_simulate_12 : decode cL_simulate 12 = .ok (.astore_n 3, 1) := by decide +kernel
theorem dL_simulate_13 : decode cL_simulate 13 = .ok (.bipush (-102), 2) := by decide +kernel
theorem dL_simulate_15 : decode cL_simulate 15 = .ok (.ireturn, 1) := by decide +kernel
set_option maxRecDepth 20000 in
theorem ggL_save_X8_save : GoodIn wsL_save wsX8_save := goodIn_ca (goodIn_r _ [6, 7, 8, 9, 10, 5, 11, 12, 13, 14, 15, 16, 17, 18, 19, 20, 21, 22, 23, 24, 25, 26, 27, 28, 29, 30, 31, 32, 33, 34, 35, 36, 37, 38, 39, 40, 41, 42, 43, 44, 45, 46, 47, 48, 49, 50, 51, 52, 53, 54, 55, 56, 57, 58, 59, 60] (by decide +kernel) (by decide +kernel)) (goodIn_sub (fun _ h => List.mem_cons_of_mem _ (List.mem_append_right _ h)) (by decide +kernel))
set_option maxRecDepth 20000 in
theorem gL_save_X8_save : GoodIn wsL_save (wsV RL 101 RX8 yX8_save wsX8_save) := goodIn_app (goodIn_of _ (by decide +kernel)) ggL_save_X8_save
theorem dL_save_0 : decode cL_save 0 = .ok (.aload_n 0, 1) := by decide +kernel
theorem dL_save_1 : decode cL_save 1 = .ok (.iload_n 1, 1) := by decide +kernel
theorem dL_save_2 : decode cL_save 2 = .ok (.invokevirtual 101, 3) := by decide +kernel
theorem dL_save_5 : decode cL_save 5 = .ok (.ireturn, 1) := by decide +kernel
theorem dL_save_6 : decode cL_save 6 = .ok (.astore_n 2, 1) := by decide +kernel
theorem dL_save_7 : decode cL_save 7 = .ok (.bipush (-101), 2) := by decide +kernel
theorem dL_save_9 : decode cL_save 9 = .ok (.ireturn, 1) := by decide +kernel
set_option maxRecDepth 20000 in
theorem ggL_restore_X8_restore : GoodIn wsL_restore wsX8_restore := goodIn_ca (goodIn_ca (goodIn_r _ [7, 8, 9, 10, 11, 12, 13, 14, 6, 15, 16, 17, 18, 19, 20, 21, 22, 23, 24, 25, 26, 27, 28, 29, 30, 31, 32, 33, 34, 35, 36, 37, 38, 39, 40, 41, 42, 43, 44, 45, 46, 47, 48, 49, 50, 51, 52, 53, 54, 55, 56, 57, 58, 59, 60, 61, 62, 63, 64, 65, 66, 67, 68, 69, 70, 71, 72, 73, 74, 75, 76, 77, 78] (by decide +kernel) (by decide +kernel)) (goodIn_sub (fun _ h => List.mem_cons_of_mem _ (List.mem_append_left _ (List.mem_append_right _ h))) (by decide +kernel))) (goodIn_sub (fun _ h => List.mem_cons_of_mem _ (List.mem_append_right _ h)) (by decide +kernel))
set_option maxRecDepth 20000 in
theorem gL_restore_X8_restore : GoodIn wsL_restore (wsV RL 104 RX8 yX8_restore wsX8_restore) := goodIn_app (goodIn_of _ (by decide +kernel)) ggL_restore_X8_restore
theorem dL_restore_0 : decode cL_restore 0 = .ok (.aload_n 0, 1) := by decide +kernel
theorem dL_restore_1 : decode cL_restore 1 = .ok (.iload_n 1, 1) := by decide +kernel
theorem dL_restore_2 : decode cL_restore 2 = .ok (.invokevirtual 104, 3) := by decide +kernel
theorem dL_restore_5 : decode cL_restore 5 = .ok (.ireturn, 1) := by decide +kernel
theorem dL_restore_6 : decode cL_restore 6 = .ok (.astore_n 2, 1) := by decide +kernel
theorem dL_restore_7 : decode cL_restore 7 = .ok (.bipush (-101), 2) := by decide +kernel
theorem dL_restore_9 : decode cL_restore 9 = .ok (.ireturn, 1) := by decide +kernel
theorem dL_restore_10 : decode cL_restore 10 = .ok (.astore_n 2, 1) := by decide +kernel
theorem dL_restore_11 : decode cL_restore 11 = .ok (.bipush (-103), 2) := by decide +kernel
theorem dL_restore_13 : decode cL_restore 13 = .ok (.ireturn, 1) := by decide +kernel
set_option maxRecDepth 20000 in
theorem ggL_errors_X8_pointCount : GoodIn wsL_errors wsX8_pointCount := goodIn_r _ [7, 8, 9, 10, 11, 12, 13, 14, 531, 532, 533, 534, 535, 536, 537, 538, 539, 540, 541, 542, 543, 544] (by decide +kernel) (by decide +kernel)
set_option maxRecDepth 20000 in
theorem gL_errors_X8_pointCount : GoodIn wsL_errors (wsV RL 107 RX8 yX8_pointCount wsX8_pointCount) := goodIn_app (goodIn_of _ (by decide +kernel)) ggL_errors_X8_pointCount
set_option maxRecDepth 20000 in
theorem ggL_errors_L_append : GoodIn wsL_errors wsL_append := goodIn_ca (goodIn_ca (goodIn_r _ [18, 19, 20, 21, 22, 23, 6, 24, 25, 26, 27, 28, 29, 30, 31, 32, 33, 34, 35, 36, 37, 38, 39, 40, 41, 42, 43, 531, 532, 533, 534, 535, 536, 537, 538, 539, 545, 546] (by decide +kernel) (by decide +kernel)) (goodIn_sub (fun _ h => List.mem_cons_of_mem _ (List.mem_append_left _ (List.mem_append_left _ (List.mem_append_right _ h)))) (by decide +kernel))) (goodIn_sub (fun _ h => List.mem_cons_of_mem _ (List.mem_append_left _ (List.mem_append_right _ h))) (by decide +kernel))
set_option maxRecDepth 20000 in
theorem gL_errors_L_append : GoodIn wsL_errors (va_wsS RL 110 yL_append wsL_append) := goodIn_app (goodIn_of _ (by decide +kernel)) ggL_errors_L_append
set_option maxRecDepth 20000 in
theorem ggL_errors_L_drawn : GoodIn wsL_errors wsL_drawn := goodIn_ca (goodIn_r _ [46, 47, 48, 49, 50, 6, 51, 52, 53, 54, 55, 56, 57, 58, 8, 59, 60, 61, 12, 62, 14, 63, 64, 65, 66, 67, 68, 531, 532, 533, 534, 535, 536, 537, 538, 539, 540, 541, 542, 543, 544, 547, 548, 549, 550, 551, 552, 553, 554] (by decide +kernel) (by decide +kernel)) (goodIn_sub (fun _ h => List.mem_cons_of_mem _ (List.mem_append_right _ h)) (by decide +kernel))
set_option maxRecDepth 20000 in
theorem gL_errors_L_drawn : GoodIn wsL_errors (va_wsS RL 115 yL_drawn wsL_drawn) := goodIn_app (goodIn_of _ (by decide +kernel)) ggL_errors_L_drawn
set_option maxRecDepth 20000 in
theorem ggL_errors_L_remaining : GoodIn wsL_errors wsL_remaining := goodIn_ca (goodIn_r _ [71, 47, 72, 73, 74, 6, 75, 52, 53, 54, 55, 56, 57, 58, 8, 59, 60, 61, 12, 62, 14, 76, 77, 78, 66, 79, 80, 81, 531, 532, 533, 534, 535, 536, 537, 538, 539, 540, 541, 542, 543, 544, 547, 548, 549, 550, 551, 552, 553, 554] (by decide +kernel) (by decide +kernel)) (goodIn_sub (fun _ h => List.mem_cons_of_mem _ (List.mem_append_right _ h)) (by decide +kernel))
set_option maxRecDepth 20000 in
theorem gL_errors_L_remaining : GoodIn wsL_errors (va_wsS RL 117 yL_remaining wsL_remaining) := goodIn_app (goodIn_of _ (by decide +kernel)) ggL_errors_L_remaining
set_option maxRecDepth 20000 in
theorem ggL_errors_L_slices : GoodIn wsL_errors wsL_slices := goodIn_ca (goodIn_r _ [84, 47, 85, 86, 87, 6, 88, 52, 53, 54, 55, 56, 57, 58, 8, 59, 60, 61, 12, 62, 14, 89, 90, 91, 66, 92, 80, 531, 532, 533, 534, 535, 536, 537, 538, 539, 540, 541, 542, 543, 544, 547, 548, 549, 550, 551, 552, 553, 554] (by decide +kernel) (by decide +kernel)) (goodIn_sub (fun _ h => List.mem_cons_of_mem _ (List.mem_append_right _ h)) (by decide +kernel))
set_option maxRecDepth 20000 in
theorem gL_errors_L_slices : GoodIn wsL_errors (va_wsS RL 119 yL_slices wsL_slices) := goodIn_app (goodIn_of _ (by decide +kernel)) ggL_errors_L_slices
set_option maxRecDepth 20000 in
theorem ggL_errors_L_grade : GoodIn wsL_errors wsL_grade := goodIn_ca (goodIn_ca (goodIn_r _ [95, 47, 19, 96, 97, 98, 6, 99, 52, 53, 54, 55, 56, 57, 58, 8, 59, 60, 61, 12, 62, 14, 28, 29, 30, 31, 32, 100, 101, 102, 66, 103, 80, 81, 104, 531, 532, 533, 534, 535, 536, 537, 538, 539, 540, 541, 542, 543, 544, 547, 548, 549, 550, 551, 552, 553, 554] (by decide +kernel) (by decide +kernel)) (goodIn_sub (fun _ h => List.mem_cons_of_mem _ (List.mem_append_right _ h)) (by decide +kernel))) (goodIn_sub (fun _ h => List.mem_cons_of_mem _ (List.mem_append_left _ (List.mem_append_right _ h))) (by decide +kernel))
set_option maxRecDepth 20000 in
theorem gL_errors_L_grade : GoodIn wsL_errors (va_wsS RL 122 yL_grade wsL_grade) := goodIn_app (goodIn_of _ (by decide +kernel)) ggL_errors_L_grade
set_option maxRecDepth 20000 in
theorem ggL_errors_L_hung : GoodIn wsL_errors wsL_hung := goodIn_ca (goodIn_r _ [107, 47, 108, 109, 110, 6, 111, 52, 53, 54, 55, 56, 57, 58, 8, 59, 60, 61, 12, 62, 14, 112, 113, 114, 66, 115, 116, 531, 532, 533, 534, 535, 536, 537, 538, 539, 540, 541, 542, 543, 544, 547, 548, 549, 550, 551, 552, 553, 554] (by decide +kernel) (by decide +kernel)) (goodIn_sub (fun _ h => List.mem_cons_of_mem _ (List.mem_append_right _ h)) (by decide +kernel))
set_option maxRecDepth 20000 in
theorem gL_errors_L_hung : GoodIn wsL_errors (va_wsS RL 126 yL_hung wsL_hung) := goodIn_app (goodIn_of _ (by decide +kernel)) ggL_errors_L_hung
set_option maxRecDepth 20000 in
theorem ggL_errors_L_draw : GoodIn wsL_errors wsL_draw := goodIn_ca (goodIn_ca (goodIn_r _ [119, 47, 20, 120, 121, 122, 6, 123, 25, 26, 52, 8, 124, 53, 54, 55, 56, 57, 58, 59, 60, 61, 12, 62, 14, 125, 126, 127, 66, 128, 129, 130, 131, 132, 68, 133, 134, 135, 136, 137, 138, 139, 140, 141, 113, 114, 115, 116, 142, 77, 78, 79, 80, 81, 143, 144, 145, 146, 147, 148, 149, 150, 151, 152, 153, 154, 155, 156, 157, 158, 159, 160, 161, 162, 163, 164, 165, 104, 166, 167, 168, 169, 170, 171, 172, 173, 174, 175, 531, 532, 533, 534, 535, 536, 537, 538, 539, 540, 541, 542, 543, 544, 547, 548, 549, 550, 551, 552, 553, 554, 555, 556, 557] (by decide +kernel) (by decide +kernel)) (goodIn_sub (fun _ h => List.mem_cons_of_mem _ (List.mem_append_left _ (List.mem_append_left _ (List.mem_append_right _ h)))) (by decide +kernel))) (goodIn_sub (fun _ h => List.mem_cons_of_mem _ (List.mem_append_right _ h)) (by decide +kernel))
set_option maxRecDepth 20000 in
theorem gL_errors_L_draw : GoodIn wsL_errors (va_wsS RL 129 yL_draw wsL_draw) := goodIn_app (goodIn_of _ (by decide +kernel)) ggL_errors_L_draw
set_option maxRecDepth 20000 in
theorem ggL_errors_L_byOrder : GoodIn wsL_errors wsL_byOrder := goodIn_ca (goodIn_r _ [178, 19, 179, 180, 181, 6, 182, 124, 52, 8, 28, 29, 30, 31, 32, 150, 151, 152, 153, 154, 155, 156, 157, 158, 159, 160, 66, 161, 81, 162, 163, 164, 165, 104, 80, 68, 133, 116, 166, 167, 183, 184, 185, 186, 187, 188, 189, 190, 191, 10, 11, 12, 13, 14, 129, 130, 131, 132, 134, 135, 136, 137, 138, 139, 140, 141, 113, 114, 115, 142, 77, 78, 79, 143, 144, 145, 146, 147, 148, 149, 192, 101, 102, 103, 193, 169, 170, 171, 172, 173, 174, 175, 531, 532, 533, 534, 535, 536, 537, 538, 539, 555, 556, 557, 547, 548, 549, 550, 551, 552, 553, 554, 540, 541, 542, 543, 544] (by decide +kernel) (by decide +kernel)) (goodIn_sub (fun _ h => List.mem_cons_of_mem _ (List.mem_append_left _ (List.mem_append_right _ h))) (by decide +kernel))
set_option maxRecDepth 20000 in
theorem gL_errors_L_byOrder : GoodIn wsL_errors (va_wsS RL 131 yL_byOrder wsL_byOrder) := goodIn_app (goodIn_of _ (by decide +kernel)) ggL_errors_L_byOrder
set_option maxRecDepth 20000 in
theorem ggL_errors_L_hang : GoodIn wsL_errors wsL_hang := goodIn_ca (goodIn_ca (goodIn_r _ [196, 47, 20, 197, 198, 199, 6, 200, 25, 26, 52, 124, 53, 54, 55, 56, 57, 58, 8, 59, 60, 61, 12, 62, 14, 112, 113, 114, 66, 115, 116, 150, 151, 152, 153, 154, 155, 156, 157, 158, 159, 160, 161, 81, 162, 163, 164, 165, 104, 80, 68, 133, 166, 167, 201, 202, 203, 204, 205, 206, 207, 208, 209, 210, 211, 212, 213, 214, 215, 531, 532, 533, 534, 535, 536, 537, 538, 539, 540, 541, 542, 543, 544, 547, 548, 549, 550, 551, 552, 553, 554, 555, 556, 557] (by decide +kernel) (by decide +kernel)) (goodIn_sub (fun _ h => List.mem_cons_of_mem _ (List.mem_append_left _ (List.mem_append_left _ (List.mem_append_right _ h)))) (by decide +kernel))) (goodIn_sub (fun _ h => List.mem_cons_of_mem _ (List.mem_append_right _ h)) (by decide +kernel))
set_option maxRecDepth 20000 in
theorem gL_errors_L_hang : GoodIn wsL_errors (va_wsS RL 134 yL_hang wsL_hang) := goodIn_app (goodIn_of _ (by decide +kernel)) ggL_errors_L_hang
set_option maxRecDepth 20000 in
theorem ggL_errors_L_release : GoodIn wsL_errors wsL_release := goodIn_ca (goodIn_ca (goodIn_r _ [218, 47, 20, 219, 220, 221, 6, 222, 25, 26, 52, 124, 53, 54, 55, 56, 57, 58, 8, 59, 60, 61, 12, 62, 14, 112, 113, 114, 66, 115, 116, 150, 151, 152, 153, 154, 155, 156, 157, 158, 159, 160, 161, 81, 162, 163, 164, 165, 104, 80, 68, 133, 166, 167, 201, 202, 203, 204, 205, 206, 207, 208, 209, 210, 211, 212, 213, 214, 215, 531, 532, 533, 534, 535, 536, 537, 538, 539, 540, 541, 542, 543, 544, 547, 548, 549, 550, 551, 552, 553, 554, 555, 556, 557] (by decide +kernel) (by decide +kernel)) (goodIn_sub (fun _ h => List.mem_cons_of_mem _ (List.mem_append_left _ (List.mem_append_left _ (List.mem_append_right _ h)))) (by decide +kernel))) (goodIn_sub (fun _ h => List.mem_cons_of_mem _ (List.mem_append_right _ h)) (by decide +kernel))
set_option maxRecDepth 20000 in
theorem gL_errors_L_release : GoodIn wsL_errors (va_wsS RL 136 yL_release wsL_release) := goodIn_app (goodIn_of _ (by decide +kernel)) ggL_errors_L_release
set_option maxRecDepth 20000 in
theorem ggL_errors_L_add : GoodIn wsL_errors wsL_add := goodIn_ca (goodIn_ca (goodIn_ca (goodIn_r _ [225, 47, 19, 20, 226, 227, 228, 6, 229, 25, 26, 52, 124, 53, 54, 55, 56, 57, 58, 8, 59, 60, 61, 12, 62, 14, 28, 29, 30, 31, 32, 89, 90, 91, 66, 92, 80, 150, 151, 152, 153, 154, 155, 156, 157, 158, 159, 160, 161, 81, 162, 163, 164, 165, 104, 68, 133, 116, 166, 167, 230, 231, 232, 233, 531, 532, 533, 534, 535, 536, 537, 538, 539, 540, 541, 542, 543, 544, 547, 548, 549, 550, 551, 552, 553, 554, 555, 556, 557] (by decide +kernel) (by decide +kernel)) (goodIn_sub (fun _ h => List.mem_cons_of_mem _ (List.mem_append_left _ (List.mem_append_left _ (List.mem_append_right _ h)))) (by decide +kernel))) (goodIn_sub (fun _ h => List.mem_cons_of_mem _ (List.mem_append_right _ h)) (by decide +kernel))) (goodIn_sub (fun _ h => List.mem_cons_of_mem _ (List.mem_append_left _ (List.mem_append_right _ h))) (by decide +kernel))
set_option maxRecDepth 20000 in
theorem gL_errors_L_add : GoodIn wsL_errors (va_wsS RL 138 yL_add wsL_add) := goodIn_app (goodIn_of _ (by decide +kernel)) ggL_errors_L_add
set_option maxRecDepth 20000 in
theorem ggL_errors_L_setBound : GoodIn wsL_errors wsL_setBound := goodIn_ca (goodIn_ca (goodIn_r _ [236, 19, 20, 237, 238, 239, 6, 240, 25, 26, 52, 8, 124, 28, 29, 30, 31, 32, 241, 242, 243, 66, 244, 68, 191, 10, 11, 12, 13, 14, 143, 144, 145, 146, 147, 148, 149, 135, 136, 137, 150, 151, 152, 153, 154, 155, 156, 157, 158, 159, 160, 161, 81, 162, 163, 164, 165, 104, 80, 133, 116, 166, 167, 245, 246, 247, 248, 249, 250, 251, 252, 531, 532, 533, 534, 535, 536, 537, 538, 539, 547, 548, 549, 550, 551, 552, 553, 554, 540, 541, 542, 543, 544, 555, 556, 557] (by decide +kernel) (by decide +kernel)) (goodIn_sub (fun _ h => List.mem_cons_of_mem _ (List.mem_append_left _ (List.mem_append_left _ (List.mem_append_right _ h)))) (by decide +kernel))) (goodIn_sub (fun _ h => List.mem_cons_of_mem _ (List.mem_append_left _ (List.mem_append_right _ h))) (by decide +kernel))
set_option maxRecDepth 20000 in
theorem gL_errors_L_setBound : GoodIn wsL_errors (va_wsS RL 142 yL_setBound wsL_setBound) := goodIn_app (goodIn_of _ (by decide +kernel)) ggL_errors_L_setBound
set_option maxRecDepth 20000 in
theorem ggL_errors_L_ready : GoodIn wsL_errors wsL_ready := goodIn_ca (goodIn_r _ [255, 47, 256, 257, 258, 6, 259, 52, 8, 53, 54, 55, 56, 57, 58, 59, 60, 61, 12, 62, 14, 125, 126, 127, 66, 128, 129, 130, 131, 132, 68, 133, 134, 135, 136, 137, 138, 139, 140, 141, 113, 114, 115, 116, 142, 77, 78, 79, 80, 81, 143, 144, 145, 146, 147, 148, 149, 531, 532, 533, 534, 535, 536, 537, 538, 539, 540, 541, 542, 543, 544, 547, 548, 549, 550, 551, 552, 553, 554] (by decide +kernel) (by decide +kernel)) (goodIn_sub (fun _ h => List.mem_cons_of_mem _ (List.mem_append_right _ h)) (by decide +kernel))
set_option maxRecDepth 20000 in
theorem gL_errors_L_ready : GoodIn wsL_errors (va_wsS RL 144 yL_ready wsL_ready) := goodIn_app (goodIn_of _ (by decide +kernel)) ggL_errors_L_ready
set_option maxRecDepth 20000 in
theorem ggL_errors_L_blockers : GoodIn wsL_errors wsL_blockers := goodIn_ca (goodIn_r _ [262, 47, 263, 264, 265, 6, 266, 52, 8, 53, 54, 55, 56, 57, 58, 59, 60, 61, 12, 62, 14, 267, 268, 269, 66, 270, 68, 133, 271, 272, 273, 274, 147, 275, 276, 277, 278, 148, 531, 532, 533, 534, 535, 536, 537, 538, 539, 540, 541, 542, 543, 544, 547, 548, 549, 550, 551, 552, 553, 554] (by decide +kernel) (by decide +kernel)) (goodIn_sub (fun _ h => List.mem_cons_of_mem _ (List.mem_append_right _ h)) (by decide +kernel))
set_option maxRecDepth 20000 in
theorem gL_errors_L_blockers : GoodIn wsL_errors (va_wsS RL 147 yL_blockers wsL_blockers) := goodIn_app (goodIn_of _ (by decide +kernel)) ggL_errors_L_blockers
set_option maxRecDepth 20000 in
theorem ggL_errors_L_slack : GoodIn wsL_errors wsL_slack := goodIn_ca (goodIn_r _ [281, 47, 282, 283, 284, 6, 285, 52, 8, 53, 54, 55, 56, 57, 58, 59, 60, 61, 12, 62, 14, 286, 130, 131, 66, 132, 68, 133, 134, 135, 136, 137, 138, 139, 140, 141, 113, 114, 115, 116, 142, 77, 78, 79, 80, 81, 143, 144, 145, 146, 147, 148, 149, 531, 532, 533, 534, 535, 536, 537, 538, 539, 540, 541, 542, 543, 544, 547, 548, 549, 550, 551, 552, 553, 554] (by decide +kernel) (by decide +kernel)) (goodIn_sub (fun _ h => List.mem_cons_of_mem _ (List.mem_append_right _ h)) (by decide +kernel))
set_option maxRecDepth 20000 in
theorem gL_errors_L_slack : GoodIn wsL_errors (va_wsS RL 149 yL_slack wsL_slack) := goodIn_app (goodIn_of _ (by decide +kernel)) ggL_errors_L_slack
set_option maxRecDepth 20000 in
theorem ggL_errors_L_ahead : GoodIn wsL_errors wsL_ahead := goodIn_ca (goodIn_r _ [289, 19, 290, 291, 292, 6, 293, 294, 52, 8, 28, 29, 30, 31, 32, 295, 159, 160, 66, 161, 81, 162, 163, 164, 165, 104, 80, 68, 133, 116, 166, 167, 183, 184, 185, 186, 187, 188, 189, 190, 191, 10, 11, 12, 13, 14, 129, 130, 131, 132, 134, 135, 136, 137, 138, 139, 140, 141, 113, 114, 115, 142, 77, 78, 79, 143, 144, 145, 146, 147, 148, 149, 192, 101, 102, 103, 193, 169, 170, 171, 172, 173, 174, 175, 296, 531, 532, 533, 534, 535, 536, 537, 538, 539, 547, 548, 549, 550, 551, 552, 553, 554, 540, 541, 542, 543, 544] (by decide +kernel) (by decide +kernel)) (goodIn_sub (fun _ h => List.mem_cons_of_mem _ (List.mem_append_left _ (List.mem_append_right _ h))) (by decide +kernel))
set_option maxRecDepth 20000 in
theorem gL_errors_L_ahead : GoodIn wsL_errors (va_wsS RL 151 yL_ahead wsL_ahead) := goodIn_app (goodIn_of _ (by decide +kernel)) ggL_errors_L_ahead
set_option maxRecDepth 20000 in
theorem ggL_errors_L_waste : GoodIn wsL_errors wsL_waste := goodIn_ca (goodIn_ca (goodIn_r _ [299, 47, 19, 300, 301, 302, 6, 303, 52, 53, 54, 55, 56, 57, 58, 8, 59, 60, 61, 12, 62, 14, 28, 29, 30, 31, 32, 304, 305, 306, 66, 307, 80, 104, 81, 531, 532, 533, 534, 535, 536, 537, 538, 539, 540, 541, 542, 543, 544, 547, 548, 549, 550, 551, 552, 553, 554] (by decide +kernel) (by decide +kernel)) (goodIn_sub (fun _ h => List.mem_cons_of_mem _ (List.mem_append_right _ h)) (by decide +kernel))) (goodIn_sub (fun _ h => List.mem_cons_of_mem _ (List.mem_append_left _ (List.mem_append_right _ h))) (by decide +kernel))
set_option maxRecDepth 20000 in
theorem gL_errors_L_waste : GoodIn wsL_errors (va_wsS RL 154 yL_waste wsL_waste) := goodIn_app (goodIn_of _ (by decide +kernel)) ggL_errors_L_waste
set_option maxRecDepth 20000 in
theorem ggL_errors_L_bucketsFor : GoodIn wsL_errors wsL_bucketsFor := goodIn_ca (goodIn_ca (goodIn_r _ [310, 47, 19, 311, 312, 313, 6, 314, 52, 8, 53, 54, 55, 56, 57, 58, 59, 60, 61, 12, 62, 14, 28, 29, 30, 31, 32, 315, 316, 317, 66, 318, 68, 133, 191, 10, 11, 13, 319, 320, 321, 322, 323, 324, 325, 136, 326, 327, 141, 113, 114, 115, 116, 142, 77, 78, 79, 80, 81, 531, 532, 533, 534, 535, 536, 537, 538, 539, 540, 541, 542, 543, 544, 547, 548, 549, 550, 551, 552, 553, 554] (by decide +kernel) (by decide +kernel)) (goodIn_sub (fun _ h => List.mem_cons_of_mem _ (List.mem_append_right _ h)) (by decide +kernel))) (goodIn_sub (fun _ h => List.mem_cons_of_mem _ (List.mem_append_left _ (List.mem_append_right _ h))) (by decide +kernel))
set_option maxRecDepth 20000 in
theorem gL_errors_L_bucketsFor : GoodIn wsL_errors (va_wsS RL 157 yL_bucketsFor wsL_bucketsFor) := goodIn_app (goodIn_of _ (by decide +kernel)) ggL_errors_L_bucketsFor
set_option maxRecDepth 20000 in
theorem ggL_errors_L_most : GoodIn wsL_errors wsL_most := goodIn_ca (goodIn_r _ [330, 47, 331, 332, 333, 6, 334, 52, 8, 53, 54, 55, 56, 57, 58, 59, 60, 61, 12, 62, 14, 335, 336, 337, 66, 338, 339, 316, 317, 318, 68, 133, 191, 10, 11, 13, 319, 320, 321, 322, 323, 324, 325, 136, 326, 327, 141, 113, 114, 115, 116, 142, 77, 78, 79, 80, 81, 531, 532, 533, 534, 535, 536, 537, 538, 539, 540, 541, 542, 543, 544, 547, 548, 549, 550, 551, 552, 553, 554] (by decide +kernel) (by decide +kernel)) (goodIn_sub (fun _ h => List.mem_cons_of_mem _ (List.mem_append_right _ h)) (by decide +kernel))
set_option maxRecDepth 20000 in
theorem gL_errors_L_most : GoodIn wsL_errors (va_wsS RL 159 yL_most wsL_most) := goodIn_app (goodIn_of _ (by decide +kernel)) ggL_errors_L_most
set_option maxRecDepth 20000 in
theorem ggL_errors_L_best : GoodIn wsL_errors wsL_best := goodIn_ca (goodIn_r _ [342, 19, 343, 344, 345, 6, 346, 347, 8, 52, 28, 29, 30, 31, 32, 348, 349, 350, 351, 352, 353, 135, 136, 137, 354, 355, 356, 357, 358, 246, 247, 66, 248, 133, 359, 360, 361, 362, 363, 10, 11, 12, 13, 14, 364, 365, 366, 367, 368, 369, 370, 371, 64, 65, 67, 68, 372, 113, 114, 115, 116, 373, 101, 102, 103, 80, 81, 104, 374, 375, 376, 377, 378, 379, 139, 140, 380, 381, 382, 383, 384, 385, 386, 387, 388, 389, 163, 164, 165, 390, 391, 392, 393, 394, 395, 396, 397, 398, 144, 145, 146, 147, 148, 149, 399, 400, 401, 402, 403, 404, 405, 406, 531, 532, 533, 534, 535, 536, 537, 538, 539, 558, 559, 560, 561, 562, 563, 564, 565, 566, 547, 548, 549, 550, 551, 552, 553, 554, 540, 541, 542, 543, 544] (by decide +kernel) (by decide +kernel)) (goodIn_sub (fun _ h => List.mem_cons_of_mem _ (List.mem_append_left _ (List.mem_append_right _ h))) (by decide +kernel))
set_option maxRecDepth 20000 in
theorem gL_errors_L_best : GoodIn wsL_errors (va_wsS RL 162 yL_best wsL_best) := goodIn_app (goodIn_of _ (by decide +kernel)) ggL_errors_L_best
set_option maxRecDepth 20000 in
theorem ggL_errors_L_origins : GoodIn wsL_errors wsL_origins := goodIn_ca (goodIn_r _ [409, 19, 410, 411, 412, 6, 413, 31, 32, 414, 52, 8, 28, 29, 30, 415, 416, 417, 418, 419, 420, 421, 422, 423, 424, 66, 425, 191, 10, 11, 12, 13, 14, 426, 427, 428, 429, 430, 431, 432, 433, 192, 101, 102, 103, 80, 81, 104, 434, 435, 436, 437, 531, 532, 533, 534, 535, 536, 537, 538, 539, 567, 568, 540, 541, 542, 543, 544, 547, 548, 549, 550, 551, 552, 553, 554] (by decide +kernel) (by decide +kernel)) (goodIn_sub (fun _ h => List.mem_cons_of_mem _ (List.mem_append_left _ (List.mem_append_right _ h))) (by decide +kernel))
set_option maxRecDepth 20000 in
theorem gL_errors_L_origins : GoodIn wsL_errors (va_wsS RL 165 yL_origins wsL_origins) := goodIn_app (goodIn_of _ (by decide +kernel)) ggL_errors_L_origins
set_option maxRecDepth 20000 in
theorem ggL_errors_L_script : GoodIn wsL_errors wsL_script := goodIn_ca (goodIn_r _ [440, 19, 441, 442, 443, 6, 444, 31, 32, 445, 294, 52, 8, 28, 29, 30, 415, 416, 417, 418, 419, 420, 421, 295, 159, 160, 66, 161, 81, 162, 163, 164, 165, 104, 80, 68, 133, 116, 166, 167, 446, 447, 448, 449, 450, 431, 432, 433, 451, 435, 436, 437, 452, 453, 454, 455, 184, 185, 186, 187, 188, 189, 190, 191, 10, 11, 12, 13, 14, 129, 130, 131, 132, 134, 135, 136, 137, 138, 139, 140, 141, 113, 114, 115, 142, 77, 78, 79, 143, 144, 145, 146, 147, 148, 149, 192, 101, 102, 103, 193, 169, 170, 171, 172, 173, 174, 175, 456, 60, 61, 62, 457, 458, 459, 460, 126, 127, 128, 461, 462, 463, 464, 465, 466, 202, 203, 204, 467, 468, 531, 532, 533, 534, 535, 536, 537, 538, 539, 567, 568, 547, 548, 549, 550, 551, 552, 553, 554, 540, 541, 542, 543, 544] (by decide +kernel) (by decide +kernel)) (goodIn_sub (fun _ h => List.mem_cons_of_mem _ (List.mem_append_left _ (List.mem_append_right _ h))) (by decide +kernel))
set_option maxRecDepth 20000 in
theorem gL_errors_L_script : GoodIn wsL_errors (va_wsS RL 167 yL_script wsL_script) := goodIn_app (goodIn_of _ (by decide +kernel)) ggL_errors_L_script
set_option maxRecDepth 20000 in
theorem ggL_errors_L_simulate : GoodIn wsL_errors wsL_simulate := goodIn_ca (goodIn_r _ [471, 19, 472, 473, 474, 475, 6, 476, 294, 52, 477, 478, 8, 28, 29, 30, 31, 32, 295, 159, 160, 66, 161, 81, 162, 163, 164, 165, 104, 80, 68, 133, 116, 166, 167, 479, 480, 481, 482, 191, 10, 11, 12, 13, 14, 483, 202, 203, 204, 484, 184, 185, 186, 187, 188, 189, 190, 129, 130, 131, 132, 134, 135, 136, 137, 138, 139, 140, 141, 113, 114, 115, 142, 77, 78, 79, 143, 144, 145, 146, 147, 148, 149, 192, 101, 102, 103, 193, 169, 170, 171, 172, 173, 174, 175, 485, 486, 487, 488, 531, 532, 533, 534, 535, 536, 537, 538, 539, 547, 548, 549, 550, 551, 552, 553, 554, 540, 541, 542, 543, 544] (by decide +kernel) (by decide +kernel)) (goodIn_sub (fun _ h => List.mem_cons_of_mem _ (List.mem_append_left _ (List.mem_append_right _ h))) (by decide +kernel))
set_option maxRecDepth 20000 in
theorem gL_errors_L_simulate : GoodIn wsL_errors (va_wsS RL 175 yL_simulate wsL_simulate) := goodIn_app (goodIn_of _ (by decide +kernel)) ggL_errors_L_simulate
set_option maxRecDepth 20000 in
theorem ggL_errors_L_save : GoodIn wsL_errors wsL_save := goodIn_ca (goodIn_r _ [491, 47, 492, 493, 494, 6, 495, 496, 52, 497, 498, 499, 57, 58, 500, 501, 502, 503, 504, 505, 506, 507, 159, 160, 66, 161, 81, 162, 163, 164, 165, 104, 80, 68, 133, 116, 166, 167, 508, 509, 510, 511, 531, 532, 533, 534, 535, 536, 537, 538, 539, 569, 570, 547, 548, 549, 550, 551, 552, 553, 554] (by decide +kernel) (by decide +kernel)) (goodIn_sub (fun _ h => List.mem_cons_of_mem _ (List.mem_append_right _ h)) (by decide +kernel))
set_option maxRecDepth 20000 in
theorem gL_errors_L_save : GoodIn wsL_errors (va_wsS RL 177 yL_save wsL_save) := goodIn_app (goodIn_of _ (by decide +kernel)) ggL_errors_L_save
set_option maxRecDepth 20000 in
theorem ggL_errors_L_restore : GoodIn wsL_errors wsL_restore := goodIn_ca (goodIn_ca (goodIn_r _ [514, 47, 20, 515, 516, 517, 6, 518, 25, 26, 496, 52, 124, 497, 498, 499, 57, 58, 519, 520, 521, 503, 522, 506, 523, 524, 525, 526, 505, 507, 159, 160, 66, 161, 81, 162, 163, 164, 165, 104, 80, 68, 133, 116, 166, 167, 527, 528, 529, 153, 530, 156, 155, 508, 509, 510, 511, 531, 532, 533, 534, 535, 536, 537, 538, 539, 569, 570, 547, 548, 549, 550, 551, 552, 553, 554, 555, 556, 557] (by decide +kernel) (by decide +kernel)) (goodIn_sub (fun _ h => List.mem_cons_of_mem _ (List.mem_append_left _ (List.mem_append_left _ (List.mem_append_right _ h)))) (by decide +kernel))) (goodIn_sub (fun _ h => List.mem_cons_of_mem _ (List.mem_append_right _ h)) (by decide +kernel))
set_option maxRecDepth 20000 in
theorem gL_errors_L_restore : GoodIn wsL_errors (va_wsS RL 179 yL_restore wsL_restore) := goodIn_app (goodIn_of _ (by decide +kernel)) ggL_errors_L_restore
theorem dL_errors_0 : decode cL_errors 0 = .ok (.aload_n 0, 1) := by decide +kernel
theorem dL_errors_1 : decode cL_errors 1 = .ok (.invokevirtual 107, 3) := by decide +kernel
theorem dL_errors_4 : decode cL_errors 4 = .ok (.istore_n 1, 1) := by decide +kernel
theorem dL_errors_5 : decode cL_errors 5 = .ok (.aload_n 0, 1) := by decide +kernel
theorem dL_errors_6 : decode cL_errors 6 = .ok (.sipush 256, 3) := by decide +kernel
theorem dL_errors_9 : decode cL_errors 9 = .ok (.invokestatic 110, 3) := by decide +kernel
theorem dL_errors_12 : decode cL_errors 12 = .ok (.bipush (-102), 2) := by decide +kernel
theorem dL_errors_14 : decode cL_errors 14 = .ok (.if_icmp .ne 274, 3) := by decide +kernel
theorem dL_errors_17 : decode cL_errors 17 = .ok (.aload_n 0, 1) := by decide +kernel
theorem dL_errors_18 : decode cL_errors 18 = .ok (.iconst (-1), 1) := by decide +kernel
theorem dL_errors_19 : decode cL_errors 19 = .ok (.invokestatic 110, 3) := by decide +kernel
theorem dL_errors_22 : decode cL_errors 22 = .ok (.bipush (-102), 2) := by decide +kernel
theorem dL_errors_24 : decode cL_errors 24 = .ok (.if_icmp .ne 264, 3) := by decide +kernel
theorem dL_errors_27 : decode cL_errors 27 = .ok (.aload_n 0, 1) := by decide +kernel
theorem dL_errors_28 : decode cL_errors 28 = .ok (.iload_n 1, 1) := by decide +kernel
theorem dL_errors_29 : decode cL_errors 29 = .ok (.invokestatic 115, 3) := by decide +kernel
theorem dL_errors_32 : decode cL_errors 32 = .ok (.bipush (-101), 2) := by decide +kernel
theorem dL_errors_34 : decode cL_errors 34 = .ok (.if_icmp .ne 254, 3) := by decide +kernel
theorem dL_errors_37 : decode cL_errors 37 = .ok (.aload_n 0, 1) := by decide +kernel
theorem dL_errors_38 : decode cL_errors 38 = .ok (.iconst (-1), 1) := by decide +kernel
theorem dL_errors_39 : decode cL_errors 39 = .ok (.invokestatic 117, 3) := by decide +kernel
theorem dL_errors_42 : decode cL_errors 42 = .ok (.bipush (-101), 2) := by decide +kernel
theorem dL_errors_44 : decode cL_errors 44 = .ok (.if_icmp .ne 244, 3) := by decide +kernel
theorem dL_errors_47 : decode cL_errors 47 = .ok (.aload_n 0, 1) := by decide +kernel
theorem dL_errors_48 : decode cL_errors 48 = .ok (.iload_n 1, 1) := by decide +kernel
theorem dL_errors_49 : decode cL_errors 49 = .ok (.invokestatic 119, 3) := by decide +kernel
theorem dL_errors_52 : decode cL_errors 52 = .ok (.bipush (-101), 2) := by decide +kernel
theorem dL_errors_54 : decode cL_errors 54 = .ok (.if_icmp .ne 234, 3) := by decide +kernel
theorem dL_errors_57 : decode cL_errors 57 = .ok (.aload_n 0, 1) := by decide +kernel
theorem dL_errors_58 : decode cL_errors 58 = .ok (.iload_n 1, 1) := by decide +kernel
theorem dL_errors_59 : decode cL_errors 59 = .ok (.iconst (-1), 1) := by decide +kernel
theorem dL_errors_60 : decode cL_errors 60 = .ok (.invokestatic 122, 3) := by decide +kernel
theorem dL_errors_63 : decode cL_errors 63 = .ok (.bipush (-101), 2) := by decide +kernel
theorem dL_errors_65 : decode cL_errors 65 = .ok (.if_icmp .ne 223, 3) := by decide +kernel
theorem dL_errors_68 : decode cL_errors 68 = .ok (.aload_n 0, 1) := by decide +kernel
theorem dL_errors_69 : decode cL_errors 69 = .ok (.iconst 0, 1) := by decide +kernel
theorem dL_errors_70 : decode cL_errors 70 = .ok (.iconst (-1), 1) := by decide +kernel
theorem dL_errors_71 : decode cL_errors 71 = .ok (.invokestatic 122, 3) := by decide +kernel
theorem dL_errors_74 : decode cL_errors 74 = .ok (.bipush (-102), 2) := by decide +kernel
theorem dL_errors_76 : decode cL_errors 76 = .ok (.if_icmp .ne 212, 3) := by decide +kernel
theorem dL_errors_79 : decode cL_errors 79 = .ok (.aload_n 0, 1) := by decide +kernel
theorem dL_errors_80 : decode cL_errors 80 = .ok (.iconst 0, 1) := by decide +kernel
theorem dL_errors_81 : decode cL_errors 81 = .ok (.bipush 100, 2) := by decide +kernel
theorem dL_errors_83 : decode cL_errors 83 = .ok (.invokestatic 122, 3) := by decide +kernel
theorem dL_errors_86 : decode cL_errors 86 = .ok (.bipush (-102), 2) := by decide +kernel
theorem dL_errors_88 : decode cL_errors 88 = .ok (.if_icmp .ne 200, 3) := by decide +kernel
theorem dL_errors_91 : decode cL_errors 91 = .ok (.aload_n 0, 1) := by decide +kernel
theorem dL_errors_92 : decode cL_errors 92 = .ok (.iload_n 1, 1) := by decide +kernel
theorem dL_errors_93 : decode cL_errors 93 = .ok (.invokestatic 126, 3) := by decide +kernel
theorem dL_errors_96 : decode cL_errors 96 = .ok (.bipush (-101), 2) := by decide +kernel
theorem dL_errors_98 : decode cL_errors 98 = .ok (.if_icmp .ne 190, 3) := by decide +kernel
theorem dL_errors_101 : decode cL_errors 101 = .ok (.aload_n 0, 1) := by decide +kernel
theorem dL_errors_102 : decode cL_errors 102 = .ok (.iload_n 1, 1) := by decide +kernel
theorem dL_errors_103 : decode cL_errors 103 = .ok (.invokestatic 129, 3) := by decide +kernel
theorem dL_errors_106 : decode cL_errors 106 = .ok (.bipush (-101), 2) := by decide +kernel
theorem dL_errors_108 : decode cL_errors 108 = .ok (.if_icmp .ne 180, 3) := by decide +kernel
theorem dL_errors_111 : decode cL_errors 111 = .ok (.aload_n 0, 1) := by decide +kernel
theorem dL_errors_112 : decode cL_errors 112 = .ok (.iconst (-1), 1) := by decide +kernel
theorem dL_errors_113 : decode cL_errors 113 = .ok (.invokestatic 129, 3) := by decide +kernel
theorem dL_errors_116 : decode cL_errors 116 = .ok (.bipush (-101), 2) := by decide +kernel
theorem dL_errors_118 : decode cL_errors 118 = .ok (.if_icmp .ne 170, 3) := by decide +kernel
theorem dL_errors_121 : decode cL_errors 121 = .ok (.aload_n 0, 1) := by decide +kernel
theorem dL_errors_122 : decode cL_errors 122 = .ok (.iconst 0, 1) := by decide +kernel
theorem dL_errors_123 : decode cL_errors 123 = .ok (.invokestatic 131, 3) := by decide +kernel
theorem dL_errors_126 : decode cL_errors 126 = .ok (.bipush (-102), 2) := by decide +kernel
theorem dL_errors_128 : decode cL_errors 128 = .ok (.if_icmp .ne 160, 3) := by decide +kernel
theorem dL_errors_131 : decode cL_errors 131 = .ok (.aload_n 0, 1) := by decide +kernel
theorem dL_errors_132 : decode cL_errors 132 = .ok (.bipush 100, 2) := by decide +kernel
theorem dL_errors_134 : decode cL_errors 134 = .ok (.invokestatic 131, 3) := by decide +kernel
theorem dL_errors_137 : decode cL_errors 137 = .ok (.bipush (-102), 2) := by decide +kernel
theorem dL_errors_139 : decode cL_errors 139 = .ok (.if_icmp .ne 149, 3) := by decide +kernel
theorem dL_errors_142 : decode cL_errors 142 = .ok (.aload_n 0, 1) := by decide +kernel
theorem dL_errors_143 : decode cL_errors 143 = .ok (.iload_n 1, 1) := by decide +kernel
theorem dL_errors_144 : decode cL_errors 144 = .ok (.invokestatic 134, 3) := by decide +kernel
theorem dL_errors_147 : decode cL_errors 147 = .ok (.bipush (-101), 2) := by decide +kernel
theorem dL_errors_149 : decode cL_errors 149 = .ok (.if_icmp .ne 139, 3) := by decide +kernel
theorem dL_errors_152 : decode cL_errors 152 = .ok (.aload_n 0, 1) := by decide +kernel
theorem dL_errors_153 : decode cL_errors 153 = .ok (.iload_n 1, 1) := by decide +kernel
theorem dL_errors_154 : decode cL_errors 154 = .ok (.invokestatic 136, 3) := by decide +kernel
theorem dL_errors_157 : decode cL_errors 157 = .ok (.bipush (-101), 2) := by decide +kernel
theorem dL_errors_159 : decode cL_errors 159 = .ok (.if_icmp .ne 129, 3) := by decide +kernel
theorem dL_errors_162 : decode cL_errors 162 = .ok (.aload_n 0, 1) := by decide +kernel
theorem dL_errors_163 : decode cL_errors 163 = .ok (.iload_n 1, 1) := by decide +kernel
theorem dL_errors_164 : decode cL_errors 164 = .ok (.iconst 0, 1) := by decide +kernel
theorem dL_errors_165 : decode cL_errors 165 = .ok (.iconst 0, 1) := by decide +kernel
theorem dL_errors_166 : decode cL_errors 166 = .ok (.invokestatic 138, 3) := by decide +kernel
theorem dL_errors_169 : decode cL_errors 169 = .ok (.bipush (-101), 2) := by decide +kernel
theorem dL_errors_171 : decode cL_errors 171 = .ok (.if_icmp .ne 117, 3) := by decide +kernel
theorem dL_errors_174 : decode cL_errors 174 = .ok (.aload_n 0, 1) := by decide +kernel
theorem dL_errors_175 : decode cL_errors 175 = .ok (.iconst 0, 1) := by decide +kernel
theorem dL_errors_176 : decode cL_errors 176 = .ok (.iconst 0, 1) := by decide +kernel
theorem dL_errors_177 : decode cL_errors 177 = .ok (.iconst 0, 1) := by decide +kernel
theorem dL_errors_178 : decode cL_errors 178 = .ok (.invokestatic 138, 3) := by decide +kernel
theorem dL_errors_181 : decode cL_errors 181 = .ok (.bipush (-102), 2) := by decide +kernel
theorem dL_errors_183 : decode cL_errors 183 = .ok (.if_icmp .ne 105, 3) := by decide +kernel
theorem dL_errors_186 : decode cL_errors 186 = .ok (.aload_n 0, 1) := by decide +kernel
theorem dL_errors_187 : decode cL_errors 187 = .ok (.iconst 0, 1) := by decide +kernel
theorem dL_errors_188 : decode cL_errors 188 = .ok (.bipush 10, 2) := by decide +kernel
theorem dL_errors_190 : decode cL_errors 190 = .ok (.iconst 0, 1) := by decide +kernel
theorem dL_errors_191 : decode cL_errors 191 = .ok (.invokestatic 138, 3) := by decide +kernel
theorem dL_errors_194 : decode cL_errors 194 = .ok (.bipush (-102), 2) := by decide +kernel
theorem dL_errors_196 : decode cL_errors 196 = .ok (.if_icmp .ne 92, 3) := by decide +kernel
theorem dL_errors_199 : decode cL_errors 199 = .ok (.aload_n 0, 1) := by decide +kernel
theorem dL_errors_200 : decode cL_errors 200 = .ok (.iconst 0, 1) := by decide +kernel
theorem dL_errors_201 : decode cL_errors 201 = .ok (.iconst 1, 1) := by decide +kernel
theorem dL_errors_202 : decode cL_errors 202 = .ok (.bipush 10, 2) := by decide +kernel
theorem dL_errors_204 : decode cL_errors 204 = .ok (.invokestatic 138, 3) := by decide +kernel
theorem dL_errors_207 : decode cL_errors 207 = .ok (.bipush (-102), 2) := by decide +kernel
theorem dL_errors_209 : decode cL_errors 209 = .ok (.if_icmp .ne 79, 3) := by decide +kernel
theorem dL_errors_212 : decode cL_errors 212 = .ok (.aload_n 0, 1) := by decide +kernel
theorem dL_errors_213 : decode cL_errors 213 = .ok (.iconst 0, 1) := by decide +kernel
theorem dL_errors_214 : decode cL_errors 214 = .ok (.invokestatic 142, 3) := by decide +kernel
theorem dL_errors_217 : decode cL_errors 217 = .ok (.bipush (-102), 2) := by decide +kernel
theorem dL_errors_219 : decode cL_errors 219 = .ok (.if_icmp .ne 69, 3) := by decide +kernel
theorem dL_errors_222 : decode cL_errors 222 = .ok (.aload_n 0, 1) := by decide +kernel
theorem dL_errors_223 : decode cL_errors 223 = .ok (.bipush 10, 2) := by decide +kernel
theorem dL_errors_225 : decode cL_errors 225 = .ok (.invokestatic 142, 3) := by decide +kernel
theorem dL_errors_228 : decode cL_errors 228 = .ok (.bipush (-102), 2) := by decide +kernel
theorem dL_errors_230 : decode cL_errors 230 = .ok (.if_icmp .ne 58, 3) := by decide +kernel
theorem dL_errors_233 : decode cL_errors 233 = .ok (.aload_n 0, 1) := by decide +kernel
theorem dL_errors_234 : decode cL_errors 234 = .ok (.iload_n 1, 1) := by decide +kernel
theorem dL_errors_235 : decode cL_errors 235 = .ok (.invokestatic 144, 3) := by decide +kernel
theorem dL_errors_238 : decode cL_errors 238 = .ok (.bipush (-101), 2) := by decide +kernel
theorem dL_errors_240 : decode cL_errors 240 = .ok (.if_icmp .ne 48, 3) := by decide +kernel
theorem dL_errors_243 : decode cL_errors 243 = .ok (.aload_n 0, 1) := by decide +kernel
theorem dL_errors_244 : decode cL_errors 244 = .ok (.iload_n 1, 1) := by decide +kernel
theorem dL_errors_245 : decode cL_errors 245 = .ok (.invokestatic 147, 3) := by decide +kernel
theorem dL_errors_248 : decode cL_errors 248 = .ok (.bipush (-101), 2) := by decide +kernel
theorem dL_errors_250 : decode cL_errors 250 = .ok (.if_icmp .ne 38, 3) := by decide +kernel
theorem dL_errors_253 : decode cL_errors 253 = .ok (.aload_n 0, 1) := by decide +kernel
theorem dL_errors_254 : decode cL_errors 254 = .ok (.iconst (-1), 1) := by decide +kernel
theorem dL_errors_255 : decode cL_errors 255 = .ok (.invokestatic 149, 3) := by decide +kernel
theorem dL_errors_258 : decode cL_errors 258 = .ok (.bipush (-101), 2) := by decide +kernel
theorem dL_errors_260 : decode cL_errors 260 = .ok (.if_icmp .ne 28, 3) := by decide +kernel
theorem dL_errors_263 : decode cL_errors 263 = .ok (.aload_n 0, 1) := by decide +kernel
theorem dL_errors_264 : decode cL_errors 264 = .ok (.iconst (-1), 1) := by decide +kernel
theorem dL_errors_265 : decode cL_errors 265 = .ok (.invokestatic 151, 3) := by decide +kernel
theorem dL_errors_268 : decode cL_errors 268 = .ok (.bipush (-102), 2) := by decide +kernel

set_option maxRecDepth 20000 in
theorem ggL_append_X8_append : GoodIn wsL_append wsX8_append := goodIn_ca (goodIn_ca (goodIn_r _ [7, 8, 9, 10, 11, 12, 6, 13, 14, 15, 16, 17, 18, 19, 20, 21, 22, 23, 24, 25, 26, 27, 28, 29, 30, 31, 32, 33, 34, 35, 36, 37] (by decide +kernel) (by decide +kernel)) (goodIn_sub (fun _ h => List.mem_cons_of_mem _ (List.mem_append_left _ (List.mem_append_right _ h))) (by decide +kernel))) (goodIn_sub (fun _ h => List.mem_cons_of_mem _ (List.mem_append_right _ h)) (by decide +kernel))
set_option maxRecDepth 20000 in
theorem gL_append_X8_append : GoodIn wsL_append (wsV RL 7 RX8 yX8_append wsX8_append) := goodIn_app (goodIn_of _ (by decide +kernel)) ggL_append_X8_append
theorem dL_append_0 : decode cL_append 0 = .ok (.aload_n 2, 1) := by decide +kernel
theorem dL_append_1 : decode cL_append 1 = .ok (.iconst 0, 1) := by decide +kernel
theorem dL_append_2 : decode cL_append 2 = .ok (.aload_n 0, 1) := by decide +kernel
theorem dL_append_3 : decode cL_append 3 = .ok (.iload_n 1, 1) := by decide +kernel
theorem dL_append_4 : decode cL_append 4 = .ok (.invokevirtual 7, 3) := by decide +kernel
theorem dL_append_7 : decode cL_append 7 = .ok (.i2l, 1) := by decide +kernel
theorem dL_append_8 : decode cL_append 8 = .ok (.lastore, 1) := by decide +kernel
theorem dL_append_9 : decode cL_append 9 = .ok (.goto 9, 3) := by decide +kernel
theorem dL_append_12 : decode cL_append 12 = .ok (.astore_n 3, 1) := by decide +kernel
theorem dL_append_13 : decode cL_append 13 = .ok (.iconst 1, 1) := by decide +kernel
theorem dL_append_14 : decode cL_append 14 = .ok (.ireturn, 1) := by decide +kernel
theorem dL_append_15 : decode cL_append 15 = .ok (.astore_n 3, 1) := by decide +kernel
theorem dL_append_16 : decode cL_append 16 = .ok (.iconst 2, 1) := by decide +kernel
theorem dL_append_17 : decode cL_append 17 = .ok (.ireturn, 1) := by decide +kernel
theorem dL_append_18 : decode cL_append 18 = .ok (.iconst 0, 1) := by decide +kernel
theorem dL_append_19 : decode cL_append 19 = .ok (.ireturn, 1) := by decide +kernel
set_option maxRecDepth 20000 in
theorem ggL_load_X8_load : GoodIn wsL_load wsX8_load := goodIn_ca (goodIn_r _ [6, 7, 8, 9, 10, 11, 12, 13, 14, 15, 16, 17, 18, 19, 20, 21, 22, 23, 24, 25, 26, 27, 28, 29, 30, 31, 32, 33, 34, 35, 36, 37, 38, 39, 40, 41, 42, 43, 44, 45, 46, 47, 48, 49, 50, 51, 52, 53, 54, 55, 56, 57, 58, 59, 60, 61, 62, 63, 64, 65, 66, 67, 68, 69, 70, 71, 72, 73, 74, 75, 76, 77, 78, 79, 80, 81, 82, 83, 84, 85, 86, 87, 88, 89, 90, 91, 92, 93, 94, 95, 96, 97, 98, 99, 100, 101, 102, 103, 104, 105, 106, 107, 108, 109, 110, 111, 112, 113, 114, 115, 116, 117, 118, 119, 120, 121, 122, 123, 124, 125, 126, 127, 128, 129, 130, 131, 132, 133, 134, 135, 136, 137, 138, 139, 140, 141] (by decide +kernel) (by decide +kernel)) (goodIn_sub (fun _ h => List.mem_cons_of_mem _ (List.mem_append_right _ h)) (by decide +kernel))
set_option maxRecDepth 20000 in
theorem gL_load_X8_load : GoodIn wsL_load (wsV RL 17 RX8 yX8_load wsX8_load) := goodIn_app (goodIn_of _ (by decide +kernel)) ggL_load_X8_load
theorem dL_load_0 : decode cL_load 0 = .ok (.aload_n 1, 1) := by decide +kernel
theorem dL_load_1 : decode cL_load 1 = .ok (.iconst 0, 1) := by decide +kernel
theorem dL_load_2 : decode cL_load 2 = .ok (.aload_n 0, 1) := by decide +kernel
theorem dL_load_3 : decode cL_load 3 = .ok (.invokevirtual 17, 3) := by decide +kernel
theorem dL_load_6 : decode cL_load 6 = .ok (.i2l, 1) := by decide +kernel
theorem dL_load_7 : decode cL_load 7 = .ok (.lastore, 1) := by decide +kernel
theorem dL_load_8 : decode cL_load 8 = .ok (.goto 6, 3) := by decide +kernel
theorem dL_load_11 : decode cL_load 11 = .ok (.astore_n 2, 1) := by decide +kernel
theorem dL_load_12 : decode cL_load 12 = .ok (.iconst 1, 1) := by decide +kernel
theorem dL_load_13 : decode cL_load 13 = .ok (.ireturn, 1) := by decide +kernel
theorem dL_load_14 : decode cL_load 14 = .ok (.iconst 0, 1) := by decide +kernel
theorem dL_load_15 : decode cL_load 15 = .ok (.ireturn, 1) := by decide +kernel
set_option maxRecDepth 20000 in
theorem ggL_drawn_X8_drawn : GoodIn wsL_drawn wsX8_drawn := goodIn_ca (goodIn_r _ [6, 7, 8, 9, 10, 5, 11, 12, 13, 14, 15, 16, 17, 18, 19, 20, 21, 22, 23, 24, 25, 26, 27, 28, 29, 30, 31, 32, 33, 34, 35, 36, 37, 38, 39, 40, 41, 42, 43, 44, 45, 46, 47, 48] (by decide +kernel) (by decide +kernel)) (goodIn_sub (fun _ h => List.mem_cons_of_mem _ (List.mem_append_right _ h)) (by decide +kernel))
set_option maxRecDepth 20000 in
theorem gL_drawn_X8_drawn : GoodIn wsL_drawn (wsV RL 21 RX8 yX8_drawn wsX8_drawn) := goodIn_app (goodIn_of _ (by decide +kernel)) ggL_drawn_X8_drawn
theorem dL_drawn_0 : decode cL_drawn 0 = .ok (.aload_n 2, 1) := by decide +kernel
theorem dL_drawn_1 : decode cL_drawn 1 = .ok (.iconst 0, 1) := by decide +kernel
theorem dL_drawn_2 : decode cL_drawn 2 = .ok (.aload_n 0, 1) := by decide +kernel
theorem dL_drawn_3 : decode cL_drawn 3 = .ok (.iload_n 1, 1) := by decide +kernel
theorem dL_drawn_4 : decode cL_drawn 4 = .ok (.invokevirtual 21, 3) := by decide +kernel
theorem dL_drawn_7 : decode cL_drawn 7 = .ok (.i2l, 1) := by decide +kernel
theorem dL_drawn_8 : decode cL_drawn 8 = .ok (.lastore, 1) := by decide +kernel
theorem dL_drawn_9 : decode cL_drawn 9 = .ok (.goto 6, 3) := by decide +kernel
theorem dL_drawn_12 : decode cL_drawn 12 = .ok (.astore_n 3, 1) := by decide +kernel
theorem dL_drawn_13 : decode cL_drawn 13 = .ok (.iconst 1, 1) := by decide +kernel
theorem dL_drawn_14 : decode cL_drawn 14 = .ok (.ireturn, 1) := by decide +kernel
theorem dL_drawn_15 : decode cL_drawn 15 = .ok (.iconst 0, 1) := by decide +kernel
theorem dL_drawn_16 : decode cL_drawn 16 = .ok (.ireturn, 1) := by decide +kernel
set_option maxRecDepth 20000 in
theorem ggL_remaining_X8_remaining : GoodIn wsL_remaining wsX8_remaining := goodIn_ca (goodIn_r _ [6, 7, 8, 9, 10, 5, 11, 12, 13, 14, 15, 16, 17, 18, 19, 20, 21, 22, 23, 24, 25, 26, 27, 28, 29, 30, 31, 32, 33, 34, 35, 36, 37, 38, 39, 40, 41, 42, 43, 44, 45, 46, 47, 48, 49] (by decide +kernel) (by decide +kernel)) (goodIn_sub (fun _ h => List.mem_cons_of_mem _ (List.mem_append_right _ h)) (by decide +kernel))
set_option maxRecDepth 20000 in
theorem gL_remaining_X8_remaining : GoodIn wsL_remaining (wsV RL 26 RX8 yX8_remaining wsX8_remaining) := goodIn_app (goodIn_of _ (by decide +kernel)) ggL_remaining_X8_remaining
theorem dL_remaining_0 : decode cL_remaining 0 = .ok (.aload_n 2, 1) := by decide +kernel
theorem dL_remaining_1 : decode cL_remaining 1 = .ok (.iconst 0, 1) := by decide +kernel
theorem dL_remaining_2 : decode cL_remaining 2 = .ok (.aload_n 0, 1) := by decide +kernel
theorem dL_remaining_3 : decode cL_remaining 3 = .ok (.iload_n 1, 1) := by decide +kernel
theorem dL_remaining_4 : decode cL_remaining 4 = .ok (.invokevirtual 26, 3) := by decide +kernel
theorem dL_remaining_7 : decode cL_remaining 7 = .ok (.i2l, 1) := by decide +kernel
theorem dL_remaining_8 : decode cL_remaining 8 = .ok (.lastore, 1) := by decide +kernel
theorem dL_remaining_9 : decode cL_remaining 9 = .ok (.goto 6, 3) := by decide +kernel
theorem dL_remaining_12 : decode cL_remaining 12 = .ok (.astore_n 3, 1) := by decide +kernel
theorem dL_remaining_13 : decode cL_remaining 13 = .ok (.iconst 1, 1) := by decide +kernel
theorem dL_remaining_14 : decode cL_remaining 14 = .ok (.ireturn, 1) := by decide +kernel
theorem dL_remaining_15 : decode cL_remaining 15 = .ok (.iconst 0, 1) := by decide +kernel
theorem dL_remaining_16 : decode cL_remaining 16 = .ok (.ireturn, 1) := by decide +kernel
set_option maxRecDepth 20000 in
theorem ggL_sliceCount_X8_sliceCount : GoodIn wsL_sliceCount wsX8_sliceCount := goodIn_ca (goodIn_r _ [6, 7, 8, 9, 10, 5, 11, 12, 13, 14, 15, 16, 17, 18, 19, 20, 21, 22, 23, 24, 25, 26, 27, 28, 29, 30, 31, 32, 33, 34, 35, 36, 37, 38, 39, 40, 41, 42, 43, 44, 45, 46, 47, 48] (by decide +kernel) (by decide +kernel)) (goodIn_sub (fun _ h => List.mem_cons_of_mem _ (List.mem_append_right _ h)) (by decide +kernel))
set_option maxRecDepth 20000 in
theorem gL_sliceCount_X8_sliceCount : GoodIn wsL_sliceCount (wsV RL 29 RX8 yX8_sliceCount wsX8_sliceCount) := goodIn_app (goodIn_of _ (by decide +kernel)) ggL_sliceCount_X8_sliceCount
theorem dL_sliceCount_0 : decode cL_sliceCount 0 = .ok (.aload_n 2, 1) := by decide +kernel
theorem dL_sliceCount_1 : decode cL_sliceCount 1 = .ok (.iconst 0, 1) := by decide +kernel
theorem dL_sliceCount_2 : decode cL_sliceCount 2 = .ok (.aload_n 0, 1) := by decide +kernel
theorem dL_sliceCount_3 : decode cL_sliceCount 3 = .ok (.iload_n 1, 1) := by decide +kernel
theorem dL_sliceCount_4 : decode cL_sliceCount 4 = .ok (.invokevirtual 29, 3) := by decide +kernel
theorem dL_sliceCount_7 : decode cL_sliceCount 7 = .ok (.i2l, 1) := by decide +kernel
theorem dL_sliceCount_8 : decode cL_sliceCount 8 = .ok (.lastore, 1) := by decide +kernel
theorem dL_sliceCount_9 : decode cL_sliceCount 9 = .ok (.goto 6, 3) := by decide +kernel
theorem dL_sliceCount_12 : decode cL_sliceCount 12 = .ok (.astore_n 3, 1) := by decide +kernel
theorem dL_sliceCount_13 : decode cL_sliceCount 13 = .ok (.iconst 1, 1) := by decide +kernel
theorem dL_sliceCount_14 : decode cL_sliceCount 14 = .ok (.ireturn, 1) := by decide +kernel
theorem dL_sliceCount_15 : decode cL_sliceCount 15 = .ok (.iconst 0, 1) := by decide +kernel
theorem dL_sliceCount_16 : decode cL_sliceCount 16 = .ok (.ireturn, 1) := by decide +kernel
set_option maxRecDepth 20000 in
theorem ggL_gradeAhead_X8_gradeAhead : GoodIn wsL_gradeAhead wsX8_gradeAhead := goodIn_ca (goodIn_ca (goodIn_r _ [7, 8, 9, 10, 11, 6, 12, 13, 14, 15, 16, 17, 18, 19, 20, 21, 22, 23, 24, 25, 26, 27, 28, 29, 30, 31, 32, 33, 34, 35, 36, 37, 38, 39, 40, 41, 42, 43, 44, 45, 46, 47, 48, 49, 50, 51, 52, 53, 54, 55, 56] (by decide +kernel) (by decide +kernel)) (goodIn_sub (fun _ h => List.mem_cons_of_mem _ (List.mem_append_left _ (List.mem_append_right _ h))) (by decide +kernel))) (goodIn_sub (fun _ h => List.mem_cons_of_mem _ (List.mem_append_right _ h)) (by decide +kernel))
set_option maxRecDepth 20000 in
theorem gL_gradeAhead_X8_gradeAhead : GoodIn wsL_gradeAhead (wsV RL 32 RX8 yX8_gradeAhead wsX8_gradeAhead) := goodIn_app (goodIn_of _ (by decide +kernel)) ggL_gradeAhead_X8_gradeAhead
theorem dL_gradeAhead_0 : decode cL_gradeAhead 0 = .ok (.aload_n 3, 1) := by decide +kernel
theorem dL_gradeAhead_1 : decode cL_gradeAhead 1 = .ok (.iconst 0, 1) := by decide +kernel
theorem dL_gradeAhead_2 : decode cL_gradeAhead 2 = .ok (.aload_n 0, 1) := by decide +kernel
theorem dL_gradeAhead_3 : decode cL_gradeAhead 3 = .ok (.iload_n 1, 1) := by decide +kernel
theorem dL_gradeAhead_4 : decode cL_gradeAhead 4 = .ok (.iload_n 2, 1) := by decide +kernel
theorem dL_gradeAhead_5 : decode cL_gradeAhead 5 = .ok (.invokevirtual 32, 3) := by decide +kernel
theorem dL_gradeAhead_8 : decode cL_gradeAhead 8 = .ok (.i2l, 1) := by decide +kernel
theorem dL_gradeAhead_9 : decode cL_gradeAhead 9 = .ok (.lastore, 1) := by decide +kernel
theorem dL_gradeAhead_10 : decode cL_gradeAhead 10 = .ok (.goto 11, 3) := by decide +kernel
theorem dL_gradeAhead_13 : decode cL_gradeAhead 13 = .ok (.astore 4, 2) := by decide +kernel
theorem dL_gradeAhead_15 : decode cL_gradeAhead 15 = .ok (.iconst 1, 1) := by decide +kernel
theorem dL_gradeAhead_16 : decode cL_gradeAhead 16 = .ok (.ireturn, 1) := by decide +kernel
theorem dL_gradeAhead_17 : decode cL_gradeAhead 17 = .ok (.astore 4, 2) := by decide +kernel
theorem dL_gradeAhead_19 : decode cL_gradeAhead 19 = .ok (.iconst 2, 1) := by decide +kernel
theorem dL_gradeAhead_20 : decode cL_gradeAhead 20 = .ok (.ireturn, 1) := by decide +kernel
theorem dL_gradeAhead_21 : decode cL_gradeAhead 21 = .ok (.iconst 0, 1) := by decide +kernel
theorem dL_gradeAhead_22 : decode cL_gradeAhead 22 = .ok (.ireturn, 1) := by decide +kernel
set_option maxRecDepth 20000 in
theorem ggL_isHung_X8_isHung : GoodIn wsL_isHung wsX8_isHung := goodIn_ca (goodIn_r _ [6, 7, 8, 9, 10, 5, 11, 12, 13, 14, 15, 16, 17, 18, 19, 20, 21, 22, 23, 24, 25, 26, 27, 28, 29, 30, 31, 32, 33, 34, 35, 36, 37, 38, 39, 40, 41, 42, 43, 44, 45, 46, 47, 48] (by decide +kernel) (by decide +kernel)) (goodIn_sub (fun _ h => List.mem_cons_of_mem _ (List.mem_append_right _ h)) (by decide +kernel))
set_option maxRecDepth 20000 in
theorem gL_isHung_X8_isHung : GoodIn wsL_isHung (wsV RL 36 RX8 yX8_isHung wsX8_isHung) := goodIn_app (goodIn_of _ (by decide +kernel)) ggL_isHung_X8_isHung
theorem dL_isHung_0 : decode cL_isHung 0 = .ok (.aload_n 2, 1) := by decide +kernel
theorem dL_isHung_1 : decode cL_isHung 1 = .ok (.iconst 0, 1) := by decide +kernel
theorem dL_isHung_2 : decode cL_isHung 2 = .ok (.aload_n 0, 1) := by decide +kernel
theorem dL_isHung_3 : decode cL_isHung 3 = .ok (.iload_n 1, 1) := by decide +kernel
theorem dL_isHung_4 : decode cL_isHung 4 = .ok (.invokevirtual 36, 3) := by decide +kernel
theorem dL_isHung_7 : decode cL_isHung 7 = .ok (.ifCond .eq 7, 3) := by decide +kernel
theorem dL_isHung_10 : decode cL_isHung 10 = .ok (.lconst 1, 1) := by decide +kernel
theorem dL_isHung_11 : decode cL_isHung 11 = .ok (.goto 4, 3) := by decide +kernel
theorem dL_isHung_14 : decode cL_isHung 14 = .ok (.lconst 0, 1) := by decide +kernel
theorem dL_isHung_15 : decode cL_isHung 15 = .ok (.lastore, 1) := by decide +kernel
theorem dL_isHung_16 : decode cL_isHung 16 = .ok (.goto 6, 3) := by decide +kernel
theorem dL_isHung_19 : decode cL_isHung 19 = .ok (.astore_n 3, 1) := by decide +kernel
theorem dL_isHung_20 : decode cL_isHung 20 = .ok (.iconst 1, 1) := by decide +kernel
theorem dL_isHung_21 : decode cL_isHung 21 = .ok (.ireturn, 1) := by decide +kernel
theorem dL_isHung_22 : decode cL_isHung 22 = .ok (.iconst 0, 1) := by decide +kernel
theorem dL_isHung_23 : decode cL_isHung 23 = .ok (.ireturn, 1) := by decide +kernel
set_option maxRecDepth 20000 in
theorem ggL_draw_X8_draw : GoodIn wsL_draw wsX8_draw := goodIn_ca (goodIn_ca (goodIn_r _ [7, 8, 9, 10, 11, 12, 13, 14, 15, 6, 16, 17, 18, 19, 20, 21, 22, 23, 24, 25, 26, 27, 28, 29, 30, 31, 32, 33, 34, 35, 36, 37, 38, 39, 40, 41, 42, 43, 44, 45, 46, 47, 48, 49, 50, 51, 52, 53, 54, 55, 56, 57, 58, 59, 60, 61, 62, 63, 64, 65, 66, 67, 68, 69, 70, 71, 72, 73, 74, 75, 76, 77, 78, 79, 80, 81, 82, 83, 84, 85, 86, 87, 88, 89, 90, 91, 92, 93, 94, 95, 96, 97, 98, 99, 100, 101, 102, 103, 104, 105, 106, 107, 108, 109, 110, 111, 112, 113] (by decide +kernel) (by decide +kernel)) (goodIn_sub (fun _ h => List.mem_cons_of_mem _ (List.mem_append_left _ (List.mem_append_right _ h))) (by decide +kernel))) (goodIn_sub (fun _ h => List.mem_cons_of_mem _ (List.mem_append_right _ h)) (by decide +kernel))
set_option maxRecDepth 20000 in
theorem gL_draw_X8_draw : GoodIn wsL_draw (wsV RL 40 RX8 yX8_draw wsX8_draw) := goodIn_app (goodIn_of _ (by decide +kernel)) ggL_draw_X8_draw
theorem dL_draw_0 : decode cL_draw 0 = .ok (.aload_n 2, 1) := by decide +kernel
theorem dL_draw_1 : decode cL_draw 1 = .ok (.iconst 0, 1) := by decide +kernel
theorem dL_draw_2 : decode cL_draw 2 = .ok (.aload_n 0, 1) := by decide +kernel
theorem dL_draw_3 : decode cL_draw 3 = .ok (.iload_n 1, 1) := by decide +kernel
theorem dL_draw_4 : decode cL_draw 4 = .ok (.invokevirtual 40, 3) := by decide +kernel
theorem dL_draw_7 : decode cL_draw 7 = .ok (.i2l, 1) := by decide +kernel
theorem dL_draw_8 : decode cL_draw 8 = .ok (.lastore, 1) := by decide +kernel
theorem dL_draw_9 : decode cL_draw 9 = .ok (.goto 9, 3) := by decide +kernel
theorem dL_draw_12 : decode cL_draw 12 = .ok (.astore_n 3, 1) := by decide +kernel
theorem dL_draw_13 : decode cL_draw 13 = .ok (.iconst 1, 1) := by decide +kernel
theorem dL_draw_14 : decode cL_draw 14 = .ok (.ireturn, 1) := by decide +kernel
theorem dL_draw_15 : decode cL_draw 15 = .ok (.astore_n 3, 1) := by decide +kernel
theorem dL_draw_16 : decode cL_draw 16 = .ok (.iconst 2, 1) := by decide +kernel
theorem dL_draw_17 : decode cL_draw 17 = .ok (.ireturn, 1) := by decide +kernel
theorem dL_draw_18 : decode cL_draw 18 = .ok (.iconst 0, 1) := by decide +kernel
theorem dL_draw_19 : decode cL_draw 19 = .ok (.ireturn, 1) := by decide +kernel
set_option maxRecDepth 20000 in
theorem ggL_drawByOrder_X8_drawByOrder : GoodIn wsL_drawByOrder wsX8_drawByOrder := goodIn_ca (goodIn_r _ [6, 7, 8, 9, 10, 11, 5, 12, 13, 14, 15, 16, 17, 18, 19, 20, 21, 22, 23, 24, 25, 26, 27, 28, 29, 30, 31, 32, 33, 34, 35, 36, 37, 38, 39, 40, 41, 42, 43, 44, 45, 46, 47, 48, 49, 50, 51, 52, 53, 54, 55, 56, 57, 58, 59, 60, 61, 62, 63, 64, 65, 66, 67, 68, 69, 70, 71, 72, 73, 74, 75, 76, 77, 78, 79, 80, 81, 82, 83, 84, 85, 86, 87, 88, 89, 90, 91, 92, 93, 94, 95, 96, 97, 98, 99, 100, 101, 102, 103, 104, 105, 106, 107, 108, 109, 110, 111, 112, 113, 114, 115, 116, 117] (by decide +kernel) (by decide +kernel)) (goodIn_sub (fun _ h => List.mem_cons_of_mem _ (List.mem_append_right _ h)) (by decide +kernel))
set_option maxRecDepth 20000 in
theorem gL_drawByOrder_X8_drawByOrder : GoodIn wsL_drawByOrder (wsV RL 43 RX8 yX8_drawByOrder wsX8_drawByOrder) := goodIn_app (goodIn_of _ (by decide +kernel)) ggL_drawByOrder_X8_drawByOrder
theorem dL_drawByOrder_0 : decode cL_drawByOrder 0 = .ok (.aload_n 2, 1) := by decide +kernel
theorem dL_drawByOrder_1 : decode cL_drawByOrder 1 = .ok (.iconst 0, 1) := by decide +kernel
theorem dL_drawByOrder_2 : decode cL_drawByOrder 2 = .ok (.aload_n 0, 1) := by decide +kernel
theorem dL_drawByOrder_3 : decode cL_drawByOrder 3 = .ok (.iload_n 1, 1) := by decide +kernel
theorem dL_drawByOrder_4 : decode cL_drawByOrder 4 = .ok (.invokevirtual 43, 3) := by decide +kernel
theorem dL_drawByOrder_7 : decode cL_drawByOrder 7 = .ok (.i2l, 1) := by decide +kernel
theorem dL_drawByOrder_8 : decode cL_drawByOrder 8 = .ok (.lastore, 1) := by decide +kernel
theorem dL_drawByOrder_9 : decode cL_drawByOrder 9 = .ok (.goto 6, 3) := by decide +kernel
theorem dL_drawByOrder_12 : decode cL_drawByOrder 12 = .ok (.astore_n 3, 1) := by decide +kernel
theorem dL_drawByOrder_13 : decode cL_drawByOrder 13 = .ok (.iconst 1, 1) := by decide +kernel
theorem dL_drawByOrder_14 : decode cL_drawByOrder 14 = .ok (.ireturn, 1) := by decide +kernel
theorem dL_drawByOrder_15 : decode cL_drawByOrder 15 = .ok (.iconst 0, 1) := by decide +kernel
theorem dL_drawByOrder_16 : decode cL_drawByOrder 16 = .ok (.ireturn, 1) := by decide +kernel
set_option maxRecDepth 20000 in
theorem ggL_hang_X8_hang : GoodIn wsL_hang wsX8_hang := goodIn_ca (goodIn_ca (goodIn_r _ [7, 8, 9, 10, 11, 12, 13, 14, 6, 15, 16, 17, 18, 19, 20, 21, 22, 23, 24, 25, 26, 27, 28, 29, 30, 31, 32, 33, 34, 35, 36, 37, 38, 39, 40, 41, 42, 43, 44, 45, 46, 47, 48, 49, 50, 51, 52, 53, 54, 55, 56, 57, 58, 59, 60, 61, 62, 63, 64, 65, 66, 67, 68, 69, 70, 71, 72, 73, 74, 75, 76, 77, 78, 79, 80, 81, 82, 83, 84, 85, 86, 87, 88, 89, 90, 91, 92, 93] (by decide +kernel) (by decide +kernel)) (goodIn_sub (fun _ h => List.mem_cons_of_mem _ (List.mem_append_left _ (List.mem_append_right _ h))) (by decide +kernel))) (goodIn_sub (fun _ h => List.mem_cons_of_mem _ (List.mem_append_right _ h)) (by decide +kernel))
set_option maxRecDepth 20000 in
theorem gL_hang_X8_hang : GoodIn wsL_hang (wsV RL 46 RX8 yX8_hang wsX8_hang) := goodIn_app (goodIn_of _ (by decide +kernel)) ggL_hang_X8_hang
theorem dL_hang_0 : decode cL_hang 0 = .ok (.aload_n 2, 1) := by decide +kernel
theorem dL_hang_1 : decode cL_hang 1 = .ok (.iconst 0, 1) := by decide +kernel
theorem dL_hang_2 : decode cL_hang 2 = .ok (.aload_n 0, 1) := by decide +kernel
theorem dL_hang_3 : decode cL_hang 3 = .ok (.iload_n 1, 1) := by decide +kernel
theorem dL_hang_4 : decode cL_hang 4 = .ok (.invokevirtual 46, 3) := by decide +kernel
theorem dL_hang_7 : decode cL_hang 7 = .ok (.i2l, 1) := by decide +kernel
theorem dL_hang_8 : decode cL_hang 8 = .ok (.lastore, 1) := by decide +kernel
theorem dL_hang_9 : decode cL_hang 9 = .ok (.goto 9, 3) := by decide +kernel
theorem dL_hang_12 : decode cL_hang 12 = .ok (.astore_n 3, 1) := by decide +kernel
theorem dL_hang_13 : decode cL_hang 13 = .ok (.iconst 1, 1) := by decide +kernel
theorem dL_hang_14 : decode cL_hang 14 = .ok (.ireturn, 1) := by decide +kernel
theorem dL_hang_15 : decode cL_hang 15 = .ok (.astore_n 3, 1) := by decide +kernel
theorem dL_hang_16 : decode cL_hang 16 = .ok (.iconst 2, 1) := by decide +kernel
theorem dL_hang_17 : decode cL_hang 17 = .ok (.ireturn, 1) := by decide +kernel
theorem dL_hang_18 : decode cL_hang 18 = .ok (.iconst 0, 1) := by decide +kernel
theorem dL_hang_19 : decode cL_hang 19 = .ok (.ireturn, 1) := by decide +kernel
set_option maxRecDepth 20000 in
theorem ggL_release_X8_release : GoodIn wsL_release wsX8_release := goodIn_ca (goodIn_ca (goodIn_r _ [7, 8, 9, 10, 11, 12, 13, 14, 6, 15, 16, 17, 18, 19, 20, 21, 22, 23, 24, 25, 26, 27, 28, 29, 30, 31, 32, 33, 34, 35, 36, 37, 38, 39, 40, 41, 42, 43, 44, 45, 46, 47, 48, 49, 50, 51, 52, 53, 54, 55, 56, 57, 58, 59, 60, 61, 62, 63, 64, 65, 66, 67, 68, 69, 70, 71, 72, 73, 74, 75, 76, 77, 78, 79, 80, 81, 82, 83, 84, 85, 86, 87, 88, 89, 90, 91, 92, 93] (by decide +kernel) (by decide +kernel)) (goodIn_sub (fun _ h => List.mem_cons_of_mem _ (List.mem_append_left _ (List.mem_append_right _ h))) (by decide +kernel))) (goodIn_sub (fun _ h => List.mem_cons_of_mem _ (List.mem_append_right _ h)) (by decide +kernel))
set_option maxRecDepth 20000 in
theorem gL_release_X8_release : GoodIn wsL_release (wsV RL 49 RX8 yX8_release wsX8_release) := goodIn_app (goodIn_of _ (by decide +kernel)) ggL_release_X8_release
theorem dL_release_0 : decode cL_release 0 = .ok (.aload_n 2, 1) := by decide +kernel
theorem dL_release_1 : decode cL_release 1 = .ok (.iconst 0, 1) := by decide +kernel
theorem dL_release_2 : decode cL_release 2 = .ok (.aload_n 0, 1) := by decide +kernel
theorem dL_release_3 : decode cL_release 3 = .ok (.iload_n 1, 1) := by decide +kernel
theorem dL_release_4 : decode cL_release 4 = .ok (.invokevirtual 49, 3) := by decide +kernel
theorem dL_release_7 : decode cL_release 7 = .ok (.i2l, 1) := by decide +kernel
theorem dL_release_8 : decode cL_release 8 = .ok (.lastore, 1) := by decide +kernel
theorem dL_release_9 : decode cL_release 9 = .ok (.goto 9, 3) := by decide +kernel
theorem dL_release_12 : decode cL_release 12 = .ok (.astore_n 3, 1) := by decide +kernel
theorem dL_release_13 : decode cL_release 13 = .ok (.iconst 1, 1) := by decide +kernel
theorem dL_release_14 : decode cL_release 14 = .ok (.ireturn, 1) := by decide +kernel
theorem dL_release_15 : decode cL_release 15 = .ok (.astore_n 3, 1) := by decide +kernel
theorem dL_release_16 : decode cL_release 16 = .ok (.iconst 2, 1) := by decide +kernel
theorem dL_release_17 : decode cL_release 17 = .ok (.ireturn, 1) := by decide +kernel
theorem dL_release_18 : decode cL_release 18 = .ok (.iconst 0, 1) := by decide +kernel
theorem dL_release_19 : decode cL_release 19 = .ok (.ireturn, 1) := by decide +kernel
set_option maxRecDepth 20000 in
theorem ggL_addSlice_X8_addSlice : GoodIn wsL_addSlice wsX8_addSlice := goodIn_ca (goodIn_ca (goodIn_ca (goodIn_r _ [8, 9, 10, 11, 12, 13, 14, 15, 7, 16, 17, 18, 19, 20, 21, 22, 23, 24, 25, 26, 27, 28, 29, 30, 31, 32, 33, 34, 35, 36, 37, 38, 39, 40, 41, 42, 43, 44, 45, 46, 47, 48, 49, 50, 51, 52, 53, 54, 55, 56, 57, 58, 59, 60, 61, 62, 63, 64, 65, 66, 67, 68, 69, 70, 71, 72, 73, 74, 75, 76, 77, 78, 79, 80, 81, 82, 83, 84, 85, 86, 87, 88] (by decide +kernel) (by decide +kernel)) (goodIn_sub (fun _ h => List.mem_cons_of_mem _ (List.mem_append_left _ (List.mem_append_left _ (List.mem_append_right _ h)))) (by decide +kernel))) (goodIn_sub (fun _ h => List.mem_cons_of_mem _ (List.mem_append_left _ (List.mem_append_right _ h))) (by decide +kernel))) (goodIn_sub (fun _ h => List.mem_cons_of_mem _ (List.mem_append_right _ h)) (by decide +kernel))
set_option maxRecDepth 20000 in
theorem gL_addSlice_X8_addSlice : GoodIn wsL_addSlice (wsV RL 52 RX8 yX8_addSlice wsX8_addSlice) := goodIn_app (goodIn_of _ (by decide +kernel)) ggL_addSlice_X8_addSlice
theorem dL_addSlice_0 : decode cL_addSlice 0 = .ok (.aload 4, 2) := by decide +kernel
theorem dL_addSlice_2 : decode cL_addSlice 2 = .ok (.iconst 0, 1) := by decide +kernel
theorem dL_addSlice_3 : decode cL_addSlice 3 = .ok (.aload_n 0, 1) := by decide +kernel
theorem dL_addSlice_4 : decode cL_addSlice 4 = .ok (.iload_n 1, 1) := by decide +kernel
theorem dL_addSlice_5 : decode cL_addSlice 5 = .ok (.iload_n 2, 1) := by decide +kernel
theorem dL_addSlice_6 : decode cL_addSlice 6 = .ok (.iload_n 3, 1) := by decide +kernel
theorem dL_addSlice_7 : decode cL_addSlice 7 = .ok (.invokevirtual 52, 3) := by decide +kernel
theorem dL_addSlice_10 : decode cL_addSlice 10 = .ok (.i2l, 1) := by decide +kernel
theorem dL_addSlice_11 : decode cL_addSlice 11 = .ok (.lastore, 1) := by decide +kernel
theorem dL_addSlice_12 : decode cL_addSlice 12 = .ok (.goto 15, 3) := by decide +kernel
theorem dL_addSlice_15 : decode cL_addSlice 15 = .ok (.astore 5, 2) := by decide +kernel
theorem dL_addSlice_17 : decode cL_addSlice 17 = .ok (.iconst 1, 1) := by decide +kernel
theorem dL_addSlice_18 : decode cL_addSlice 18 = .ok (.ireturn, 1) := by decide +kernel
theorem dL_addSlice_19 : decode cL_addSlice 19 = .ok (.astore 5, 2) := by decide +kernel
theorem dL_addSlice_21 : decode cL_addSlice 21 = .ok (.iconst 2, 1) := by decide +kernel
theorem dL_addSlice_22 : decode cL_addSlice 22 = .ok (.ireturn, 1) := by decide +kernel
theorem dL_addSlice_23 : decode cL_addSlice 23 = .ok (.astore 5, 2) := by decide +kernel
theorem dL_addSlice_25 : decode cL_addSlice 25 = .ok (.iconst 3, 1) := by decide +kernel
theorem dL_addSlice_26 : decode cL_addSlice 26 = .ok (.ireturn, 1) := by decide +kernel
theorem dL_addSlice_27 : decode cL_addSlice 27 = .ok (.iconst 0, 1) := by decide +kernel
theorem dL_addSlice_28 : decode cL_addSlice 28 = .ok (.ireturn, 1) := by decide +kernel
set_option maxRecDepth 20000 in
theorem ggL_setBound_X8_setBound : GoodIn wsL_setBound wsX8_setBound := goodIn_ca (goodIn_ca (goodIn_r _ [7, 8, 9, 10, 11, 12, 13, 14, 6, 15, 16, 17, 18, 19, 20, 21, 22, 23, 24, 25, 26, 27, 28, 29, 30, 31, 32, 33, 34, 35, 36, 37, 38, 39, 40, 41, 42, 43, 44, 45, 46, 47, 48, 49, 50, 51, 52, 53, 54, 55, 56, 57, 58, 59, 60, 61, 62, 63, 64, 65, 66, 67, 68, 69, 70, 71, 72, 73, 74, 75, 76, 77, 78, 79, 80, 81, 82, 83, 84, 85, 86, 87, 88, 89, 90, 91, 92, 93, 94, 95, 96] (by decide +kernel) (by decide +kernel)) (goodIn_sub (fun _ h => List.mem_cons_of_mem _ (List.mem_append_left _ (List.mem_append_right _ h))) (by decide +kernel))) (goodIn_sub (fun _ h => List.mem_cons_of_mem _ (List.mem_append_right _ h)) (by decide +kernel))
set_option maxRecDepth 20000 in
theorem gL_setBound_X8_setBound : GoodIn wsL_setBound (wsV RL 56 RX8 yX8_setBound wsX8_setBound) := goodIn_app (goodIn_of _ (by decide +kernel)) ggL_setBound_X8_setBound
theorem dL_setBound_0 : decode cL_setBound 0 = .ok (.aload_n 2, 1) := by decide +kernel
theorem dL_setBound_1 : decode cL_setBound 1 = .ok (.iconst 0, 1) := by decide +kernel
theorem dL_setBound_2 : decode cL_setBound 2 = .ok (.aload_n 0, 1) := by decide +kernel
theorem dL_setBound_3 : decode cL_setBound 3 = .ok (.iload_n 1, 1) := by decide +kernel
theorem dL_setBound_4 : decode cL_setBound 4 = .ok (.invokevirtual 56, 3) := by decide +kernel
theorem dL_setBound_7 : decode cL_setBound 7 = .ok (.i2l, 1) := by decide +kernel
theorem dL_setBound_8 : decode cL_setBound 8 = .ok (.lastore, 1) := by decide +kernel
theorem dL_setBound_9 : decode cL_setBound 9 = .ok (.goto 9, 3) := by decide +kernel
theorem dL_setBound_12 : decode cL_setBound 12 = .ok (.astore_n 3, 1) := by decide +kernel
theorem dL_setBound_13 : decode cL_setBound 13 = .ok (.iconst 1, 1) := by decide +kernel
theorem dL_setBound_14 : decode cL_setBound 14 = .ok (.ireturn, 1) := by decide +kernel
theorem dL_setBound_15 : decode cL_setBound 15 = .ok (.astore_n 3, 1) := by decide +kernel
theorem dL_setBound_16 : decode cL_setBound 16 = .ok (.iconst 2, 1) := by decide +kernel
theorem dL_setBound_17 : decode cL_setBound 17 = .ok (.ireturn, 1) := by decide +kernel
theorem dL_setBound_18 : decode cL_setBound 18 = .ok (.iconst 0, 1) := by decide +kernel
theorem dL_setBound_19 : decode cL_setBound 19 = .ok (.ireturn, 1) := by decide +kernel
set_option maxRecDepth 20000 in
theorem ggL_undo_X8_undo : GoodIn wsL_undo wsX8_undo := goodIn_ca (goodIn_r _ [6, 7, 8, 9, 10, 11, 12, 13, 14, 15, 16, 17, 18, 19, 20, 21, 22, 23, 24, 25, 26, 27, 28, 29, 30, 31, 32, 33, 34, 35, 36, 37, 38, 39, 40, 41, 42, 43, 44, 45, 46, 47, 48, 49, 50, 51, 52, 53, 54, 55, 56, 57, 58, 59] (by decide +kernel) (by decide +kernel)) (goodIn_sub (fun _ h => List.mem_cons_of_mem _ (List.mem_append_right _ h)) (by decide +kernel))
set_option maxRecDepth 20000 in
theorem gL_undo_X8_undo : GoodIn wsL_undo (wsV RL 59 RX8 yX8_undo wsX8_undo) := goodIn_app (goodIn_of _ (by decide +kernel)) ggL_undo_X8_undo
theorem dL_undo_0 : decode cL_undo 0 = .ok (.aload_n 1, 1) := by decide +kernel
theorem dL_undo_1 : decode cL_undo 1 = .ok (.iconst 0, 1) := by decide +kernel
theorem dL_undo_2 : decode cL_undo 2 = .ok (.aload_n 0, 1) := by decide +kernel
theorem dL_undo_3 : decode cL_undo 3 = .ok (.invokevirtual 59, 3) := by decide +kernel
theorem dL_undo_6 : decode cL_undo 6 = .ok (.i2l, 1) := by decide +kernel
theorem dL_undo_7 : decode cL_undo 7 = .ok (.lastore, 1) := by decide +kernel
theorem dL_undo_8 : decode cL_undo 8 = .ok (.goto 6, 3) := by decide +kernel
theorem dL_undo_11 : decode cL_undo 11 = .ok (.astore_n 2, 1) := by decide +kernel
theorem dL_undo_12 : decode cL_undo 12 = .ok (.iconst 1, 1) := by decide +kernel
theorem dL_undo_13 : decode cL_undo 13 = .ok (.ireturn, 1) := by decide +kernel
theorem dL_undo_14 : decode cL_undo 14 = .ok (.iconst 0, 1) := by decide +kernel
theorem dL_undo_15 : decode cL_undo 15 = .ok (.ireturn, 1) := by decide +kernel
set_option maxRecDepth 20000 in
theorem ggL_isReady_X8_isReady : GoodIn wsL_isReady wsX8_isReady := goodIn_ca (goodIn_r _ [6, 7, 8, 9, 10, 11, 5, 12, 13, 14, 15, 16, 17, 18, 19, 20, 21, 22, 23, 24, 25, 26, 27, 28, 29, 30, 31, 32, 33, 34, 35, 36, 37, 38, 39, 40, 41, 42, 43, 44, 45, 46, 47, 48, 49, 50, 51, 52, 53, 54, 55, 56, 57, 58, 59, 60, 61, 62, 63, 64, 65, 66, 67, 68, 69, 70, 71, 72, 73, 74, 75, 76, 77, 78, 79] (by decide +kernel) (by decide +kernel)) (goodIn_sub (fun _ h => List.mem_cons_of_mem _ (List.mem_append_right _ h)) (by decide +kernel))
set_option maxRecDepth 20000 in
theorem gL_isReady_X8_isReady : GoodIn wsL_isReady (wsV RL 62 RX8 yX8_isReady wsX8_isReady) := goodIn_app (goodIn_of _ (by decide +kernel)) ggL_isReady_X8_isReady
theorem dL_isReady_0 : decode cL_isReady 0 = .ok (.aload_n 2, 1) := by decide +kernel
theorem dL_isReady_1 : decode cL_isReady 1 = .ok (.iconst 0, 1) := by decide +kernel
theorem dL_isReady_2 : decode cL_isReady 2 = .ok (.aload_n 0, 1) := by decide +kernel
theorem dL_isReady_3 : decode cL_isReady 3 = .ok (.iload_n 1, 1) := by decide +kernel
theorem dL_isReady_4 : decode cL_isReady 4 = .ok (.invokevirtual 62, 3) := by decide +kernel
theorem dL_isReady_7 : decode cL_isReady 7 = .ok (.ifCond .eq 7, 3) := by decide +kernel
theorem dL_isReady_10 : decode cL_isReady 10 = .ok (.lconst 1, 1) := by decide +kernel
theorem dL_isReady_11 : decode cL_isReady 11 = .ok (.goto 4, 3) := by decide +kernel
theorem dL_isReady_14 : decode cL_isReady 14 = .ok (.lconst 0, 1) := by decide +kernel
theorem dL_isReady_15 : decode cL_isReady 15 = .ok (.lastore, 1) := by decide +kernel
theorem dL_isReady_16 : decode cL_isReady 16 = .ok (.goto 6, 3) := by decide +kernel
theorem dL_isReady_19 : decode cL_isReady 19 = .ok (.astore_n 3, 1) := by decide +kernel
theorem dL_isReady_20 : decode cL_isReady 20 = .ok (.iconst 1, 1) := by decide +kernel
theorem dL_isReady_21 : decode cL_isReady 21 = .ok (.ireturn, 1) := by decide +kernel
theorem dL_isReady_22 : decode cL_isReady 22 = .ok (.iconst 0, 1) := by decide +kernel
theorem dL_isReady_23 : decode cL_isReady 23 = .ok (.ireturn, 1) := by decide +kernel
set_option maxRecDepth 20000 in
theorem ggL_blockers_X8_blockers : GoodIn wsL_blockers wsX8_blockers := goodIn_ca (goodIn_r _ [6, 7, 8, 9, 10, 11, 5, 12, 13, 14, 15, 16, 17, 18, 19, 20, 21, 22, 23, 24, 25, 26, 27, 28, 29, 30, 31, 32, 33, 34, 35, 36, 37, 38, 39, 40, 41, 42, 43, 44, 45, 46, 47, 48, 49, 50, 51, 52, 53, 54, 55, 56, 57, 58, 59] (by decide +kernel) (by decide +kernel)) (goodIn_sub (fun _ h => List.mem_cons_of_mem _ (List.mem_append_right _ h)) (by decide +kernel))
set_option maxRecDepth 20000 in
theorem gL_blockers_X8_blockers : GoodIn wsL_blockers (wsV RL 65 RX8 yX8_blockers wsX8_blockers) := goodIn_app (goodIn_of _ (by decide +kernel)) ggL_blockers_X8_blockers
theorem dL_blockers_0 : decode cL_blockers 0 = .ok (.aload_n 2, 1) := by decide +kernel
theorem dL_blockers_1 : decode cL_blockers 1 = .ok (.iconst 0, 1) := by decide +kernel
theorem dL_blockers_2 : decode cL_blockers 2 = .ok (.aload_n 0, 1) := by decide +kernel
theorem dL_blockers_3 : decode cL_blockers 3 = .ok (.iload_n 1, 1) := by decide +kernel
theorem dL_blockers_4 : decode cL_blockers 4 = .ok (.invokevirtual 65, 3) := by decide +kernel
theorem dL_blockers_7 : decode cL_blockers 7 = .ok (.i2l, 1) := by decide +kernel
theorem dL_blockers_8 : decode cL_blockers 8 = .ok (.lastore, 1) := by decide +kernel
theorem dL_blockers_9 : decode cL_blockers 9 = .ok (.goto 6, 3) := by decide +kernel
theorem dL_blockers_12 : decode cL_blockers 12 = .ok (.astore_n 3, 1) := by decide +kernel
theorem dL_blockers_13 : decode cL_blockers 13 = .ok (.iconst 1, 1) := by decide +kernel
theorem dL_blockers_14 : decode cL_blockers 14 = .ok (.ireturn, 1) := by decide +kernel
theorem dL_blockers_15 : decode cL_blockers 15 = .ok (.iconst 0, 1) := by decide +kernel
theorem dL_blockers_16 : decode cL_blockers 16 = .ok (.ireturn, 1) := by decide +kernel
set_option maxRecDepth 20000 in
theorem ggL_slack_X8_slack : GoodIn wsL_slack wsX8_slack := goodIn_ca (goodIn_r _ [6, 7, 8, 9, 10, 11, 5, 12, 13, 14, 15, 16, 17, 18, 19, 20, 21, 22, 23, 24, 25, 26, 27, 28, 29, 30, 31, 32, 33, 34, 35, 36, 37, 38, 39, 40, 41, 42, 43, 44, 45, 46, 47, 48, 49, 50, 51, 52, 53, 54, 55, 56, 57, 58, 59, 60, 61, 62, 63, 64, 65, 66, 67, 68, 69, 70, 71, 72, 73, 74, 75] (by decide +kernel) (by decide +kernel)) (goodIn_sub (fun _ h => List.mem_cons_of_mem _ (List.mem_append_right _ h)) (by decide +kernel))
set_option maxRecDepth 20000 in
theorem gL_slack_X8_slack : GoodIn wsL_slack (wsV RL 68 RX8 yX8_slack wsX8_slack) := goodIn_app (goodIn_of _ (by decide +kernel)) ggL_slack_X8_slack
theorem dL_slack_0 : decode cL_slack 0 = .ok (.aload_n 2, 1) := by decide +kernel
theorem dL_slack_1 : decode cL_slack 1 = .ok (.iconst 0, 1) := by decide +kernel
theorem dL_slack_2 : decode cL_slack 2 = .ok (.aload_n 0, 1) := by decide +kernel
theorem dL_slack_3 : decode cL_slack 3 = .ok (.iload_n 1, 1) := by decide +kernel
theorem dL_slack_4 : decode cL_slack 4 = .ok (.invokevirtual 68, 3) := by decide +kernel
theorem dL_slack_7 : decode cL_slack 7 = .ok (.i2l, 1) := by decide +kernel
theorem dL_slack_8 : decode cL_slack 8 = .ok (.lastore, 1) := by decide +kernel
theorem dL_slack_9 : decode cL_slack 9 = .ok (.goto 6, 3) := by decide +kernel
theorem dL_slack_12 : decode cL_slack 12 = .ok (.astore_n 3, 1) := by decide +kernel
theorem dL_slack_13 : decode cL_slack 13 = .ok (.iconst 1, 1) := by decide +kernel
theorem dL_slack_14 : decode cL_slack 14 = .ok (.ireturn, 1) := by decide +kernel
theorem dL_slack_15 : decode cL_slack 15 = .ok (.iconst 0, 1) := by decide +kernel
theorem dL_slack_16 : decode cL_slack 16 = .ok (.ireturn, 1) := by decide +kernel
set_option maxRecDepth 20000 in
theorem ggL_orderAhead_X8_orderAhead : GoodIn wsL_orderAhead wsX8_orderAhead := goodIn_ca (goodIn_r _ [6, 7, 8, 9, 10, 11, 5, 12, 13, 14, 15, 16, 17, 18, 19, 20, 21, 22, 23, 24, 25, 26, 27, 28, 29, 30, 31, 32, 33, 34, 35, 36, 37, 38, 39, 40, 41, 42, 43, 44, 45, 46, 47, 48, 49, 50, 51, 52, 53, 54, 55, 56, 57, 58, 59, 60, 61, 62, 63, 64, 65, 66, 67, 68, 69, 70, 71, 72, 73, 74, 75, 76, 77, 78, 79, 80, 81, 82, 83, 84, 85, 86, 87, 88, 89, 90, 91, 92, 93, 94, 95, 96, 97, 98, 99, 100, 101, 102, 103, 104, 105, 106, 107] (by decide +kernel) (by decide +kernel)) (goodIn_sub (fun _ h => List.mem_cons_of_mem _ (List.mem_append_right _ h)) (by decide +kernel))
set_option maxRecDepth 20000 in
theorem gL_orderAhead_X8_orderAhead : GoodIn wsL_orderAhead (wsV RL 71 RX8 yX8_orderAhead wsX8_orderAhead) := goodIn_app (goodIn_of _ (by decide +kernel)) ggL_orderAhead_X8_orderAhead
theorem dL_orderAhead_0 : decode cL_orderAhead 0 = .ok (.aload_n 2, 1) := by decide +kernel
theorem dL_orderAhead_1 : decode cL_orderAhead 1 = .ok (.iconst 0, 1) := by decide +kernel
theorem dL_orderAhead_2 : decode cL_orderAhead 2 = .ok (.aload_n 0, 1) := by decide +kernel
theorem dL_orderAhead_3 : decode cL_orderAhead 3 = .ok (.iload_n 1, 1) := by decide +kernel
theorem dL_orderAhead_4 : decode cL_orderAhead 4 = .ok (.invokevirtual 71, 3) := by decide +kernel
theorem dL_orderAhead_7 : decode cL_orderAhead 7 = .ok (.i2l, 1) := by decide +kernel
theorem dL_orderAhead_8 : decode cL_orderAhead 8 = .ok (.lastore, 1) := by decide +kernel
theorem dL_orderAhead_9 : decode cL_orderAhead 9 = .ok (.goto 6, 3) := by decide +kernel
theorem dL_orderAhead_12 : decode cL_orderAhead 12 = .ok (.astore_n 3, 1) := by decide +kernel
theorem dL_orderAhead_13 : decode cL_orderAhead 13 = .ok (.iconst 1, 1) := by decide +kernel
theorem dL_orderAhead_14 : decode cL_orderAhead 14 = .ok (.ireturn, 1) := by decide +kernel
theorem dL_orderAhead_15 : decode cL_orderAhead 15 = .ok (.iconst 0, 1) := by decide +kernel
theorem dL_orderAhead_16 : decode cL_orderAhead 16 = .ok (.ireturn, 1) := by decide +kernel
set_option maxRecDepth 20000 in
theorem ggL_bucketsToWaste_X8_bucketsToWaste : GoodIn wsL_bucketsToWaste wsX8_bucketsToWaste := goodIn_ca (goodIn_ca (goodIn_r _ [7, 8, 9, 10, 11, 6, 12, 13, 14, 15, 16, 17, 18, 19, 20, 21, 22, 23, 24, 25, 26, 27, 28, 29, 30, 31, 32, 33, 34, 35, 36, 37, 38, 39, 40, 41, 42, 43, 44, 45, 46, 47, 48, 49, 50, 51, 52, 53, 54, 55, 56] (by decide +kernel) (by decide +kernel)) (goodIn_sub (fun _ h => List.mem_cons_of_mem _ (List.mem_append_left _ (List.mem_append_right _ h))) (by decide +kernel))) (goodIn_sub (fun _ h => List.mem_cons_of_mem _ (List.mem_append_right _ h)) (by decide +kernel))
set_option maxRecDepth 20000 in
theorem gL_bucketsToWaste_X8_bucketsToWaste : GoodIn wsL_bucketsToWaste (wsV RL 74 RX8 yX8_bucketsToWaste wsX8_bucketsToWaste) := goodIn_app (goodIn_of _ (by decide +kernel)) ggL_bucketsToWaste_X8_bucketsToWaste
theorem dL_bucketsToWaste_0 : decode cL_bucketsToWaste 0 = .ok (.aload_n 3, 1) := by decide +kernel
theorem dL_bucketsToWaste_1 : decode cL_bucketsToWaste 1 = .ok (.iconst 0, 1) := by decide +kernel
theorem dL_bucketsToWaste_2 : decode cL_bucketsToWaste 2 = .ok (.aload_n 0, 1) := by decide +kernel
theorem dL_bucketsToWaste_3 : decode cL_bucketsToWaste 3 = .ok (.iload_n 1, 1) := by decide +kernel
theorem dL_bucketsToWaste_4 : decode cL_bucketsToWaste 4 = .ok (.iload_n 2, 1) := by decide +kernel
theorem dL_bucketsToWaste_5 : decode cL_bucketsToWaste 5 = .ok (.invokevirtual 74, 3) := by decide +kernel
theorem dL_bucketsToWaste_8 : decode cL_bucketsToWaste 8 = .ok (.i2l, 1) := by decide +kernel
theorem dL_bucketsToWaste_9 : decode cL_bucketsToWaste 9 = .ok (.lastore, 1) := by decide +kernel
theorem dL_bucketsToWaste_10 : decode cL_bucketsToWaste 10 = .ok (.goto 11, 3) := by decide +kernel
theorem dL_bucketsToWaste_13 : decode cL_bucketsToWaste 13 = .ok (.astore 4, 2) := by decide +kernel
theorem dL_bucketsToWaste_15 : decode cL_bucketsToWaste 15 = .ok (.iconst 1, 1) := by decide +kernel
theorem dL_bucketsToWaste_16 : decode cL_bucketsToWaste 16 = .ok (.ireturn, 1) := by decide +kernel
theorem dL_bucketsToWaste_17 : decode cL_bucketsToWaste 17 = .ok (.astore 4, 2) := by decide +kernel
theorem dL_bucketsToWaste_19 : decode cL_bucketsToWaste 19 = .ok (.iconst 2, 1) := by decide +kernel
theorem dL_bucketsToWaste_20 : decode cL_bucketsToWaste 20 = .ok (.ireturn, 1) := by decide +kernel
theorem dL_bucketsToWaste_21 : decode cL_bucketsToWaste 21 = .ok (.iconst 0, 1) := by decide +kernel
theorem dL_bucketsToWaste_22 : decode cL_bucketsToWaste 22 = .ok (.ireturn, 1) := by decide +kernel
set_option maxRecDepth 20000 in
theorem ggL_bucketsFor_X8_bucketsFor : GoodIn wsL_bucketsFor wsX8_bucketsFor := goodIn_ca (goodIn_ca (goodIn_r _ [7, 8, 9, 10, 11, 12, 6, 13, 14, 15, 16, 17, 18, 19, 20, 21, 22, 23, 24, 25, 26, 27, 28, 29, 30, 31, 32, 33, 34, 35, 36, 37, 38, 39, 40, 41, 42, 43, 44, 45, 46, 47, 48, 49, 50, 51, 52, 53, 54, 55, 56, 57, 58, 59, 60, 61, 62, 63, 64, 65, 66, 67, 68, 69, 70, 71, 72, 73, 74, 75, 76, 77, 78, 79, 80] (by decide +kernel) (by decide +kernel)) (goodIn_sub (fun _ h => List.mem_cons_of_mem _ (List.mem_append_left _ (List.mem_append_right _ h))) (by decide +kernel))) (goodIn_sub (fun _ h => List.mem_cons_of_mem _ (List.mem_append_right _ h)) (by decide +kernel))
set_option maxRecDepth 20000 in
theorem gL_bucketsFor_X8_bucketsFor : GoodIn wsL_bucketsFor (wsV RL 77 RX8 yX8_bucketsFor wsX8_bucketsFor) := goodIn_app (goodIn_of _ (by decide +kernel)) ggL_bucketsFor_X8_bucketsFor
theorem dL_bucketsFor_0 : decode cL_bucketsFor 0 = .ok (.aload_n 3, 1) := by decide +kernel
theorem dL_bucketsFor_1 : decode cL_bucketsFor 1 = .ok (.iconst 0, 1) := by decide +kernel
theorem dL_bucketsFor_2 : decode cL_bucketsFor 2 = .ok (.aload_n 0, 1) := by decide +kernel
theorem dL_bucketsFor_3 : decode cL_bucketsFor 3 = .ok (.iload_n 1, 1) := by decide +kernel
theorem dL_bucketsFor_4 : decode cL_bucketsFor 4 = .ok (.iload_n 2, 1) := by decide +kernel
theorem dL_bucketsFor_5 : decode cL_bucketsFor 5 = .ok (.invokevirtual 77, 3) := by decide +kernel
theorem dL_bucketsFor_8 : decode cL_bucketsFor 8 = .ok (.i2l, 1) := by decide +kernel
theorem dL_bucketsFor_9 : decode cL_bucketsFor 9 = .ok (.lastore, 1) := by decide +kernel
theorem dL_bucketsFor_10 : decode cL_bucketsFor 10 = .ok (.goto 11, 3) := by decide +kernel
theorem dL_bucketsFor_13 : decode cL_bucketsFor 13 = .ok (.astore 4, 2) := by decide +kernel
theorem dL_bucketsFor_15 : decode cL_bucketsFor 15 = .ok (.iconst 1, 1) := by decide +kernel
theorem dL_bucketsFor_16 : decode cL_bucketsFor 16 = .ok (.ireturn, 1) := by decide +kernel
theorem dL_bucketsFor_17 : decode cL_bucketsFor 17 = .ok (.astore 4, 2) := by decide +kernel
theorem dL_bucketsFor_19 : decode cL_bucketsFor 19 = .ok (.iconst 2, 1) := by decide +kernel
theorem dL_bucketsFor_20 : decode cL_bucketsFor 20 = .ok (.ireturn, 1) := by decide +kernel
theorem dL_bucketsFor_21 : decode cL_bucketsFor 21 = .ok (.iconst 0, 1) := by decide +kernel
theorem dL_bucketsFor_22 : decode cL_bucketsFor 22 = .ok (.ireturn, 1) := by decide +kernel
set_option maxRecDepth 20000 in
theorem ggL_mostFrom_X8_mostFrom : GoodIn wsL_mostFrom wsX8_mostFrom := goodIn_ca (goodIn_r _ [6, 7, 8, 9, 10, 11, 5, 12, 13, 14, 15, 16, 17, 18, 19, 20, 21, 22, 23, 24, 25, 26, 27, 28, 29, 30, 31, 32, 33, 34, 35, 36, 37, 38, 39, 40, 41, 42, 43, 44, 45, 46, 47, 48, 49, 50, 51, 52, 53, 54, 55, 56, 57, 58, 59, 60, 61, 62, 63, 64, 65, 66, 67, 68, 69, 70, 71, 72, 73, 74, 75, 76, 77, 78] (by decide +kernel) (by decide +kernel)) (goodIn_sub (fun _ h => List.mem_cons_of_mem _ (List.mem_append_right _ h)) (by decide +kernel))
set_option maxRecDepth 20000 in
theorem gL_mostFrom_X8_mostFrom : GoodIn wsL_mostFrom (wsV RL 80 RX8 yX8_mostFrom wsX8_mostFrom) := goodIn_app (goodIn_of _ (by decide +kernel)) ggL_mostFrom_X8_mostFrom
theorem dL_mostFrom_0 : decode cL_mostFrom 0 = .ok (.aload_n 2, 1) := by decide +kernel
theorem dL_mostFrom_1 : decode cL_mostFrom 1 = .ok (.iconst 0, 1) := by decide +kernel
theorem dL_mostFrom_2 : decode cL_mostFrom 2 = .ok (.aload_n 0, 1) := by decide +kernel
theorem dL_mostFrom_3 : decode cL_mostFrom 3 = .ok (.iload_n 1, 1) := by decide +kernel
theorem dL_mostFrom_4 : decode cL_mostFrom 4 = .ok (.invokevirtual 80, 3) := by decide +kernel
theorem dL_mostFrom_7 : decode cL_mostFrom 7 = .ok (.i2l, 1) := by decide +kernel
theorem dL_mostFrom_8 : decode cL_mostFrom 8 = .ok (.lastore, 1) := by decide +kernel
theorem dL_mostFrom_9 : decode cL_mostFrom 9 = .ok (.goto 6, 3) := by decide +kernel
theorem dL_mostFrom_12 : decode cL_mostFrom 12 = .ok (.astore_n 3, 1) := by decide +kernel
theorem dL_mostFrom_13 : decode cL_mostFrom 13 = .ok (.iconst 1, 1) := by decide +kernel
theorem dL_mostFrom_14 : decode cL_mostFrom 14 = .ok (.ireturn, 1) := by decide +kernel
theorem dL_mostFrom_15 : decode cL_mostFrom 15 = .ok (.iconst 0, 1) := by decide +kernel
theorem dL_mostFrom_16 : decode cL_mostFrom 16 = .ok (.ireturn, 1) := by decide +kernel
set_option maxRecDepth 20000 in
theorem ggL_bestSequence_X8_bestSequence : GoodIn wsL_bestSequence wsX8_bestSequence := goodIn_ca (goodIn_r _ [6, 7, 8, 9, 10, 11, 5, 12, 13, 14, 15, 16, 17, 18, 19, 20, 21, 22, 23, 24, 25, 26, 27, 28, 29, 30, 31, 32, 33, 34, 35, 36, 37, 38, 39, 40, 41, 42, 43, 44, 45, 46, 47, 48, 49, 50, 51, 52, 53, 54, 55, 56, 57, 58, 59, 60, 61, 62, 63, 64, 65, 66, 67, 68, 69, 70, 71, 72, 73, 74, 75, 76, 77, 78, 79, 80, 81, 82, 83, 84, 85, 86, 87, 88, 89, 90, 91, 92, 93, 94, 95, 96, 97, 98, 99, 100, 101, 102, 103, 104, 105, 106, 107, 108, 109, 110, 111, 112, 113, 114, 115, 116, 117, 118, 119, 120, 121, 122, 123, 124, 125, 126, 127, 128, 129, 130, 131, 132, 133, 134, 135, 136, 137, 138, 139, 140, 141, 142, 143] (by decide +kernel) (by decide +kernel)) (goodIn_sub (fun _ h => List.mem_cons_of_mem _ (List.mem_append_right _ h)) (by decide +kernel))
set_option maxRecDepth 20000 in
theorem gL_bestSequence_X8_bestSequence : GoodIn wsL_bestSequence (wsV RL 83 RX8 yX8_bestSequence wsX8_bestSequence) := goodIn_app (goodIn_of _ (by decide +kernel)) ggL_bestSequence_X8_bestSequence
theorem dL_bestSequence_0 : decode cL_bestSequence 0 = .ok (.aload_n 3, 1) := by decide +kernel
theorem dL_bestSequence_1 : decode cL_bestSequence 1 = .ok (.iconst 0, 1) := by decide +kernel
theorem dL_bestSequence_2 : decode cL_bestSequence 2 = .ok (.aload_n 0, 1) := by decide +kernel
theorem dL_bestSequence_3 : decode cL_bestSequence 3 = .ok (.iload_n 1, 1) := by decide +kernel
theorem dL_bestSequence_4 : decode cL_bestSequence 4 = .ok (.iload_n 2, 1) := by decide +kernel
theorem dL_bestSequence_5 : decode cL_bestSequence 5 = .ok (.invokevirtual 83, 3) := by decide +kernel
theorem dL_bestSequence_8 : decode cL_bestSequence 8 = .ok (.i2l, 1) := by decide +kernel
theorem dL_bestSequence_9 : decode cL_bestSequence 9 = .ok (.lastore, 1) := by decide +kernel
theorem dL_bestSequence_10 : decode cL_bestSequence 10 = .ok (.goto 7, 3) := by decide +kernel
theorem dL_bestSequence_13 : decode cL_bestSequence 13 = .ok (.astore 4, 2) := by decide +kernel
theorem dL_bestSequence_15 : decode cL_bestSequence 15 = .ok (.iconst 1, 1) := by decide +kernel
theorem dL_bestSequence_16 : decode cL_bestSequence 16 = .ok (.ireturn, 1) := by decide +kernel
theorem dL_bestSequence_17 : decode cL_bestSequence 17 = .ok (.iconst 0, 1) := by decide +kernel
theorem dL_bestSequence_18 : decode cL_bestSequence 18 = .ok (.ireturn, 1) := by decide +kernel
set_option maxRecDepth 20000 in
theorem ggL_origins_X8_origins : GoodIn wsL_origins wsX8_origins := goodIn_ca (goodIn_r _ [6, 7, 8, 9, 10, 11, 12, 13, 5, 14, 15, 16, 17, 18, 19, 20, 21, 22, 23, 24, 25, 26, 27, 28, 29, 30, 31, 32, 33, 34, 35, 36, 37, 38, 39, 40, 41, 42, 43, 44, 45, 46, 47, 48, 49, 50, 51, 52, 53, 54, 55, 56, 57, 58, 59, 60, 61, 62, 63, 64, 65, 66, 67, 68, 69, 70, 71, 72, 73, 74, 75] (by decide +kernel) (by decide +kernel)) (goodIn_sub (fun _ h => List.mem_cons_of_mem _ (List.mem_append_right _ h)) (by decide +kernel))
set_option maxRecDepth 20000 in
theorem gL_origins_X8_origins : GoodIn wsL_origins (wsV RL 86 RX8 yX8_origins wsX8_origins) := goodIn_app (goodIn_of _ (by decide +kernel)) ggL_origins_X8_origins
theorem dL_origins_0 : decode cL_origins 0 = .ok (.aload_n 3, 1) := by decide +kernel
theorem dL_origins_1 : decode cL_origins 1 = .ok (.iconst 0, 1) := by decide +kernel
theorem dL_origins_2 : decode cL_origins 2 = .ok (.aload_n 0, 1) := by decide +kernel
theorem dL_origins_3 : decode cL_origins 3 = .ok (.iload_n 1, 1) := by decide +kernel
theorem dL_origins_4 : decode cL_origins 4 = .ok (.iload_n 2, 1) := by decide +kernel
theorem dL_origins_5 : decode cL_origins 5 = .ok (.invokevirtual 86, 3) := by decide +kernel
theorem dL_origins_8 : decode cL_origins 8 = .ok (.i2l, 1) := by decide +kernel
theorem dL_origins_9 : decode cL_origins 9 = .ok (.lastore, 1) := by decide +kernel
theorem dL_origins_10 : decode cL_origins 10 = .ok (.goto 7, 3) := by decide +kernel
theorem dL_origins_13 : decode cL_origins 13 = .ok (.astore 4, 2) := by decide +kernel
theorem dL_origins_15 : decode cL_origins 15 = .ok (.iconst 1, 1) := by decide +kernel
theorem dL_origins_16 : decode cL_origins 16 = .ok (.ireturn, 1) := by decide +kernel
theorem dL_origins_17 : decode cL_origins 17 = .ok (.iconst 0, 1) := by decide +kernel
theorem dL_origins_18 : decode cL_origins 18 = .ok (.ireturn, 1) := by decide +kernel
set_option maxRecDepth 20000 in
theorem ggL_runScript_X8_runScript : GoodIn wsL_runScript wsX8_runScript := goodIn_ca (goodIn_r _ [6, 7, 8, 9, 10, 11, 12, 13, 14, 5, 15, 16, 17, 18, 19, 20, 21, 22, 23, 24, 25, 26, 27, 28, 29, 30, 31, 32, 33, 34, 35, 36, 37, 38, 39, 40, 41, 42, 43, 44, 45, 46, 47, 48, 49, 50, 51, 52, 53, 54, 55, 56, 57, 58, 59, 60, 61, 62, 63, 64, 65, 66, 67, 68, 69, 70, 71, 72, 73, 74, 75, 76, 77, 78, 79, 80, 81, 82, 83, 84, 85, 86, 87, 88, 89, 90, 91, 92, 93, 94, 95, 96, 97, 98, 99, 100, 101, 102, 103, 104, 105, 106, 107, 108, 109, 110, 111, 112, 113, 114, 115, 116, 117, 118, 119, 120, 121, 122, 123, 124, 125, 126, 127, 128, 129, 130, 131, 132, 133, 134, 135, 136, 137, 138, 139, 140, 141, 142, 143, 144, 145, 146, 147, 148, 149, 150, 151, 152, 153] (by decide +kernel) (by decide +kernel)) (goodIn_sub (fun _ h => List.mem_cons_of_mem _ (List.mem_append_right _ h)) (by decide +kernel))
set_option maxRecDepth 20000 in
theorem gL_runScript_X8_runScript : GoodIn wsL_runScript (wsV RL 89 RX8 yX8_runScript wsX8_runScript) := goodIn_app (goodIn_of _ (by decide +kernel)) ggL_runScript_X8_runScript
theorem dL_runScript_0 : decode cL_runScript 0 = .ok (.aload 4, 2) := by decide +kernel
theorem dL_runScript_2 : decode cL_runScript 2 = .ok (.iconst 0, 1) := by decide +kernel
theorem dL_runScript_3 : decode cL_runScript 3 = .ok (.aload_n 0, 1) := by decide +kernel
theorem dL_runScript_4 : decode cL_runScript 4 = .ok (.iload_n 1, 1) := by decide +kernel
theorem dL_runScript_5 : decode cL_runScript 5 = .ok (.lload_n 2, 1) := by decide +kernel
theorem dL_runScript_6 : decode cL_runScript 6 = .ok (.invokevirtual 89, 3) := by decide +kernel
theorem dL_runScript_9 : decode cL_runScript 9 = .ok (.i2l, 1) := by decide +kernel
theorem dL_runScript_10 : decode cL_runScript 10 = .ok (.lastore, 1) := by decide +kernel
theorem dL_runScript_11 : decode cL_runScript 11 = .ok (.goto 7, 3) := by decide +kernel
theorem dL_runScript_14 : decode cL_runScript 14 = .ok (.astore 5, 2) := by decide +kernel
theorem dL_runScript_16 : decode cL_runScript 16 = .ok (.iconst 1, 1) := by decide +kernel
theorem dL_runScript_17 : decode cL_runScript 17 = .ok (.ireturn, 1) := by decide +kernel
theorem dL_runScript_18 : decode cL_runScript 18 = .ok (.iconst 0, 1) := by decide +kernel
theorem dL_runScript_19 : decode cL_runScript 19 = .ok (.ireturn, 1) := by decide +kernel
set_option maxRecDepth 20000 in
theorem ggL_simulate_X8_simulate : GoodIn wsL_simulate wsX8_simulate := goodIn_ca (goodIn_r _ [6, 7, 8, 9, 10, 11, 12, 13, 5, 14, 15, 16, 17, 18, 19, 20, 21, 22, 23, 24, 25, 26, 27, 28, 29, 30, 31, 32, 33, 34, 35, 36, 37, 38, 39, 40, 41, 42, 43, 44, 45, 46, 47, 48, 49, 50, 51, 52, 53, 54, 55, 56, 57, 58, 59, 60, 61, 62, 63, 64, 65, 66, 67, 68, 69, 70, 71, 72, 73, 74, 75, 76, 77, 78, 79, 80, 81, 82, 83, 84, 85, 86, 87, 88, 89, 90, 91, 92, 93, 94, 95, 96, 97, 98, 99, 100, 101, 102, 103, 104, 105, 106, 107, 108, 109, 110, 111, 112, 113, 114, 115, 116, 117, 118, 119, 120] (by decide +kernel) (by decide +kernel)) (goodIn_sub (fun _ h => List.mem_cons_of_mem _ (List.mem_append_right _ h)) (by decide +kernel))
set_option maxRecDepth 20000 in
theorem gL_simulate_X8_simulate : GoodIn wsL_simulate (wsV RL 93 RX8 yX8_simulate wsX8_simulate) := goodIn_app (goodIn_of _ (by decide +kernel)) ggL_simulate_X8_simulate
theorem dL_simulate_0 : decode cL_simulate 0 = .ok (.aload 4, 2) := by decide +kernel
theorem dL_simulate_2 : decode cL_simulate 2 = .ok (.iconst 0, 1) := by decide +kernel
theorem dL_simulate_3 : decode cL_simulate 3 = .ok (.aload_n 0, 1) := by decide +kernel
theorem dL_simulate_4 : decode cL_simulate 4 = .ok (.lload_n 1, 1) := by decide +kernel
theorem dL_simulate_5 : decode cL_simulate 5 = .ok (.iload_n 3, 1) := by decide +kernel
theorem dL_simulate_6 : decode cL_simulate 6 = .ok (.invokevirtual 93, 3) := by decide +kernel
theorem dL_simulate_9 : decode cL_simulate 9 = .ok (.i2l, 1) := by decide +kernel
theorem dL_simulate_10 : decode cL_simulate 10 = .ok (.lastore, 1) := by decide +kernel
theorem dL_simulate_11 : decode cL_simulate 11 = .ok (.goto 7, 3) := by decide +kernel
theorem dL_simulate_14 : decode cL_simulate 14 = .ok (.astore 5, 2) := by decide +kernel
theorem dL_simulate_16 : decode cL_simulate 16 = .ok (.iconst 1, 1) := by decide +kernel
theorem dL_simulate_17 : decode cL_simulate 17 = .ok (.ireturn, 1) := by decide +kernel
theorem dL_simulate_18 : decode cL_simulate 18 = .ok (.iconst 0, 1) := by decide +kernel
theorem dL_simulate_19 : decode cL_simulate 19 = .ok (.ireturn, 1) := by decide +kernel
set_option maxRecDepth 20000 in
theorem ggL_save_X8_save : GoodIn wsL_save wsX8_save := goodIn_ca (goodIn_r _ [6, 7, 8, 9, 10, 5, 11, 12, 13, 14, 15, 16, 17, 18, 19, 20, 21, 22, 23, 24, 25, 26, 27, 28, 29, 30, 31, 32, 33, 34, 35, 36, 37, 38, 39, 40, 41, 42, 43, 44, 45, 46, 47, 48, 49, 50, 51, 52, 53, 54, 55, 56, 57, 58, 59, 60] (by decide +kernel) (by decide +kernel)) (goodIn_sub (fun _ h => List.mem_cons_of_mem _ (List.mem_append_right _ h)) (by decide +kernel))
set_option maxRecDepth 20000 in
theorem gL_save_X8_save : GoodIn wsL_save (wsV RL 97 RX8 yX8_save wsX8_save) := goodIn_app (goodIn_of _ (by decide +kernel)) ggL_save_X8_save
theorem dL_save_0 : decode cL_save 0 = .ok (.aload_n 2, 1) := by decide +kernel
theorem dL_save_1 : decode cL_save 1 = .ok (.iconst 0, 1) := by decide +kernel
theorem dL_save_2 : decode cL_save 2 = .ok (.aload_n 0, 1) := by decide +kernel
theorem dL_save_3 : decode cL_save 3 = .ok (.iload_n 1, 1) := by decide +kernel
theorem dL_save_4 : decode cL_save 4 = .ok (.invokevirtual 97, 3) := by decide +kernel
theorem dL_save_7 : decode cL_save 7 = .ok (.i2l, 1) := by decide +kernel
theorem dL_save_8 : decode cL_save 8 = .ok (.lastore, 1) := by decide +kernel
theorem dL_save_9 : decode cL_save 9 = .ok (.goto 6, 3) := by decide +kernel
theorem dL_save_12 : decode cL_save 12 = .ok (.astore_n 3, 1) := by decide +kernel
theorem dL_save_13 : decode cL_save 13 = .ok (.iconst 1, 1) := by decide +kernel
theorem dL_save_14 : decode cL_save 14 = .ok (.ireturn, 1) := by decide +kernel
theorem dL_save_15 : decode cL_save 15 = .ok (.iconst 0, 1) := by decide +kernel
theorem dL_save_16 : decode cL_save 16 = .ok (.ireturn, 1) := by decide +kernel
set_option maxRecDepth 20000 in
theorem ggL_restore_X8_restore : GoodIn wsL_restore wsX8_restore := goodIn_ca (goodIn_ca (goodIn_r _ [7, 8, 9, 10, 11, 12, 13, 14, 6, 15, 16, 17, 18, 19, 20, 21, 22, 23, 24, 25, 26, 27, 28, 29, 30, 31, 32, 33, 34, 35, 36, 37, 38, 39, 40, 41, 42, 43, 44, 45, 46, 47, 48, 49, 50, 51, 52, 53, 54, 55, 56, 57, 58, 59, 60, 61, 62, 63, 64, 65, 66, 67, 68, 69, 70, 71, 72, 73, 74, 75, 76, 77, 78] (by decide +kernel) (by decide +kernel)) (goodIn_sub (fun _ h => List.mem_cons_of_mem _ (List.mem_append_left _ (List.mem_append_right _ h))) (by decide +kernel))) (goodIn_sub (fun _ h => List.mem_cons_of_mem _ (List.mem_append_right _ h)) (by decide +kernel))
set_option maxRecDepth 20000 in
theorem gL_restore_X8_restore : GoodIn wsL_restore (wsV RL 100 RX8 yX8_restore wsX8_restore) := goodIn_app (goodIn_of _ (by decide +kernel)) ggL_restore_X8_restore
theorem dL_restore_0 : decode cL_restore 0 = .ok (.aload_n 2, 1) := by decide +kernel
theorem dL_restore_1 : decode cL_restore 1 = .ok (.iconst 0, 1) := by decide +kernel
theorem dL_restore_2 : decode cL_restore 2 = .ok (.aload_n 0, 1) := by decide +kernel
theorem dL_restore_3 : decode cL_restore 3 = .ok (.iload_n 1, 1) := by decide +kernel
theorem dL_restore_4 : decode cL_restore 4 = .ok (.invokevirtual 100, 3) := by decide +kernel
theorem dL_restore_7 : decode cL_restore 7 = .ok (.i2l, 1) := by decide +kernel
theorem dL_restore_8 : decode cL_restore 8 = .ok (.lastore, 1) := by decide +kernel
theorem dL_restore_9 : decode cL_restore 9 = .ok (.goto 9, 3) := by decide +kernel
theorem dL_restore_12 : decode cL_restore 12 = .ok (.astore_n 3, 1) := by decide +kernel
theorem dL_restore_13 : decode cL_restore 13 = .ok (.iconst 1, 1) := by decide +kernel
theorem dL_restore_14 : decode cL_restore 14 = .ok (.ireturn, 1) := by decide +kernel
theorem dL_restore_15 : decode cL_restore 15 = .ok (.astore_n 3, 1) := by decide +kernel
theorem dL_restore_16 : decode cL_restore 16 = .ok (.iconst 2, 1) := by decide +kernel
theorem dL_restore_17 : decode cL_restore 17 = .ok (.ireturn, 1) := by decide +kernel
theorem dL_restore_18 : decode cL_restore 18 = .ok (.iconst 0, 1) := by decide +kernel
theorem dL_restore_19 : decode cL_restore 19 = .ok (.ireturn, 1) := by decide +kernel

set_option maxRecDepth 20000 in
theorem ggL_sliceCount_X8_sliceCount : GoodIn wsL_sliceCount wsX8_sliceCount := goodIn_ca (goodIn_r _ [6, 7, 8, 9, 10, 5, 11, 12, 13, 14, 15, 16, 17, 18, 19, 20, 21, 22, 23, 24, 25, 26, 27, 28, 29, 30, 31, 32, 33, 34, 35, 36, 37, 38, 39, 40, 41, 42, 43, 44, 45, 46, 47, 48] (by decide +kernel) (by decide +kernel)) (goodIn_sub (fun _ h => List.mem_cons_of_mem _ (List.mem_append_right _ h)) (by decide +kernel))
set_option maxRecDepth 20000 in
theorem gL_sliceCount_X8_sliceCount : GoodIn wsL_sliceCount (wsV RL 29 RX8 yX8_sliceCount wsX8_sliceCount) := goodIn_app (goodIn_of _ (by decide +kernel)) ggL_sliceCount_X8_sliceCount
theorem dL_sliceCount_0 : decode cL_sliceCount 0 = .ok (.aload_n 2, 1) := by decide +kernel
theorem dL_sliceCount_1 : decode cL_sliceCount 1 = .ok (.iconst 0, 1) := by decide +kernel
theorem dL_sliceCount_2 : decode cL_sliceCount 2 = .ok (.aload_n 0, 1) := by decide +kernel
theorem dL_sliceCount_3 : decode cL_sliceCount 3 = .ok (.iload_n 1, 1) := by decide +kernel
theorem dL_sliceCount_4 : decode cL_sliceCount 4 = .ok (.invokevirtual 29, 3) := by decide +kernel
theorem dL_sliceCount_7 : decode cL_sliceCount 7 = .ok (.i2l, 1) := by decide +kernel
theorem dL_sliceCount_8 : decode cL_sliceCount 8 = .ok (.lastore, 1) := by decide +kernel
theorem dL_sliceCount_9 : decode cL_sliceCount 9 = .ok (.goto 6, 3) := by decide +kernel
theorem dL_sliceCount_12 : decode cL_sliceCount 12 = .ok (.astore_n 3, 1) := by decide +kernel
theorem dL_sliceCount_13 : decode cL_sliceCount 13 = .ok (.iconst 1, 1) := by decide +kernel
theorem dL_sliceCount_14 : decode cL_sliceCount 14 = .ok (.ireturn, 1) := by decide +kernel
theorem dL_sliceCount_15 : decode cL_sliceCount 15 = .ok (.iconst 0, 1) := by decide +kernel
theorem dL_sliceCount_16 : decode cL_sliceCount 16 = .ok (.ireturn, 1) := by decide +kernel
set_option maxRecDepth 20000 in
theorem ggL_gradeAhead_X8_gradeAhead : GoodIn wsL_gradeAhead wsX8_gradeAhead := goodIn_ca (goodIn_ca (goodIn_r _ [7, 8, 9, 10, 11, 6, 12, 13, 14, 15, 16, 17, 18, 19, 20, 21, 22, 23, 24, 25, 26, 27, 28, 29, 30, 31, 32, 33, 34, 35, 36, 37, 38, 39, 40, 41, 42, 43, 44, 45, 46, 47, 48, 49, 50, 51, 52, 53, 54, 55, 56] (by decide +kernel) (by decide +kernel)) (goodIn_sub (fun _ h => List.mem_cons_of_mem _ (List.mem_append_left _ (List.mem_append_right _ h))) (by decide +kernel))) (goodIn_sub (fun _ h => List.mem_cons_of_mem _ (List.mem_append_right _ h)) (by decide +kernel))
set_option maxRecDepth 20000 in
theorem gL_gradeAhead_X8_gradeAhead : GoodIn wsL_gradeAhead (wsV RL 32 RX8 yX8_gradeAhead wsX8_gradeAhead) := goodIn_app (goodIn_of _ (by decide +kernel)) ggL_gradeAhead_X8_gradeAhead
theorem dL_gradeAhead_0 : decode cL_gradeAhead 0 = .ok (.aload_n 3, 1) := by decide +kernel
theorem dL_gradeAhead_1 : decode cL_gradeAhead 1 = .ok (.iconst 0, 1) := by decide +kernel
theorem dL_gradeAhead_2 : decode cL_gradeAhead 2 = .ok (.aload_n 0, 1) := by decide +kernel
theorem dL_gradeAhead_3 : decode cL_gradeAhead 3 = .ok (.iload_n 1, 1) := by decide +kernel
theorem dL_gradeAhead_4 : decode cL_gradeAhead 4 = .ok (.iload_n 2, 1) := by decide +kernel
theorem dL_gradeAhead_5 : decode cL_gradeAhead 5 = .ok (.invokevirtual 32, 3) := by decide +kernel
theorem dL_gradeAhead_8 : decode cL_gradeAhead 8 = .ok (.i2l, 1) := by decide +kernel
theorem dL_gradeAhead_9 : decode cL_gradeAhead 9 = .ok (.lastore, 1) := by decide +kernel
theorem dL_gradeAhead_10 : decode cL_gradeAhead 10 = .ok (.goto 11, 3) := by decide +kernel
theorem dL_gradeAhead_13 : decode cL_gradeAhead 13 = .ok (.astore 4, 2) := by decide +kernel
theorem dL_gradeAhead_15 : decode cL_gradeAhead 15 = .ok (.iconst 1, 1) := by decide +kernel
theorem dL_gradeAhead_16 : decode cL_gradeAhead 16 = .ok (.ireturn, 1) := by decide +kernel
theorem dL_gradeAhead_17 : decode cL_gradeAhead 17 = .ok (.astore 4, 2) := by decide +kernel
theorem dL_gradeAhead_19 : decode cL_gradeAhead 19 = .ok (.iconst 2, 1) := by decide +kernel
theorem dL_gradeAhead_20 : decode cL_gradeAhead 20 = .ok (.ireturn, 1) := by decide +kernel
theorem dL_gradeAhead_21 : decode cL_gradeAhead 21 = .ok (.iconst 0, 1) := by decide +kernel
theorem dL_gradeAhead_22 : decode cL_gradeAhead 22 = .ok (.ireturn, 1) := by decide +kernel
set_option maxRecDepth 20000 in
theorem ggL_isHung_X8_isHung : GoodIn wsL_isHung wsX8_isHung := goodIn_ca (goodIn_r _ [6, 7, 8, 9, 10, 5, 11, 12, 13, 14, 15, 16, 17, 18, 19, 20, 21, 22, 23, 24, 25, 26, 27, 28, 29, 30, 31, 32, 33, 34, 35, 36, 37, 38, 39, 40, 41, 42, 43, 44, 45, 46, 47, 48] (by decide +kernel) (by decide +kernel)) (goodIn_sub (fun _ h => List.mem_cons_of_mem _ (List.mem_append_right _ h)) (by decide +kernel))
set_option maxRecDepth 20000 in
theorem gL_isHung_X8_isHung : GoodIn wsL_isHung (wsV RL 36 RX8 yX8_isHung wsX8_isHung) := goodIn_app (goodIn_of _ (by decide +kernel)) ggL_isHung_X8_isHung
theorem dL_isHung_0 : decode cL_isHung 0 = .ok (.aload_n 2, 1) := by decide +kernel
theorem dL_isHung_1 : decode cL_isHung 1 = .ok (.iconst 0, 1) := by decide +kernel
theorem dL_isHung_2 : decode cL_isHung 2 = .ok (.aload_n 0, 1) := by decide +kernel
theorem dL_isHung_3 : decode cL_isHung 3 = .ok (.iload_n 1, 1) := by decide +kernel
theorem dL_isHung_4 : decode cL_isHung 4 = .ok (.invokevirtual 36, 3) := by decide +kernel
theorem dL_isHung_7 : decode cL_isHung 7 = .ok (.ifCond .eq 7, 3) := by decide +kernel
theorem dL_isHung_10 : decode cL_isHung 10 = .ok (.lconst 1, 1) := by decide +kernel
theorem dL_isHung_11 : decode cL_isHung 11 = .ok (.goto 4, 3) := by decide +kernel
theorem dL_isHung_14 : decode cL_isHung 14 = .ok (.lconst 0, 1) := by decide +kernel
theorem dL_isHung_15 : decode cL_isHung 15 = .ok (.lastore, 1) := by decide +kernel
theorem dL_isHung_16 : decode cL_isHung 16 = .ok (.goto 6, 3) := by decide +kernel
theorem dL_isHung_19 : decode cL_isHung 19 = .ok (.astore_n 3, 1) := by decide +kernel
theorem dL_isHung_20 : decode cL_isHung 20 = .ok (.iconst 1, 1) := by decide +kernel
theorem dL_isHung_21 : decode cL_isHung 21 = .ok (.ireturn, 1) := by decide +kernel
theorem dL_isHung_22 : decode cL_isHung 22 = .ok (.iconst 0, 1) := by decide +kernel
theorem dL_isHung_23 : decode cL_isHung 23 = .ok (.ireturn, 1) := by decide +kernel

set_option maxRecDepth 20000 in
theorem ggL_undo_X8_undo : GoodIn wsL_undo wsX8_undo := goodIn_ca (goodIn_r _ [6, 7, 8, 9, 10, 11, 12, 13, 14, 15, 16, 17, 18, 19, 20, 21, 22, 23, 24, 25, 26, 27, 28, 29, 30, 31, 32, 33, 34, 35, 36, 37, 38, 39, 40, 41, 42, 43, 44, 45, 46, 47, 48, 49, 50, 51, 52, 53, 54, 55, 56, 57, 58, 59] (by decide +kernel) (by decide +kernel)) (goodIn_sub (fun _ h => List.mem_cons_of_mem _ (List.mem_append_right _ h)) (by decide +kernel))
set_option maxRecDepth 20000 in
theorem gL_undo_X8_undo : GoodIn wsL_undo (wsV RL 59 RX8 yX8_undo wsX8_undo) := goodIn_app (goodIn_of _ (by decide +kernel)) ggL_undo_X8_undo
theorem dL_undo_0 : decode cL_undo 0 = .ok (.aload_n 1, 1) := by decide +kernel
theorem dL_undo_1 : decode cL_undo 1 = .ok (.iconst 0, 1) := by decide +kernel
theorem dL_undo_2 : decode cL_undo 2 = .ok (.aload_n 0, 1) := by decide +kernel
theorem dL_undo_3 : decode cL_undo 3 = .ok (.invokevirtual 59, 3) := by decide +kernel
theorem dL_undo_6 : decode cL_undo 6 = .ok (.i2l, 1) := by decide +kernel
theorem dL_undo_7 : decode cL_undo 7 = .ok (.lastore, 1) := by decide +kernel
theorem dL_undo_8 : decode cL_undo 8 = .ok (.goto 6, 3) := by decide +kernel
theorem dL_undo_11 : decode cL_undo 11 = .ok (.astore_n 2, 1) := by decide +kernel
theorem dL_undo_12 : decode cL_undo 12 = .ok (.iconst 1, 1) := by decide +kernel
theorem dL_undo_13 : decode cL_undo 13 = .ok (.ireturn, 1) := by decide +kernel
theorem dL_undo_14 : decode cL_undo 14 = .ok (.iconst 0, 1) := by decide +kernel
theorem dL_undo_15 : decode cL_undo 15 = .ok (.ireturn, 1) := by decide +kernel
set_option maxRecDepth 20000 in
theorem ggL_isReady_X8_isReady : GoodIn wsL_isReady wsX8_isReady := goodIn_ca (goodIn_r _ [6, 7, 8, 9, 10, 11, 5, 12, 13, 14, 15, 16, 17, 18, 19, 20, 21, 22, 23, 24, 25, 26, 27, 28, 29, 30, 31, 32, 33, 34, 35, 36, 37, 38, 39, 40, 41, 42, 43, 44, 45, 46, 47, 48, 49, 50, 51, 52, 53, 54, 55, 56, 57, 58, 59, 60, 61, 62, 63, 64, 65, 66, 67, 68, 69, 70, 71, 72, 73, 74, 75, 76, 77, 78] (by decide +kernel) (by decide +kernel)) (goodIn_sub (fun _ h => List.mem_cons_of_mem _ (List.mem_append_right _ h)) (by decide +kernel))
set_option maxRecDepth 20000 in
theorem gL_isReady_X8_isReady : GoodIn wsL_isReady (wsV RL 62 RX8 yX8_isReady wsX8_isReady) := goodIn_app (goodIn_of _ (by decide +kernel)) ggL_isReady_X8_isReady
theorem dL_isReady_0 : decode cL_isReady 0 = .ok (.aload_n 2, 1) := by decide +kernel
theorem dL_isReady_1 : decode cL_isReady 1 = .ok (.iconst 0, 1) := by decide +kernel
theorem dL_isReady_2 : decode cL_isReady 2 = .ok (.aload_n 0, 1) := by decide +kernel
theorem dL_isReady_3 : decode cL_isReady 3 = .ok (.iload_n 1, 1) := by decide +kernel
theorem dL_isReady_4 : decode cL_isReady 4 = .ok (.invokevirtual 62, 3) := by decide +kernel
theorem dL_isReady_7 : decode cL_isReady 7 = .ok (.ifCond .eq 7, 3) := by decide +kernel
theorem dL_isReady_10 : decode cL_isReady 10 = .ok (.lconst 1, 1) := by decide +kernel
theorem dL_isReady_11 : decode cL_isReady 11 = .ok (.goto 4, 3) := by decide +kernel
theorem dL_isReady_14 : decode cL_isReady 14 = .ok (.lconst 0, 1) := by decide +kernel
theorem dL_isReady_15 : decode cL_isReady 15 = .ok (.lastore, 1) := by decide +kernel
theorem dL_isReady_16 : decode cL_isReady 16 = .ok (.goto 6, 3) := by decide +kernel
theorem dL_isReady_19 : decode cL_isReady 19 = .ok (.astore_n 3, 1) := by decide +kernel
theorem dL_isReady_20 : decode cL_isReady 20 = .ok (.iconst 1, 1) := by decide +kernel
theorem dL_isReady_21 : decode cL_isReady 21 = .ok (.ireturn, 1) := by decide +kernel
theorem dL_isReady_22 : decode cL_isReady 22 = .ok (.iconst 0, 1) := by decide +kernel
theorem dL_isReady_23 : decode cL_isReady 23 = .ok (.ireturn, 1) := by decide +kernel
set_option maxRecDepth 20000 in
theorem ggL_blockers_X8_blockers : GoodIn wsL_blockers wsX8_blockers := goodIn_ca (goodIn_r _ [6, 7, 8, 9, 10, 11, 5, 12, 13, 14, 15, 16, 17, 18, 19, 20, 21, 22, 23, 24, 25, 26, 27, 28, 29, 30, 31, 32, 33, 34, 35, 36, 37, 38, 39, 40, 41, 42, 43, 44, 45, 46, 47, 48, 49, 50, 51, 52, 53, 54, 55, 56, 57, 58, 59] (by decide +kernel) (by decide +kernel)) (goodIn_sub (fun _ h => List.mem_cons_of_mem _ (List.mem_append_right _ h)) (by decide +kernel))
set_option maxRecDepth 20000 in
theorem gL_blockers_X8_blockers : GoodIn wsL_blockers (wsV RL 65 RX8 yX8_blockers wsX8_blockers) := goodIn_app (goodIn_of _ (by decide +kernel)) ggL_blockers_X8_blockers
theorem dL_blockers_0 : decode cL_blockers 0 = .ok (.aload_n 2, 1) := by decide +kernel
theorem dL_blockers_1 : decode cL_blockers 1 = .ok (.iconst 0, 1) := by decide +kernel
theorem dL_blockers_2 : decode cL_blockers 2 = .ok (.aload_n 0, 1) := by decide +kernel
theorem dL_blockers_3 : decode cL_blockers 3 = .ok (.iload_n 1, 1) := by decide +kernel
theorem dL_blockers_4 : decode cL_blockers 4 = .ok (.invokevirtual 65, 3) := by decide +kernel
theorem dL_blockers_7 : decode cL_blockers 7 = .ok (.i2l, 1) := by decide +kernel
theorem dL_blockers_8 : decode cL_blockers 8 = .ok (.lastore, 1) := by decide +kernel
theorem dL_blockers_9 : decode cL_blockers 9 = .ok (.goto 6, 3) := by decide +kernel
theorem dL_blockers_12 : decode cL_blockers 12 = .ok (.astore_n 3, 1) := by decide +kernel
theorem dL_blockers_13 : decode cL_blockers 13 = .ok (.iconst 1, 1) := by decide +kernel
theorem dL_blockers_14 : decode cL_blockers 14 = .ok (.ireturn, 1) := by decide +kernel
theorem dL_blockers_15 : decode cL_blockers 15 = .ok (.iconst 0, 1) := by decide +kernel
theorem dL_blockers_16 : decode cL_blockers 16 = .ok (.ireturn, 1) := by decide +kernel

set_option maxRecDepth 20000 in
theorem ggL_release_X8_release : GoodIn wsL_release wsX8_release := goodIn_ca (goodIn_ca (goodIn_r _ [7, 8, 9, 10, 11, 12, 13, 14, 6, 15, 16, 17, 18, 19, 20, 21, 22, 23, 24, 25, 26, 27, 28, 29, 30, 31, 32, 33, 34, 35, 36, 37, 38, 39, 40, 41, 42, 43, 44, 45, 46, 47, 48, 49, 50, 51, 52, 53, 54, 55, 56, 57, 58, 59, 60, 61, 62, 63, 64, 65, 66, 67, 68, 69, 70, 71, 72, 73, 74, 75, 76, 77, 78, 79, 80, 81, 82, 83, 84, 85, 86, 87, 88, 89, 90, 91, 92, 93] (by decide +kernel) (by decide +kernel)) (goodIn_sub (fun _ h => List.mem_cons_of_mem _ (List.mem_append_left _ (List.mem_append_right _ h))) (by decide +kernel))) (goodIn_sub (fun _ h => List.mem_cons_of_mem _ (List.mem_append_right _ h)) (by decide +kernel))
set_option maxRecDepth 20000 in
theorem gL_release_X8_release : GoodIn wsL_release (wsV RL 49 RX8 yX8_release wsX8_release) := goodIn_app (goodIn_of _ (by decide +kernel)) ggL_release_X8_release
theorem dL_release_0 : decode cL_release 0 = .ok (.aload_n 2, 1) := by decide +kernel
theorem dL_release_1 : decode cL_release 1 = .ok (.iconst 0, 1) := by decide +kernel
theorem dL_release_2 : decode cL_release 2 = .ok (.aload_n 0, 1) := by decide +kernel
theorem dL_release_3 : decode cL_release 3 = .ok (.iload_n 1, 1) := by decide +kernel
theorem dL_release_4 : decode cL_release 4 = .ok (.invokevirtual 49, 3) := by decide +kernel
theorem dL_release_7 : decode cL_release 7 = .ok (.i2l, 1) := by decide +kernel
theorem dL_release_8 : decode cL_release 8 = .ok (.lastore, 1) := by decide +kernel
theorem dL_release_9 : decode cL_release 9 = .ok (.goto 9, 3) := by decide +kernel
theorem dL_release_12 : decode cL_release 12 = .ok (.astore_n 3, 1) := by decide +kernel
theorem dL_release_13 : decode cL_release 13 = .ok (.iconst 1, 1) := by decide +kernel
theorem dL_release_14 : decode cL_release 14 = .ok (.ireturn, 1) := by decide +kernel
theorem dL_release_15 : decode cL_release 15 = .ok (.astore_n 3, 1) := by decide +kernel
theorem dL_release_16 : decode cL_release 16 = .ok (.iconst 2, 1) := by decide +kernel
theorem dL_release_17 : decode cL_release 17 = .ok (.ireturn, 1) := by decide +kernel
theorem dL_release_18 : decode cL_release 18 = .ok (.iconst 0, 1) := by decide +kernel
theorem dL_release_19 : decode cL_release 19 = .ok (.ireturn, 1) := by decide +kernel
set_option maxRecDepth 20000 in
theorem ggL_addSlice_X8_addSlice : GoodIn wsL_addSlice wsX8_addSlice := goodIn_ca (goodIn_ca (goodIn_ca (goodIn_r _ [8, 9, 10, 11, 12, 13, 14, 15, 7, 16, 17, 18, 19, 20, 21, 22, 23, 24, 25, 26, 27, 28, 29, 30, 31, 32, 33, 34, 35, 36, 37, 38, 39, 40, 41, 42, 43, 44, 45, 46, 47, 48, 49, 50, 51, 52, 53, 54, 55, 56, 57, 58, 59, 60, 61, 62, 63, 64, 65, 66, 67, 68, 69, 70, 71, 72, 73, 74, 75, 76, 77, 78, 79, 80, 81, 82, 83, 84, 85, 86, 87, 88] (by decide +kernel) (by decide +kernel)) (goodIn_sub (fun _ h => List.mem_cons_of_mem _ (List.mem_append_left _ (List.mem_append_left _ (List.mem_append_right _ h)))) (by decide +kernel))) (goodIn_sub (fun _ h => List.mem_cons_of_mem _ (List.mem_append_left _ (List.mem_append_right _ h))) (by decide +kernel))) (goodIn_sub (fun _ h => List.mem_cons_of_mem _ (List.mem_append_right _ h)) (by decide +kernel))
set_option maxRecDepth 20000 in
theorem gL_addSlice_X8_addSlice : GoodIn wsL_addSlice (wsV RL 52 RX8 yX8_addSlice wsX8_addSlice) := goodIn_app (goodIn_of _ (by decide +kernel)) ggL_addSlice_X8_addSlice
theorem dL_addSlice_0 : decode cL_addSlice 0 = .ok (.aload 4, 2) := by decide +kernel
theorem dL_addSlice_2 : decode cL_addSlice 2 = .ok (.iconst 0, 1) := by decide +kernel
theorem dL_addSlice_3 : decode cL_addSlice 3 = .ok (.aload_n 0, 1) := by decide +kernel
theorem dL_addSlice_4 : decode cL_addSlice 4 = .ok (.iload_n 1, 1) := by decide +kernel
theorem dL_addSlice_5 : decode cL_addSlice 5 = .ok (.iload_n 2, 1) := by decide +kernel
theorem dL_addSlice_6 : decode cL_addSlice 6 = .ok (.iload_n 3, 1) := by decide +kernel
theorem dL_addSlice_7 : decode cL_addSlice 7 = .ok (.invokevirtual 52, 3) := by decide +kernel
theorem dL_addSlice_10 : decode cL_addSlice 10 = .ok (.i2l, 1) := by decide +kernel
theorem dL_addSlice_11 : decode cL_addSlice 11 = .ok (.lastore, 1) := by decide +kernel
theorem dL_addSlice_12 : decode cL_addSlice 12 = .ok (.goto 15, 3) := by decide +kernel
theorem dL_addSlice_15 : decode cL_addSlice 15 = .ok (.astore 5, 2) := by decide +kernel
theorem dL_addSlice_17 : decode cL_addSlice 17 = .ok (.iconst 1, 1) := by decide +kernel
theorem dL_addSlice_18 : decode cL_addSlice 18 = .ok (.ireturn, 1) := by decide +kernel
theorem dL_addSlice_19 : decode cL_addSlice 19 = .ok (.astore 5, 2) := by decide +kernel
theorem dL_addSlice_21 : decode cL_addSlice 21 = .ok (.iconst 2, 1) := by decide +kernel
theorem dL_addSlice_22 : decode cL_addSlice 22 = .ok (.ireturn, 1) := by decide +kernel
theorem dL_addSlice_23 : decode cL_addSlice 23 = .ok (.astore 5, 2) := by decide +kernel
theorem dL_addSlice_25 : decode cL_addSlice 25 = .ok (.iconst 3, 1) := by decide +kernel
theorem dL_addSlice_26 : decode cL_addSlice 26 = .ok (.ireturn, 1) := by decide +kernel
theorem dL_addSlice_27 : decode cL_addSlice 27 = .ok (.iconst 0, 1) := by decide +kernel
theorem dL_addSlice_28 : decode cL_addSlice 28 = .ok (.ireturn, 1) := by decide +kernel
set_option maxRecDepth 20000 in
theorem ggL_setBound_X8_setBound : GoodIn wsL_setBound wsX8_setBound := goodIn_ca (goodIn_ca (goodIn_r _ [7, 8, 9, 10, 11, 12, 13, 14, 6, 15, 16, 17, 18, 19, 20, 21, 22, 23, 24, 25, 26, 27, 28, 29, 30, 31, 32, 33, 34, 35, 36, 37, 38, 39, 40, 41, 42, 43, 44, 45, 46, 47, 48, 49, 50, 51, 52, 53, 54, 55, 56, 57, 58, 59, 60, 61, 62, 63, 64, 65, 66, 67, 68, 69, 70, 71, 72, 73, 74, 75, 76, 77, 78, 79, 80, 81, 82, 83, 84, 85, 86, 87, 88, 89, 90, 91, 92, 93, 94, 95] (by decide +kernel) (by decide +kernel)) (goodIn_sub (fun _ h => List.mem_cons_of_mem _ (List.mem_append_left _ (List.mem_append_right _ h))) (by decide +kernel))) (goodIn_sub (fun _ h => List.mem_cons_of_mem _ (List.mem_append_right _ h)) (by decide +kernel))
set_option maxRecDepth 20000 in
theorem gL_setBound_X8_setBound : GoodIn wsL_setBound (wsV RL 56 RX8 yX8_setBound wsX8_setBound) := goodIn_app (goodIn_of _ (by decide +kernel)) ggL_setBound_X8_setBound
theorem dL_setBound_0 : decode cL_setBound 0 = .ok (.aload_n 2, 1) := by decide +kernel
theorem dL_setBound_1 : decode cL_setBound 1 = .ok (.iconst 0, 1) := by decide +kernel
theorem dL_setBound_2 : decode cL_setBound 2 = .ok (.aload_n 0, 1) := by decide +kernel
theorem dL_setBound_3 : decode cL_setBound 3 = .ok (.iload_n 1, 1) := by decide +kernel
theorem dL_setBound_4 : decode cL_setBound 4 = .ok (.invokevirtual 56, 3) := by decide +kernel
theorem dL_setBound_7 : decode cL_setBound 7 = .ok (.i2l, 1) := by decide +kernel
theorem dL_setBound_8 : decode cL_setBound 8 = .ok (.lastore, 1) := by decide +kernel
theorem dL_setBound_9 : decode cL_setBound 9 = .ok (.goto 9, 3) := by decide +kernel
theorem dL_setBound_12 : decode cL_setBound 12 = .ok (.astore_n 3, 1) := by decide +kernel
theorem dL_setBound_13 : decode cL_setBound 13 = .ok (.iconst 1, 1) := by decide +kernel
theorem dL_setBound_14 : decode cL_setBound 14 = .ok (.ireturn, 1) := by decide +kernel
theorem dL_setBound_15 : decode cL_setBound 15 = .ok (.astore_n 3, 1) := by decide +kernel
theorem dL_setBound_16 : decode cL_setBound 16 = .ok (.iconst 2, 1) := by decide +kernel
theorem dL_setBound_17 : decode cL_setBound 17 = .ok (.ireturn, 1) := by decide +kernel
theorem dL_setBound_18 : decode cL_setBound 18 = .ok (.iconst 0, 1) := by decide +kernel
theorem dL_setBound_19 : decode cL_setBound 19 = .ok (.ireturn, 1) := by decide +kernel

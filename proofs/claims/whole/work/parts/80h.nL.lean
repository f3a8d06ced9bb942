set_option maxRecDepth 20000 in
theorem ggL_bucketsFor_X8_bucketsFor : GoodIn wsL_bucketsFor wsX8_bucketsFor := goodIn_ca (goodIn_ca (goodIn_r _ [7, 8, 9, 10, 11, 12, 6, 13, 14, 15, 16, 17, 18, 19, 20, 21, 22, 23, 24, 25, 26, 27, 28, 29, 30, 31, 32, 33, 34, 35, 36, 37, 38, 39, 40, 41, 42, 43, 44, 45, 46, 47, 48, 49, 50, 51, 52, 53, 54, 55, 56, 57, 58, 59, 60, 61, 62, 63, 64, 65, 66, 67, 68, 69, 70, 71, 72, 73, 74, 75, 76, 77, 78, 79, 80] (by decide +kernel) (by decide +kernel)) (goodIn_sub (fun _ h => List.mem_cons_of_mem _ (List.mem_append_left _ (List.mem_append_right _ h))) (by decide +kernel))) (goodIn_sub (fun _ h => List.mem_cons_of_mem _ (List.mem_append_right _ h)) (by decide +kernel))
set_option maxRecDepth 20000 in
theorem gL_bucketsFor_X8_bucketsFor : GoodIn wsL_bucketsFor (wsV RL 77 RX8 yX8_bucketsFor wsX8_bucketsFor) := goodIn_app (goodIn_of _ (by decide +kernel)) ggL_bucketsFor_X8_bucketsFor
theorem dL_bucketsFor_0 : decode cL_bucketsFor 0 = .ok (.aload_n 3, 1) := by decide +kernel
theorem dL_bucketsFor_1 : decode cL_bucketsFor 1 = .ok (.iconst 0, 1) := by decide +kernel
theorem dL_bucketsFor_2 : decode cL_bucketsFor 2 = .ok (.aload_n 0, 1) := by decide +kernel
theorem dL_bucketsFor_3 : decode cL_bucketsFor 3 = .ok (.iload_n 1, 1) := by decide +kernel
theorem dL_bucketsFor_4 : decode cL_bucketsFor 4 = .ok (.iload_n 2, 1) := by decide +kernel
theorem dL_bucketsFor_5 : decode cL_bucketsFor 5 = .ok (.invokevirtual 77, 3) := by decide +kernel
theorem dL_bucketsFor_8 : decode cL_bucketsFor 8 = .ok (.i2l, 1) := by decide +kernel
theorem dL_bucketsFor_9 : decode cL_bucketsFor 9 = .ok (.lastore, 1) := by decide +kernel
theorem dL_bucketsFor_10 : decode cL_bucketsFor 10 = .ok (.goto 11, 3) := by decide +kernel
theorem dL_bucketsFor_13 : decode cL_bucketsFor 13 = .ok (.astore 4, 2) := by decide +kernel
theorem dL_bucketsFor_15 : decode cL_bucketsFor 15 = .ok (.iconst 1, 1) := by decide +kernel
theorem dL_bucketsFor_16 : decode cL_bucketsFor 16 = .ok (.ireturn, 1) := by decide +kernel
theorem dL_bucketsFor_17 : decode cL_bucketsFor 17 = .ok (.astore 4, 2) := by decide +kernel
theorem dL_bucketsFor_19 : decode cL_bucketsFor 19 = .ok (.iconst 2, 1) := by decide +kernel
theorem dL_bucketsFor_20 : decode cL_bucketsFor 20 = .ok (.ireturn, 1) := by decide +kernel
theorem dL_bucketsFor_21 : decode cL_bucketsFor 21 = .ok (.iconst 0, 1) := by decide +kernel
theorem dL_bucketsFor_22 : decode cL_bucketsFor 22 = .ok (.ireturn, 1) := by decide +kernel
set_option maxRecDepth 20000 in
theorem ggL_mostFrom_X8_mostFrom : GoodIn wsL_mostFrom wsX8_mostFrom := goodIn_ca (goodIn_r _ [6, 7, 8, 9, 10, 11, 5, 12, 13, 14, 15, 16, 17, 18, 19, 20, 21, 22, 23, 24, 25, 26, 27, 28, 29, 30, 31, 32, 33, 34, 35, 36, 37, 38, 39, 40, 41, 42, 43, 44, 45, 46, 47, 48, 49, 50, 51, 52, 53, 54, 55, 56, 57, 58, 59, 60, 61, 62, 63, 64, 65, 66, 67, 68, 69, 70, 71, 72, 73, 74, 75, 76, 77, 78] (by decide +kernel) (by decide +kernel)) (goodIn_sub (fun _ h => List.mem_cons_of_mem _ (List.mem_append_right _ h)) (by decide +kernel))
set_option maxRecDepth 20000 in
theorem gL_mostFrom_X8_mostFrom : GoodIn wsL_mostFrom (wsV RL 80 RX8 yX8_mostFrom wsX8_mostFrom) := goodIn_app (goodIn_of _ (by decide +kernel)) ggL_mostFrom_X8_mostFrom
theorem dL_mostFrom_0 : decode cL_mostFrom 0 = .ok (.aload_n 2, 1) := by decide +kernel
theorem dL_mostFrom_1 : decode cL_mostFrom 1 = .ok (.iconst 0, 1) := by decide +kernel
theorem dL_mostFrom_2 : decode cL_mostFrom 2 = .ok (.aload_n 0, 1) := by decide +kernel
theorem dL_mostFrom_3 : decode cL_mostFrom 3 = .ok (.iload_n 1, 1) := by decide +kernel
theorem dL_mostFrom_4 : decode cL_mostFrom 4 = .ok (.invokevirtual 80, 3) := by decide +kernel
theorem dL_mostFrom_7 : decode cL_mostFrom 7 = .ok (.i2l, 1) := by decide +kernel
theorem dL_mostFrom_8 : decode cL_mostFrom 8 = .ok (.lastore, 1) := by decide +kernel
theorem dL_mostFrom_9 : decode cL_mostFrom 9 = .ok (.goto 6, 3) := by decide +kernel
theorem dL_mostFrom_12 : decode cL_mostFrom 12 = .ok (.astore_n 3, 1) := by decide +kernel
theorem dL_mostFrom_13 : decode cL_mostFrom 13 = .ok (.iconst 1, 1) := by decide +kernel
theorem dL_mostFrom_14 : decode cL_mostFrom 14 = .ok (.ireturn, 1) := by decide +kernel
theorem dL_mostFrom_15 : decode cL_mostFrom 15 = .ok (.iconst 0, 1) := by decide +kernel
theorem dL_mostFrom_16 : decode cL_mostFrom 16 = .ok (.ireturn, 1) := by decide +kernel
set_option maxRecDepth 20000 in
theorem ggL_bestSequence_X8_bestSequence : GoodIn wsL_bestSequence wsX8_bestSequence := goodIn_ca (goodIn_r _ [6, 7, 8, 9, 10, 11, 5, 12, 13, 14, 15, 16, 17, 18, 19, 20, 21, 22, 23, 24, 25, 26, 27, 28, 29, 30, 31, 32, 33, 34, 35, 36, 37, 38, 39, 40, 41, 42, 43, 44, 45, 46, 47, 48, 49, 50, 51, 52, 53, 54, 55, 56, 57, 58, 59, 60, 61, 62, 63, 64, 65, 66, 67, 68, 69, 70, 71, 72, 73, 74, 75, 76, 77, 78, 79, 80, 81, 82, 83, 84, 85, 86, 87, 88, 89, 90, 91, 92, 93, 94, 95, 96, 97, 98, 99, 100, 101, 102, 103, 104, 105, 106, 107, 108, 109, 110, 111, 112, 113, 114, 115, 116, 117, 118, 119, 120, 121, 122, 123, 124, 125, 126, 127, 128, 129, 130, 131, 132, 133, 134, 135, 136, 137, 138, 139, 140, 141, 142] (by decide +kernel) (by decide +kernel)) (goodIn_sub (fun _ h => List.mem_cons_of_mem _ (List.mem_append_right _ h)) (by decide +kernel))
set_option maxRecDepth 20000 in
theorem gL_bestSequence_X8_bestSequence : GoodIn wsL_bestSequence (wsV RL 83 RX8 yX8_bestSequence wsX8_bestSequence) := goodIn_app (goodIn_of _ (by decide +kernel)) ggL_bestSequence_X8_bestSequence
theorem dL_bestSequence_0 : decode cL_bestSequence 0 = .ok (.aload_n 3, 1) := by decide +kernel
theorem dL_bestSequence_1 : decode cL_bestSequence 1 = .ok (.iconst 0, 1) := by decide +kernel
theorem dL_bestSequence_2 : decode cL_bestSequence 2 = .ok (.aload_n 0, 1) := by decide +kernel
theorem dL_bestSequence_3 : decode cL_bestSequence 3 = .ok (.iload_n 1, 1) := by decide +kernel
theorem dL_bestSequence_4 : decode cL_bestSequence 4 = .ok (.iload_n 2, 1) := by decide +kernel
theorem dL_bestSequence_5 : decode cL_bestSequence 5 = .ok (.invokevirtual 83, 3) := by decide +kernel
theorem dL_bestSequence_8 : decode cL_bestSequence 8 = .ok (.i2l, 1) := by decide +kernel
theorem dL_bestSequence_9 : decode cL_bestSequence 9 = .ok (.lastore, 1) := by decide +kernel
theorem dL_bestSequence_10 : decode cL_bestSequence 10 = .ok (.goto 7, 3) := by decide +kernel
theorem dL_bestSequence_13 : decode cL_bestSequence 13 = .ok (.astore 4, 2) := by decide +kernel
theorem dL_bestSequence_15 : decode cL_bestSequence 15 = .ok (.iconst 1, 1) := by decide +kernel
theorem dL_bestSequence_16 : decode cL_bestSequence 16 = .ok (.ireturn, 1) := by decide +kernel
theorem dL_bestSequence_17 : decode cL_bestSequence 17 = .ok (.iconst 0, 1) := by decide +kernel
theorem dL_bestSequence_18 : decode cL_bestSequence 18 = .ok (.ireturn, 1) := by decide +kernel

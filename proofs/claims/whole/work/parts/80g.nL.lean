set_option maxRecDepth 20000 in
theorem ggL_slack_X8_slack : GoodIn wsL_slack wsX8_slack := goodIn_ca (goodIn_r _ [6, 7, 8, 9, 10, 11, 5, 12, 13, 14, 15, 16, 17, 18, 19, 20, 21, 22, 23, 24, 25, 26, 27, 28, 29, 30, 31, 32, 33, 34, 35, 36, 37, 38, 39, 40, 41, 42, 43, 44, 45, 46, 47, 48, 49, 50, 51, 52, 53, 54, 55, 56, 57, 58, 59, 60, 61, 62, 63, 64, 65, 66, 67, 68, 69, 70, 71, 72, 73, 74] (by decide +kernel) (by decide +kernel)) (goodIn_sub (fun _ h => List.mem_cons_of_mem _ (List.mem_append_right _ h)) (by decide +kernel))
set_option maxRecDepth 20000 in
theorem gL_slack_X8_slack : GoodIn wsL_slack (wsV RL 68 RX8 yX8_slack wsX8_slack) := goodIn_app (goodIn_of _ (by decide +kernel)) ggL_slack_X8_slack
theorem dL_slack_0 : decode cL_slack 0 = .ok (.aload_n 2, 1) := by decide +kernel
theorem dL_slack_1 : decode cL_slack 1 = .ok (.iconst 0, 1) := by decide +kernel
theorem dL_slack_2 : decode cL_slack 2 = .ok (.aload_n 0, 1) := by decide +kernel
theorem dL_slack_3 : decode cL_slack 3 = .ok (.iload_n 1, 1) := by decide +kernel
theorem dL_slack_4 : decode cL_slack 4 = .ok (.invokevirtual 68, 3) := by decide +kernel
theorem dL_slack_7 : decode cL_slack 7 = .ok (.i2l, 1) := by decide +kernel
theorem dL_slack_8 : decode cL_slack 8 = .ok (.lastore, 1) := by decide +kernel
theorem dL_slack_9 : decode cL_slack 9 = .ok (.goto 6, 3) := by decide +kernel
theorem dL_slack_12 : decode cL_slack 12 = .ok (.astore_n 3, 1) := by decide +kernel
theorem dL_slack_13 : decode cL_slack 13 = .ok (.iconst 1, 1) := by decide +kernel
theorem dL_slack_14 : decode cL_slack 14 = .ok (.ireturn, 1) := by decide +kernel
theorem dL_slack_15 : decode cL_slack 15 = .ok (.iconst 0, 1) := by decide +kernel
theorem dL_slack_16 : decode cL_slack 16 = .ok (.ireturn, 1) := by decide +kernel
set_option maxRecDepth 20000 in
theorem ggL_orderAhead_X8_orderAhead : GoodIn wsL_orderAhead wsX8_orderAhead := goodIn_ca (goodIn_r _ [6, 7, 8, 9, 10, 11, 5, 12, 13, 14, 15, 16, 17, 18, 19, 20, 21, 22, 23, 24, 25, 26, 27, 28, 29, 30, 31, 32, 33, 34, 35, 36, 37, 38, 39, 40, 41, 42, 43, 44, 45, 46, 47, 48, 49, 50, 51, 52, 53, 54, 55, 56, 57, 58, 59, 60, 61, 62, 63, 64, 65, 66, 67, 68, 69, 70, 71, 72, 73, 74, 75, 76, 77, 78, 79, 80, 81, 82, 83, 84, 85, 86, 87, 88, 89, 90, 91, 92, 93, 94, 95, 96, 97, 98, 99, 100, 101, 102, 103, 104, 105, 106] (by decide +kernel) (by decide +kernel)) (goodIn_sub (fun _ h => List.mem_cons_of_mem _ (List.mem_append_right _ h)) (by decide +kernel))
set_option maxRecDepth 20000 in
theorem gL_orderAhead_X8_orderAhead : GoodIn wsL_orderAhead (wsV RL 71 RX8 yX8_orderAhead wsX8_orderAhead) := goodIn_app (goodIn_of _ (by decide +kernel)) ggL_orderAhead_X8_orderAhead
theorem dL_orderAhead_0 : decode cL_orderAhead 0 = .ok (.aload_n 2, 1) := by decide +kernel
theorem dL_orderAhead_1 : decode cL_orderAhead 1 = .ok (.iconst 0, 1) := by decide +kernel
theorem dL_orderAhead_2 : decode cL_orderAhead 2 = .ok (.aload_n 0, 1) := by decide +kernel
theorem dL_orderAhead_3 : decode cL_orderAhead 3 = .ok (.iload_n 1, 1) := by decide +kernel
theorem dL_orderAhead_4 : decode cL_orderAhead 4 = .ok (.invokevirtual 71, 3) := by decide +kernel
theorem dL_orderAhead_7 : decode cL_orderAhead 7 = .ok (.i2l, 1) := by decide +kernel
theorem dL_orderAhead_8 : decode cL_orderAhead 8 = .ok (.lastore, 1) := by decide +kernel
theorem dL_orderAhead_9 : decode cL_orderAhead 9 = .ok (.goto 6, 3) := by decide +kernel
theorem dL_orderAhead_12 : decode cL_orderAhead 12 = .ok (.astore_n 3, 1) := by decide +kernel
theorem dL_orderAhead_13 : decode cL_orderAhead 13 = .ok (.iconst 1, 1) := by decide +kernel
theorem dL_orderAhead_14 : decode cL_orderAhead 14 = .ok (.ireturn, 1) := by decide +kernel
theorem dL_orderAhead_15 : decode cL_orderAhead 15 = .ok (.iconst 0, 1) := by decide +kernel
theorem dL_orderAhead_16 : decode cL_orderAhead 16 = .ok (.ireturn, 1) := by decide +kernel
set_option maxRecDepth 20000 in
theorem ggL_bucketsToWaste_X8_bucketsToWaste : GoodIn wsL_bucketsToWaste wsX8_bucketsToWaste := goodIn_ca (goodIn_ca (goodIn_r _ [7, 8, 9, 10, 11, 6, 12, 13, 14, 15, 16, 17, 18, 19, 20, 21, 22, 23, 24, 25, 26, 27, 28, 29, 30, 31, 32, 33, 34, 35, 36, 37, 38, 39, 40, 41, 42, 43, 44, 45, 46, 47, 48, 49, 50, 51, 52, 53, 54, 55, 56] (by decide +kernel) (by decide +kernel)) (goodIn_sub (fun _ h => List.mem_cons_of_mem _ (List.mem_append_left _ (List.mem_append_right _ h))) (by decide +kernel))) (goodIn_sub (fun _ h => List.mem_cons_of_mem _ (List.mem_append_right _ h)) (by decide +kernel))
set_option maxRecDepth 20000 in
theorem gL_bucketsToWaste_X8_bucketsToWaste : GoodIn wsL_bucketsToWaste (wsV RL 74 RX8 yX8_bucketsToWaste wsX8_bucketsToWaste) := goodIn_app (goodIn_of _ (by decide +kernel)) ggL_bucketsToWaste_X8_bucketsToWaste
theorem dL_bucketsToWaste_0 : decode cL_bucketsToWaste 0 = .ok (.aload_n 3, 1) := by decide +kernel
theorem dL_bucketsToWaste_1 : decode cL_bucketsToWaste 1 = .ok (.iconst 0, 1) := by decide +kernel
theorem dL_bucketsToWaste_2 : decode cL_bucketsToWaste 2 = .ok (.aload_n 0, 1) := by decide +kernel
theorem dL_bucketsToWaste_3 : decode cL_bucketsToWaste 3 = .ok (.iload_n 1, 1) := by decide +kernel
theorem dL_bucketsToWaste_4 : decode cL_bucketsToWaste 4 = .ok (.iload_n 2, 1) := by decide +kernel
theorem dL_bucketsToWaste_5 : decode cL_bucketsToWaste 5 = .ok (.invokevirtual 74, 3) := by decide +kernel
theorem dL_bucketsToWaste_8 : decode cL_bucketsToWaste 8 = .ok (.i2l, 1) := by decide +kernel
theorem dL_bucketsToWaste_9 : decode cL_bucketsToWaste 9 = .ok (.lastore, 1) := by decide +kernel
theorem dL_bucketsToWaste_10 : decode cL_bucketsToWaste 10 = .ok (.goto 11, 3) := by decide +kernel
theorem dL_bucketsToWaste_13 : decode cL_bucketsToWaste 13 = .ok (.astore 4, 2) := by decide +kernel
theorem dL_bucketsToWaste_15 : decode cL_bucketsToWaste 15 = .ok (.iconst 1, 1) := by decide +kernel
theorem dL_bucketsToWaste_16 : decode cL_bucketsToWaste 16 = .ok (.ireturn, 1) := by decide +kernel
theorem dL_bucketsToWaste_17 : decode cL_bucketsToWaste 17 = .ok (.astore 4, 2) := by decide +kernel
theorem dL_bucketsToWaste_19 : decode cL_bucketsToWaste 19 = .ok (.iconst 2, 1) := by decide +kernel
theorem dL_bucketsToWaste_20 : decode cL_bucketsToWaste 20 = .ok (.ireturn, 1) := by decide +kernel
theorem dL_bucketsToWaste_21 : decode cL_bucketsToWaste 21 = .ok (.iconst 0, 1) := by decide +kernel
theorem dL_bucketsToWaste_22 : decode cL_bucketsToWaste 22 = .ok (.ireturn, 1) := by decide +kernel

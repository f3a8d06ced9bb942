set_option maxRecDepth 20000 in
theorem ggX8_setBound_X0_limit : GoodIn wsX8_setBound wsX0_limit := goodIn_r _ [60, 53, 74, 75, 76, 77, 78, 79, 80, 81] (by decide +kernel) (by decide +kernel)
set_option maxRecDepth 20000 in
theorem gX8_setBound_X0_limit : GoodIn wsX8_setBound (wsV RX8 110 RX0 yX0_limit wsX0_limit) := goodIn_app (goodIn_of _ (by decide +kernel)) ggX8_setBound_X0_limit
set_option maxRecDepth 20000 in
theorem ggX8_setBound_X0_changeLimit : GoodIn wsX8_setBound wsX0_changeLimit := goodIn_r _ [64, 53, 74, 75, 76, 77, 78, 79, 80, 81] (by decide +kernel) (by decide +kernel)
set_option maxRecDepth 20000 in
theorem gX8_setBound_X0_changeLimit : GoodIn wsX8_setBound (wsV RX8 176 RX0 yX0_changeLimit wsX0_changeLimit) := goodIn_app (goodIn_of _ (by decide +kernel)) ggX8_setBound_X0_changeLimit
theorem dX8_setBound_0 : decode cX8_setBound 0 = .ok (.iload_n 1, 1) := by decide +kernel
theorem dX8_setBound_1 : decode cX8_setBound 1 = .ok (.iconst 1, 1) := by decide +kernel
theorem dX8_setBound_2 : decode cX8_setBound 2 = .ok (.bipush 9, 2) := by decide +kernel
theorem dX8_setBound_4 : decode cX8_setBound 4 = .ok (.invokestatic 72, 3) := by decide +kernel
theorem dX8_setBound_7 : decode cX8_setBound 7 = .ok (.aload_n 0, 1) := by decide +kernel
theorem dX8_setBound_8 : decode cX8_setBound 8 = .ok (.getfield 19, 3) := by decide +kernel
theorem dX8_setBound_11 : decode cX8_setBound 11 = .ok (.aload_n 0, 1) := by decide +kernel
theorem dX8_setBound_12 : decode cX8_setBound 12 = .ok (.getfield 12, 3) := by decide +kernel
theorem dX8_setBound_15 : decode cX8_setBound 15 = .ok (.iload_n 1, 1) := by decide +kernel
theorem dX8_setBound_16 : decode cX8_setBound 16 = .ok (.invokevirtual 171, 3) := by decide +kernel
theorem dX8_setBound_19 : decode cX8_setBound 19 = .ok (.ifCond .ne 13, 3) := by decide +kernel
theorem dX8_setBound_22 : decode cX8_setBound 22 = .ok (.new 80, 3) := by decide +kernel
theorem dX8_setBound_25 : decode cX8_setBound 25 = .ok (.dup, 1) := by decide +kernel
theorem dX8_setBound_26 : decode cX8_setBound 26 = .ok (.ldc 174, 2) := by decide +kernel
theorem dX8_setBound_28 : decode cX8_setBound 28 = .ok (.invokespecial 84, 3) := by decide +kernel
theorem dX8_setBound_31 : decode cX8_setBound 31 = .ok (.athrow, 1) := by decide +kernel
theorem dX8_setBound_32 : decode cX8_setBound 32 = .ok (.aload_n 0, 1) := by decide +kernel
theorem dX8_setBound_33 : decode cX8_setBound 33 = .ok (.getfield 36, 3) := by decide +kernel
theorem dX8_setBound_36 : decode cX8_setBound 36 = .ok (.aload_n 0, 1) := by decide +kernel
theorem dX8_setBound_37 : decode cX8_setBound 37 = .ok (.getfield 19, 3) := by decide +kernel
theorem dX8_setBound_40 : decode cX8_setBound 40 = .ok (.invokevirtual 145, 3) := by decide +kernel
theorem dX8_setBound_43 : decode cX8_setBound 43 = .ok (.aload_n 0, 1) := by decide +kernel
theorem dX8_setBound_44 : decode cX8_setBound 44 = .ok (.getfield 19, 3) := by decide +kernel
theorem dX8_setBound_47 : decode cX8_setBound 47 = .ok (.invokevirtual 110, 3) := by decide +kernel
theorem dX8_setBound_50 : decode cX8_setBound 50 = .ok (.istore_n 2, 1) := by decide +kernel
theorem dX8_setBound_51 : decode cX8_setBound 51 = .ok (.aload_n 0, 1) := by decide +kernel
theorem dX8_setBound_52 : decode cX8_setBound 52 = .ok (.getfield 19, 3) := by decide +kernel
theorem dX8_setBound_55 : decode cX8_setBound 55 = .ok (.iload_n 1, 1) := by decide +kernel
theorem dX8_setBound_56 : decode cX8_setBound 56 = .ok (.invokevirtual 176, 3) := by decide +kernel
theorem dX8_setBound_59 : decode cX8_setBound 59 = .ok (.iload_n 2, 1) := by decide +kernel
theorem dX8_setBound_60 : decode cX8_setBound 60 = .ok (.ireturn, 1) := by decide +kernel
set_option maxRecDepth 20000 in
theorem ggX8_undo_X4_isEmpty : GoodIn wsX8_undo wsX4_isEmpty := goodIn_r _ [9, 10, 43, 44, 45] (by decide +kernel) (by decide +kernel)
set_option maxRecDepth 20000 in
theorem gX8_undo_X4_isEmpty : GoodIn wsX8_undo (wsV RX8 179 RX4 yX4_isEmpty wsX4_isEmpty) := goodIn_app (goodIn_of _ (by decide +kernel)) ggX8_undo_X4_isEmpty
set_option maxRecDepth 20000 in
theorem ggX8_undo_X4_takeBack : GoodIn wsX8_undo wsX4_takeBack := goodIn_r _ [14, 10, 15, 16, 17, 18, 19, 20, 21, 22, 23, 24, 25, 26, 27, 28, 29, 30, 31, 32, 33, 43, 44, 45, 46, 47, 48, 49, 50, 51, 52, 53] (by decide +kernel) (by decide +kernel)
set_option maxRecDepth 20000 in
theorem gX8_undo_X4_takeBack : GoodIn wsX8_undo (wsV RX8 184 RX4 yX4_takeBack wsX4_takeBack) := goodIn_app (goodIn_of _ (by decide +kernel)) ggX8_undo_X4_takeBack
theorem dX8_undo_0 : decode cX8_undo 0 = .ok (.aload_n 0, 1) := by decide +kernel
theorem dX8_undo_1 : decode cX8_undo 1 = .ok (.getfield 36, 3) := by decide +kernel
theorem dX8_undo_4 : decode cX8_undo 4 = .ok (.invokevirtual 179, 3) := by decide +kernel
theorem dX8_undo_7 : decode cX8_undo 7 = .ok (.ifCond .eq 13, 3) := by decide +kernel
theorem dX8_undo_10 : decode cX8_undo 10 = .ok (.new 80, 3) := by decide +kernel
theorem dX8_undo_13 : decode cX8_undo 13 = .ok (.dup, 1) := by decide +kernel
theorem dX8_undo_14 : decode cX8_undo 14 = .ok (.ldc 182, 2) := by decide +kernel
theorem dX8_undo_16 : decode cX8_undo 16 = .ok (.invokespecial 84, 3) := by decide +kernel
theorem dX8_undo_19 : decode cX8_undo 19 = .ok (.athrow, 1) := by decide +kernel
theorem dX8_undo_20 : decode cX8_undo 20 = .ok (.aload_n 0, 1) := by decide +kernel
theorem dX8_undo_21 : decode cX8_undo 21 = .ok (.getfield 36, 3) := by decide +kernel
theorem dX8_undo_24 : decode cX8_undo 24 = .ok (.aload_n 0, 1) := by decide +kernel
theorem dX8_undo_25 : decode cX8_undo 25 = .ok (.getfield 19, 3) := by decide +kernel
theorem dX8_undo_28 : decode cX8_undo 28 = .ok (.invokevirtual 184, 3) := by decide +kernel
theorem dX8_undo_31 : decode cX8_undo 31 = .ok (.ireturn, 1) := by decide +kernel
set_option maxRecDepth 20000 in
theorem ggX8_isReady_X8_requirePoint : GoodIn wsX8_isReady wsX8_requirePoint := goodIn_ca (goodIn_r _ [7, 8, 9, 2, 10, 11, 12, 13, 14, 15, 52, 53, 54, 55, 56, 57, 58, 59, 60, 61, 62, 63, 64, 65] (by decide +kernel) (by decide +kernel)) (goodIn_sub (fun _ h => List.mem_cons_of_mem _ (List.mem_append_right _ h)) (by decide +kernel))
set_option maxRecDepth 20000 in
theorem gX8_isReady_X8_requirePoint : GoodIn wsX8_isReady (wsV RX8 113 RX8 yX8_requirePoint wsX8_requirePoint) := goodIn_app (goodIn_of _ (by decide +kernel)) ggX8_isReady_X8_requirePoint
set_option maxRecDepth 20000 in
theorem ggX8_isReady_X0_ready : GoodIn wsX8_isReady wsX0_ready := goodIn_r _ [20, 21, 22, 23, 19, 24, 25, 26, 27, 28, 29, 30, 31, 32, 33, 34, 35, 36, 37, 38, 39, 40, 41, 42, 43, 44, 45, 46, 47, 13, 48, 49, 50, 51, 66, 67, 68, 69, 70, 71, 72, 73, 61, 62, 63, 64, 65] (by decide +kernel) (by decide +kernel)
set_option maxRecDepth 20000 in
theorem gX8_isReady_X0_ready : GoodIn wsX8_isReady (wsV RX8 139 RX0 yX0_ready wsX0_ready) := goodIn_app (goodIn_of _ (by decide +kernel)) ggX8_isReady_X0_ready
theorem dX8_isReady_0 : decode cX8_isReady 0 = .ok (.aload_n 0, 1) := by decide +kernel
theorem dX8_isReady_1 : decode cX8_isReady 1 = .ok (.iload_n 1, 1) := by decide +kernel
theorem dX8_isReady_2 : decode cX8_isReady 2 = .ok (.invokevirtual 113, 3) := by decide +kernel
theorem dX8_isReady_5 : decode cX8_isReady 5 = .ok (.aload_n 0, 1) := by decide +kernel
theorem dX8_isReady_6 : decode cX8_isReady 6 = .ok (.getfield 19, 3) := by decide +kernel
theorem dX8_isReady_9 : decode cX8_isReady 9 = .ok (.aload_n 0, 1) := by decide +kernel
theorem dX8_isReady_10 : decode cX8_isReady 10 = .ok (.getfield 12, 3) := by decide +kernel
theorem dX8_isReady_13 : decode cX8_isReady 13 = .ok (.iload_n 1, 1) := by decide +kernel
theorem dX8_isReady_14 : decode cX8_isReady 14 = .ok (.invokevirtual 139, 3) := by decide +kernel
theorem dX8_isReady_17 : decode cX8_isReady 17 = .ok (.ireturn, 1) := by decide +kernel
set_option maxRecDepth 20000 in
theorem ggX8_blockers_X8_requirePoint : GoodIn wsX8_blockers wsX8_requirePoint := goodIn_ca (goodIn_r _ [7, 8, 9, 2, 10, 11, 12, 13, 14, 15, 33, 34, 35, 36, 37, 38, 39, 40, 41, 42, 43, 44, 45, 46] (by decide +kernel) (by decide +kernel)) (goodIn_sub (fun _ h => List.mem_cons_of_mem _ (List.mem_append_right _ h)) (by decide +kernel))
set_option maxRecDepth 20000 in
theorem gX8_blockers_X8_requirePoint : GoodIn wsX8_blockers (wsV RX8 113 RX8 yX8_requirePoint wsX8_requirePoint) := goodIn_app (goodIn_of _ (by decide +kernel)) ggX8_blockers_X8_requirePoint
set_option maxRecDepth 20000 in
theorem ggX8_blockers_X0_blockersOf : GoodIn wsX8_blockers wsX0_blockersOf := goodIn_r _ [20, 21, 22, 23, 24, 25, 13, 26, 27, 28, 29, 30, 31, 32, 47, 48, 49, 50, 51, 52, 53, 54, 42, 43, 44, 45, 46] (by decide +kernel) (by decide +kernel)
set_option maxRecDepth 20000 in
theorem gX8_blockers_X0_blockersOf : GoodIn wsX8_blockers (wsV RX8 188 RX0 yX0_blockersOf wsX0_blockersOf) := goodIn_app (goodIn_of _ (by decide +kernel)) ggX8_blockers_X0_blockersOf
theorem dX8_blockers_0 : decode cX8_blockers 0 = .ok (.aload_n 0, 1) := by decide +kernel
theorem dX8_blockers_1 : decode cX8_blockers 1 = .ok (.iload_n 1, 1) := by decide +kernel
theorem dX8_blockers_2 : decode cX8_blockers 2 = .ok (.invokevirtual 113, 3) := by decide +kernel
theorem dX8_blockers_5 : decode cX8_blockers 5 = .ok (.aload_n 0, 1) := by decide +kernel
theorem dX8_blockers_6 : decode cX8_blockers 6 = .ok (.getfield 19, 3) := by decide +kernel
theorem dX8_blockers_9 : decode cX8_blockers 9 = .ok (.aload_n 0, 1) := by decide +kernel
theorem dX8_blockers_10 : decode cX8_blockers 10 = .ok (.getfield 12, 3) := by decide +kernel
theorem dX8_blockers_13 : decode cX8_blockers 13 = .ok (.iload_n 1, 1) := by decide +kernel
theorem dX8_blockers_14 : decode cX8_blockers 14 = .ok (.invokevirtual 188, 3) := by decide +kernel
theorem dX8_blockers_17 : decode cX8_blockers 17 = .ok (.ireturn, 1) := by decide +kernel
set_option maxRecDepth 20000 in
theorem ggX8_slack_X8_requirePoint : GoodIn wsX8_slack wsX8_requirePoint := goodIn_ca (goodIn_r _ [7, 8, 9, 2, 10, 11, 12, 13, 14, 15, 48, 49, 50, 51, 52, 53, 54, 55, 56, 57, 58, 59, 60, 61] (by decide +kernel) (by decide +kernel)) (goodIn_sub (fun _ h => List.mem_cons_of_mem _ (List.mem_append_right _ h)) (by decide +kernel))
set_option maxRecDepth 20000 in
theorem gX8_slack_X8_requirePoint : GoodIn wsX8_slack (wsV RX8 113 RX8 yX8_requirePoint wsX8_requirePoint) := goodIn_app (goodIn_of _ (by decide +kernel)) ggX8_slack_X8_requirePoint
set_option maxRecDepth 20000 in
theorem ggX8_slack_X0_slackOf : GoodIn wsX8_slack wsX0_slackOf := goodIn_r _ [20, 21, 22, 23, 24, 25, 26, 27, 28, 29, 30, 31, 32, 19, 33, 34, 35, 36, 37, 38, 39, 40, 41, 42, 43, 13, 44, 45, 46, 47, 62, 63, 64, 65, 66, 67, 68, 69, 57, 58, 59, 60, 61] (by decide +kernel) (by decide +kernel)
set_option maxRecDepth 20000 in
theorem gX8_slack_X0_slackOf : GoodIn wsX8_slack (wsV RX8 191 RX0 yX0_slackOf wsX0_slackOf) := goodIn_app (goodIn_of _ (by decide +kernel)) ggX8_slack_X0_slackOf
theorem dX8_slack_0 : decode cX8_slack 0 = .ok (.aload_n 0, 1) := by decide +kernel
theorem dX8_slack_1 : decode cX8_slack 1 = .ok (.iload_n 1, 1) := by decide +kernel
theorem dX8_slack_2 : decode cX8_slack 2 = .ok (.invokevirtual 113, 3) := by decide +kernel
theorem dX8_slack_5 : decode cX8_slack 5 = .ok (.aload_n 0, 1) := by decide +kernel
theorem dX8_slack_6 : decode cX8_slack 6 = .ok (.getfield 19, 3) := by decide +kernel
theorem dX8_slack_9 : decode cX8_slack 9 = .ok (.aload_n 0, 1) := by decide +kernel
theorem dX8_slack_10 : decode cX8_slack 10 = .ok (.getfield 12, 3) := by decide +kernel
theorem dX8_slack_13 : decode cX8_slack 13 = .ok (.iload_n 1, 1) := by decide +kernel
theorem dX8_slack_14 : decode cX8_slack 14 = .ok (.invokevirtual 191, 3) := by decide +kernel
theorem dX8_slack_17 : decode cX8_slack 17 = .ok (.ireturn, 1) := by decide +kernel
set_option maxRecDepth 20000 in
theorem ggX8_nextByOrder_X0_nextOf : GoodIn wsX8_nextByOrder wsX0_nextOf := goodIn_r _ [7, 8, 9, 10, 11, 12, 13, 14, 15, 16, 6, 17, 18, 19, 20, 21, 22, 23, 24, 25, 26, 27, 28, 29, 30, 31, 32, 33, 34, 35, 36, 37, 38, 39, 40, 41, 42, 43, 44, 45, 46, 47, 48, 49, 59, 60, 61, 62, 63, 64, 65, 66, 67, 68, 69, 70, 71] (by decide +kernel) (by decide +kernel)
set_option maxRecDepth 20000 in
theorem gX8_nextByOrder_X0_nextOf : GoodIn wsX8_nextByOrder (wsV RX8 194 RX0 yX0_nextOf wsX0_nextOf) := goodIn_app (goodIn_of _ (by decide +kernel)) ggX8_nextByOrder_X0_nextOf
theorem dX8_nextByOrder_0 : decode cX8_nextByOrder 0 = .ok (.aload_n 0, 1) := by decide +kernel
theorem dX8_nextByOrder_1 : decode cX8_nextByOrder 1 = .ok (.getfield 19, 3) := by decide +kernel
theorem dX8_nextByOrder_4 : decode cX8_nextByOrder 4 = .ok (.aload_n 0, 1) := by decide +kernel
theorem dX8_nextByOrder_5 : decode cX8_nextByOrder 5 = .ok (.getfield 12, 3) := by decide +kernel
theorem dX8_nextByOrder_8 : decode cX8_nextByOrder 8 = .ok (.invokevirtual 194, 3) := by decide +kernel
theorem dX8_nextByOrder_11 : decode cX8_nextByOrder 11 = .ok (.ireturn, 1) := by decide +kernel
set_option maxRecDepth 20000 in
theorem ggX8_orderAhead_X8_requireRange : GoodIn wsX8_orderAhead wsX8_requireRange := goodIn_ca (goodIn_r _ [7, 8, 9] (by decide +kernel) (by decide +kernel)) (goodIn_sub (fun _ h => List.mem_cons_of_mem _ (List.mem_append_right _ h)) (by decide +kernel))
set_option maxRecDepth 20000 in
theorem gX8_orderAhead_X8_requireRange : GoodIn wsX8_orderAhead (va_wsS RX8 72 yX8_requireRange wsX8_requireRange) := goodIn_app (goodIn_of _ (by decide +kernel)) ggX8_orderAhead_X8_requireRange
set_option maxRecDepth 20000 in
theorem ggX8_orderAhead_X0_become : GoodIn wsX8_orderAhead wsX0_become := goodIn_r _ [14, 15, 16, 17, 18, 19, 20, 21, 22, 23, 24, 25, 26, 89, 90, 91, 92, 93, 94, 95, 96] (by decide +kernel) (by decide +kernel)
set_option maxRecDepth 20000 in
theorem gX8_orderAhead_X0_become : GoodIn wsX8_orderAhead (wsV RX8 198 RX0 yX0_become wsX0_become) := goodIn_app (goodIn_of _ (by decide +kernel)) ggX8_orderAhead_X0_become
set_option maxRecDepth 20000 in
theorem ggX8_orderAhead_X0_takeByOrder : GoodIn wsX8_orderAhead wsX0_takeByOrder := goodIn_r _ [30, 31, 32, 33, 13, 34, 35, 36, 37, 38, 39, 40, 41, 42, 43, 44, 22, 23, 45, 46, 47, 48, 49, 50, 51, 52, 53, 54, 55, 24, 56, 57, 58, 59, 21, 15, 60, 61, 62, 63, 64, 65, 66, 67, 68, 69, 70, 20, 71, 72, 73, 74, 25, 26, 75, 76, 77, 78, 16, 17, 18, 19, 97, 98, 99, 100, 101, 89, 90, 91, 92, 93, 94, 95, 96] (by decide +kernel) (by decide +kernel)
set_option maxRecDepth 20000 in
theorem gX8_orderAhead_X0_takeByOrder : GoodIn wsX8_orderAhead (wsV RX8 152 RX0 yX0_takeByOrder wsX0_takeByOrder) := goodIn_app (goodIn_of _ (by decide +kernel)) ggX8_orderAhead_X0_takeByOrder
set_option maxRecDepth 20000 in
theorem ggX8_orderAhead_X0_nextOf : GoodIn wsX8_orderAhead wsX0_nextOf := goodIn_r _ [34, 35, 36, 37, 38, 39, 40, 41, 42, 43, 13, 44, 22, 23, 45, 46, 47, 48, 49, 50, 51, 52, 53, 54, 55, 24, 56, 57, 58, 59, 21, 15, 60, 61, 62, 63, 64, 65, 66, 67, 68, 69, 70, 20, 97, 98, 99, 100, 101, 89, 90, 91, 92, 93, 94, 95, 96] (by decide +kernel) (by decide +kernel)
set_option maxRecDepth 20000 in
theorem gX8_orderAhead_X0_nextOf : GoodIn wsX8_orderAhead (wsV RX8 194 RX0 yX0_nextOf wsX0_nextOf) := goodIn_app (goodIn_of _ (by decide +kernel)) ggX8_orderAhead_X0_nextOf
theorem dX8_orderAhead_0 : decode cX8_orderAhead 0 = .ok (.iload_n 1, 1) := by decide +kernel
theorem dX8_orderAhead_1 : decode cX8_orderAhead 1 = .ok (.iconst 0, 1) := by decide +kernel
theorem dX8_orderAhead_2 : decode cX8_orderAhead 2 = .ok (.bipush 99, 2) := by decide +kernel
theorem dX8_orderAhead_4 : decode cX8_orderAhead 4 = .ok (.invokestatic 72, 3) := by decide +kernel
theorem dX8_orderAhead_7 : decode cX8_orderAhead 7 = .ok (.aload_n 0, 1) := by decide +kernel
theorem dX8_orderAhead_8 : decode cX8_orderAhead 8 = .ok (.getfield 23, 3) := by decide +kernel
theorem dX8_orderAhead_11 : decode cX8_orderAhead 11 = .ok (.aload_n 0, 1) := by decide +kernel
theorem dX8_orderAhead_12 : decode cX8_orderAhead 12 = .ok (.getfield 19, 3) := by decide +kernel
theorem dX8_orderAhead_15 : decode cX8_orderAhead 15 = .ok (.invokevirtual 198, 3) := by decide +kernel
theorem dX8_orderAhead_18 : decode cX8_orderAhead 18 = .ok (.aload_n 0, 1) := by decide +kernel
theorem dX8_orderAhead_19 : decode cX8_orderAhead 19 = .ok (.getfield 23, 3) := by decide +kernel
theorem dX8_orderAhead_22 : decode cX8_orderAhead 22 = .ok (.aload_n 0, 1) := by decide +kernel
theorem dX8_orderAhead_23 : decode cX8_orderAhead 23 = .ok (.getfield 12, 3) := by decide +kernel
theorem dX8_orderAhead_26 : decode cX8_orderAhead 26 = .ok (.iload_n 1, 1) := by decide +kernel
theorem dX8_orderAhead_27 : decode cX8_orderAhead 27 = .ok (.invokevirtual 152, 3) := by decide +kernel
theorem dX8_orderAhead_30 : decode cX8_orderAhead 30 = .ok (.pop, 1) := by decide +kernel
theorem dX8_orderAhead_31 : decode cX8_orderAhead 31 = .ok (.aload_n 0, 1) := by decide +kernel
theorem dX8_orderAhead_32 : decode cX8_orderAhead 32 = .ok (.getfield 23, 3) := by decide +kernel
theorem dX8_orderAhead_35 : decode cX8_orderAhead 35 = .ok (.aload_n 0, 1) := by decide +kernel
theorem dX8_orderAhead_36 : decode cX8_orderAhead 36 = .ok (.getfield 12, 3) := by decide +kernel
theorem dX8_orderAhead_39 : decode cX8_orderAhead 39 = .ok (.invokevirtual 194, 3) := by decide +kernel
theorem dX8_orderAhead_42 : decode cX8_orderAhead 42 = .ok (.ireturn, 1) := by decide +kernel
set_option maxRecDepth 20000 in
theorem ggX8_bucketsToWaste_X8_requirePoint : GoodIn wsX8_bucketsToWaste wsX8_requirePoint := goodIn_ca (goodIn_r _ [6, 7, 8, 9, 10, 11, 12, 13, 14, 15, 29, 30, 31, 32, 33, 34, 35, 36, 37, 38, 39, 40, 41, 42] (by decide +kernel) (by decide +kernel)) (goodIn_sub (fun _ h => List.mem_cons_of_mem _ (List.mem_append_left _ (List.mem_append_right _ h))) (by decide +kernel))
set_option maxRecDepth 20000 in
theorem gX8_bucketsToWaste_X8_requirePoint : GoodIn wsX8_bucketsToWaste (wsV RX8 113 RX8 yX8_requirePoint wsX8_requirePoint) := goodIn_app (goodIn_of _ (by decide +kernel)) ggX8_bucketsToWaste_X8_requirePoint
set_option maxRecDepth 20000 in
theorem ggX8_bucketsToWaste_X8_requireRange : GoodIn wsX8_bucketsToWaste wsX8_requireRange := goodIn_ca (goodIn_r _ [18, 19, 20] (by decide +kernel) (by decide +kernel)) (goodIn_sub (fun _ h => List.mem_cons_of_mem _ (List.mem_append_right _ h)) (by decide +kernel))
set_option maxRecDepth 20000 in
theorem gX8_bucketsToWaste_X8_requireRange : GoodIn wsX8_bucketsToWaste (va_wsS RX8 72 yX8_requireRange wsX8_requireRange) := goodIn_app (goodIn_of _ (by decide +kernel)) ggX8_bucketsToWaste_X8_requireRange
set_option maxRecDepth 20000 in
theorem ggX8_bucketsToWaste_X0_bucketsAboveWaste : GoodIn wsX8_bucketsToWaste wsX0_bucketsAboveWaste := goodIn_r _ [25, 26, 27, 28, 43, 44, 45, 46, 47, 48, 49, 50] (by decide +kernel) (by decide +kernel)
set_option maxRecDepth 20000 in
theorem gX8_bucketsToWaste_X0_bucketsAboveWaste : GoodIn wsX8_bucketsToWaste (wsV RX8 201 RX0 yX0_bucketsAboveWaste wsX0_bucketsAboveWaste) := goodIn_app (goodIn_of _ (by decide +kernel)) ggX8_bucketsToWaste_X0_bucketsAboveWaste
theorem dX8_bucketsToWaste_0 : decode cX8_bucketsToWaste 0 = .ok (.aload_n 0, 1) := by decide +kernel
theorem dX8_bucketsToWaste_1 : decode cX8_bucketsToWaste 1 = .ok (.iload_n 1, 1) := by decide +kernel
theorem dX8_bucketsToWaste_2 : decode cX8_bucketsToWaste 2 = .ok (.invokevirtual 113, 3) := by decide +kernel
theorem dX8_bucketsToWaste_5 : decode cX8_bucketsToWaste 5 = .ok (.iload_n 2, 1) := by decide +kernel
theorem dX8_bucketsToWaste_6 : decode cX8_bucketsToWaste 6 = .ok (.iconst 1, 1) := by decide +kernel
theorem dX8_bucketsToWaste_7 : decode cX8_bucketsToWaste 7 = .ok (.bipush 9, 2) := by decide +kernel
theorem dX8_bucketsToWaste_9 : decode cX8_bucketsToWaste 9 = .ok (.invokestatic 72, 3) := by decide +kernel
theorem dX8_bucketsToWaste_12 : decode cX8_bucketsToWaste 12 = .ok (.aload_n 0, 1) := by decide +kernel
theorem dX8_bucketsToWaste_13 : decode cX8_bucketsToWaste 13 = .ok (.getfield 19, 3) := by decide +kernel
theorem dX8_bucketsToWaste_16 : decode cX8_bucketsToWaste 16 = .ok (.iload_n 1, 1) := by decide +kernel
theorem dX8_bucketsToWaste_17 : decode cX8_bucketsToWaste 17 = .ok (.iload_n 2, 1) := by decide +kernel
theorem dX8_bucketsToWaste_18 : decode cX8_bucketsToWaste 18 = .ok (.invokevirtual 201, 3) := by decide +kernel
theorem dX8_bucketsToWaste_21 : decode cX8_bucketsToWaste 21 = .ok (.ireturn, 1) := by decide +kernel
set_option maxRecDepth 20000 in
theorem ggX8_bucketsFor_X8_requirePoint : GoodIn wsX8_bucketsFor wsX8_requirePoint := goodIn_ca (goodIn_r _ [7, 8, 9, 2, 10, 11, 12, 13, 14, 15, 53, 54, 55, 56, 57, 58, 59, 60, 61, 62, 63, 64, 65, 66] (by decide +kernel) (by decide +kernel)) (goodIn_sub (fun _ h => List.mem_cons_of_mem _ (List.mem_append_left _ (List.mem_append_right _ h))) (by decide +kernel))
set_option maxRecDepth 20000 in
theorem gX8_bucketsFor_X8_requirePoint : GoodIn wsX8_bucketsFor (wsV RX8 113 RX8 yX8_requirePoint wsX8_requirePoint) := goodIn_app (goodIn_of _ (by decide +kernel)) ggX8_bucketsFor_X8_requirePoint
set_option maxRecDepth 20000 in
theorem ggX8_bucketsFor_X8_requireRange : GoodIn wsX8_bucketsFor wsX8_requireRange := goodIn_ca (goodIn_r _ [18, 19, 20] (by decide +kernel) (by decide +kernel)) (goodIn_sub (fun _ h => List.mem_cons_of_mem _ (List.mem_append_right _ h)) (by decide +kernel))
set_option maxRecDepth 20000 in
theorem gX8_bucketsFor_X8_requireRange : GoodIn wsX8_bucketsFor (va_wsS RX8 72 yX8_requireRange wsX8_requireRange) := goodIn_app (goodIn_of _ (by decide +kernel)) ggX8_bucketsFor_X8_requireRange
set_option maxRecDepth 20000 in
theorem ggX8_bucketsFor_X0_fewestFor : GoodIn wsX8_bucketsFor wsX0_fewestFor := goodIn_r _ [25, 26, 27, 28, 29, 30, 13, 31, 15, 32, 33, 34, 35, 36, 37, 38, 39, 40, 41, 42, 43, 44, 24, 45, 46, 47, 48, 49, 50, 51, 52, 67, 68, 69, 70, 71, 72, 73, 74, 62, 63, 64, 65, 66] (by decide +kernel) (by decide +kernel)
set_option maxRecDepth 20000 in
theorem gX8_bucketsFor_X0_fewestFor : GoodIn wsX8_bucketsFor (wsV RX8 204 RX0 yX0_fewestFor wsX0_fewestFor) := goodIn_app (goodIn_of _ (by decide +kernel)) ggX8_bucketsFor_X0_fewestFor
theorem dX8_bucketsFor_0 : decode cX8_bucketsFor 0 = .ok (.aload_n 0, 1) := by decide +kernel
theorem dX8_bucketsFor_1 : decode cX8_bucketsFor 1 = .ok (.iload_n 1, 1) := by decide +kernel
theorem dX8_bucketsFor_2 : decode cX8_bucketsFor 2 = .ok (.invokevirtual 113, 3) := by decide +kernel
theorem dX8_bucketsFor_5 : decode cX8_bucketsFor 5 = .ok (.iload_n 2, 1) := by decide +kernel
theorem dX8_bucketsFor_6 : decode cX8_bucketsFor 6 = .ok (.iconst 1, 1) := by decide +kernel
theorem dX8_bucketsFor_7 : decode cX8_bucketsFor 7 = .ok (.bipush 54, 2) := by decide +kernel
theorem dX8_bucketsFor_9 : decode cX8_bucketsFor 9 = .ok (.invokestatic 72, 3) := by decide +kernel
theorem dX8_bucketsFor_12 : decode cX8_bucketsFor 12 = .ok (.aload_n 0, 1) := by decide +kernel
theorem dX8_bucketsFor_13 : decode cX8_bucketsFor 13 = .ok (.getfield 19, 3) := by decide +kernel
theorem dX8_bucketsFor_16 : decode cX8_bucketsFor 16 = .ok (.aload_n 0, 1) := by decide +kernel
theorem dX8_bucketsFor_17 : decode cX8_bucketsFor 17 = .ok (.getfield 12, 3) := by decide +kernel
theorem dX8_bucketsFor_20 : decode cX8_bucketsFor 20 = .ok (.iload_n 1, 1) := by decide +kernel
theorem dX8_bucketsFor_21 : decode cX8_bucketsFor 21 = .ok (.iload_n 2, 1) := by decide +kernel
theorem dX8_bucketsFor_22 : decode cX8_bucketsFor 22 = .ok (.invokevirtual 204, 3) := by decide +kernel
theorem dX8_bucketsFor_25 : decode cX8_bucketsFor 25 = .ok (.ireturn, 1) := by decide +kernel
set_option maxRecDepth 20000 in
theorem ggX8_mostFrom_X8_requirePoint : GoodIn wsX8_mostFrom wsX8_requirePoint := goodIn_ca (goodIn_r _ [7, 8, 9, 2, 10, 11, 12, 13, 14, 15, 52, 53, 54, 55, 56, 57, 58, 59, 60, 61, 62, 63, 64, 65] (by decide +kernel) (by decide +kernel)) (goodIn_sub (fun _ h => List.mem_cons_of_mem _ (List.mem_append_right _ h)) (by decide +kernel))
set_option maxRecDepth 20000 in
theorem gX8_mostFrom_X8_requirePoint : GoodIn wsX8_mostFrom (wsV RX8 113 RX8 yX8_requirePoint wsX8_requirePoint) := goodIn_app (goodIn_of _ (by decide +kernel)) ggX8_mostFrom_X8_requirePoint
set_option maxRecDepth 20000 in
theorem ggX8_mostFrom_X0_mostFeasible : GoodIn wsX8_mostFrom wsX0_mostFeasible := goodIn_r _ [20, 21, 22, 23, 19, 24, 25, 26, 27, 28, 29, 13, 30, 15, 31, 32, 33, 34, 35, 36, 37, 38, 39, 40, 41, 42, 43, 44, 45, 46, 47, 48, 49, 50, 51, 66, 67, 68, 69, 70, 71, 72, 73, 61, 62, 63, 64, 65] (by decide +kernel) (by decide +kernel)
set_option maxRecDepth 20000 in
theorem gX8_mostFrom_X0_mostFeasible : GoodIn wsX8_mostFrom (wsV RX8 208 RX0 yX0_mostFeasible wsX0_mostFeasible) := goodIn_app (goodIn_of _ (by decide +kernel)) ggX8_mostFrom_X0_mostFeasible
theorem dX8_mostFrom_0 : decode cX8_mostFrom 0 = .ok (.aload_n 0, 1) := by decide +kernel
theorem dX8_mostFrom_1 : decode cX8_mostFrom 1 = .ok (.iload_n 1, 1) := by decide +kernel
theorem dX8_mostFrom_2 : decode cX8_mostFrom 2 = .ok (.invokevirtual 113, 3) := by decide +kernel
theorem dX8_mostFrom_5 : decode cX8_mostFrom 5 = .ok (.aload_n 0, 1) := by decide +kernel
theorem dX8_mostFrom_6 : decode cX8_mostFrom 6 = .ok (.getfield 19, 3) := by decide +kernel
theorem dX8_mostFrom_9 : decode cX8_mostFrom 9 = .ok (.aload_n 0, 1) := by decide +kernel
theorem dX8_mostFrom_10 : decode cX8_mostFrom 10 = .ok (.getfield 12, 3) := by decide +kernel
theorem dX8_mostFrom_13 : decode cX8_mostFrom 13 = .ok (.iload_n 1, 1) := by decide +kernel
theorem dX8_mostFrom_14 : decode cX8_mostFrom 14 = .ok (.invokevirtual 208, 3) := by decide +kernel
theorem dX8_mostFrom_17 : decode cX8_mostFrom 17 = .ok (.ireturn, 1) := by decide +kernel
set_option maxRecDepth 20000 in
theorem ggX8_bestSequence_X8_requireRange : GoodIn wsX8_bestSequence wsX8_requireRange := goodIn_ca (goodIn_r _ [7, 8, 9] (by decide +kernel) (by decide +kernel)) (goodIn_sub (fun _ h => List.mem_cons_of_mem _ (List.mem_append_right _ h)) (by decide +kernel))
set_option maxRecDepth 20000 in
theorem gX8_bestSequence_X8_requireRange : GoodIn wsX8_bestSequence (va_wsS RX8 72 yX8_requireRange wsX8_requireRange) := goodIn_app (goodIn_of _ (by decide +kernel)) ggX8_bestSequence_X8_requireRange
set_option maxRecDepth 20000 in
theorem ggX8_bestSequence_X6_run : GoodIn wsX8_bestSequence wsX6_run := goodIn_r _ [14, 15, 16, 17, 18, 19, 20, 21, 22, 23, 24, 25, 26, 27, 28, 29, 30, 31, 32, 33, 34, 35, 36, 37, 38, 39, 40, 41, 13, 42, 43, 44, 45, 46, 47, 48, 49, 50, 51, 52, 53, 54, 55, 56, 57, 58, 59, 60, 61, 62, 63, 64, 65, 66, 67, 68, 69, 70, 71, 72, 73, 74, 75, 76, 77, 78, 79, 80, 81, 82, 83, 84, 85, 86, 87, 88, 89, 90, 91, 92, 93, 94, 95, 96, 97, 98, 116, 117, 118, 119, 120, 121, 122, 123, 124, 125, 126, 127, 128, 129, 130, 131, 132, 133, 134, 135, 136, 137] (by decide +kernel) (by decide +kernel)
set_option maxRecDepth 20000 in
theorem gX8_bestSequence_X6_run : GoodIn wsX8_bestSequence (wsV RX8 211 RX6 yX6_run wsX6_run) := goodIn_app (goodIn_of _ (by decide +kernel)) ggX8_bestSequence_X6_run
set_option maxRecDepth 20000 in
theorem ggX8_bestSequence_X6_sum : GoodIn wsX8_bestSequence wsX6_sum := goodIn_r _ [102, 21, 116, 117, 118, 119, 120, 121, 122, 123, 124] (by decide +kernel) (by decide +kernel)
set_option maxRecDepth 20000 in
theorem gX8_bestSequence_X6_sum : GoodIn wsX8_bestSequence (wsV RX8 215 RX6 yX6_sum wsX6_sum) := goodIn_app (goodIn_of _ (by decide +kernel)) ggX8_bestSequence_X6_sum
set_option maxRecDepth 20000 in
theorem ggX8_bestSequence_X6_point : GoodIn wsX8_bestSequence wsX6_point := goodIn_r _ [106, 19, 22, 116, 117, 118, 119, 120, 121, 122, 123, 124] (by decide +kernel) (by decide +kernel)
set_option maxRecDepth 20000 in
theorem gX8_bestSequence_X6_point : GoodIn wsX8_bestSequence (wsV RX8 218 RX6 yX6_point wsX6_point) := goodIn_app (goodIn_of _ (by decide +kernel)) ggX8_bestSequence_X6_point
theorem dX8_bestSequence_0 : decode cX8_bestSequence 0 = .ok (.iload_n 1, 1) := by decide +kernel
theorem dX8_bestSequence_1 : decode cX8_bestSequence 1 = .ok (.iconst 1, 1) := by decide +kernel
theorem dX8_bestSequence_2 : decode cX8_bestSequence 2 = .ok (.iconst 4, 1) := by decide +kernel
theorem dX8_bestSequence_3 : decode cX8_bestSequence 3 = .ok (.invokestatic 72, 3) := by decide +kernel
theorem dX8_bestSequence_6 : decode cX8_bestSequence 6 = .ok (.iload_n 2, 1) := by decide +kernel
theorem dX8_bestSequence_7 : decode cX8_bestSequence 7 = .ok (.iconst 0, 1) := by decide +kernel
theorem dX8_bestSequence_8 : decode cX8_bestSequence 8 = .ok (.iload_n 1, 1) := by decide +kernel
theorem dX8_bestSequence_9 : decode cX8_bestSequence 9 = .ok (.invokestatic 72, 3) := by decide +kernel
theorem dX8_bestSequence_12 : decode cX8_bestSequence 12 = .ok (.aload_n 0, 1) := by decide +kernel
theorem dX8_bestSequence_13 : decode cX8_bestSequence 13 = .ok (.getfield 50, 3) := by decide +kernel
theorem dX8_bestSequence_16 : decode cX8_bestSequence 16 = .ok (.aload_n 0, 1) := by decide +kernel
theorem dX8_bestSequence_17 : decode cX8_bestSequence 17 = .ok (.getfield 12, 3) := by decide +kernel
theorem dX8_bestSequence_20 : decode cX8_bestSequence 20 = .ok (.aload_n 0, 1) := by decide +kernel
theorem dX8_bestSequence_21 : decode cX8_bestSequence 21 = .ok (.getfield 19, 3) := by decide +kernel
theorem dX8_bestSequence_24 : decode cX8_bestSequence 24 = .ok (.iload_n 1, 1) := by decide +kernel
theorem dX8_bestSequence_25 : decode cX8_bestSequence 25 = .ok (.invokevirtual 211, 3) := by decide +kernel
theorem dX8_bestSequence_28 : decode cX8_bestSequence 28 = .ok (.iload_n 2, 1) := by decide +kernel
theorem dX8_bestSequence_29 : decode cX8_bestSequence 29 = .ok (.iload_n 1, 1) := by decide +kernel
theorem dX8_bestSequence_30 : decode cX8_bestSequence 30 = .ok (.if_icmp .ne 13, 3) := by decide +kernel
theorem dX8_bestSequence_33 : decode cX8_bestSequence 33 = .ok (.aload_n 0, 1) := by decide +kernel
theorem dX8_bestSequence_34 : decode cX8_bestSequence 34 = .ok (.getfield 50, 3) := by decide +kernel
theorem dX8_bestSequence_37 : decode cX8_bestSequence 37 = .ok (.invokevirtual 215, 3) := by decide +kernel
theorem dX8_bestSequence_40 : decode cX8_bestSequence 40 = .ok (.goto 11, 3) := by decide +kernel
theorem dX8_bestSequence_43 : decode cX8_bestSequence 43 = .ok (.aload_n 0, 1) := by decide +kernel
theorem dX8_bestSequence_44 : decode cX8_bestSequence 44 = .ok (.getfield 50, 3) := by decide +kernel
theorem dX8_bestSequence_47 : decode cX8_bestSequence 47 = .ok (.iload_n 2, 1) := by decide +kernel
theorem dX8_bestSequence_48 : decode cX8_bestSequence 48 = .ok (.invokevirtual 218, 3) := by decide +kernel
theorem dX8_bestSequence_51 : decode cX8_bestSequence 51 = .ok (.ireturn, 1) := by decide +kernel
set_option maxRecDepth 20000 in
theorem ggX8_origins_X8_requireRange : GoodIn wsX8_origins wsX8_requireRange := goodIn_ca (goodIn_r _ [9, 1, 2] (by decide +kernel) (by decide +kernel)) (goodIn_sub (fun _ h => List.mem_cons_of_mem _ (List.mem_append_right _ h)) (by decide +kernel))
set_option maxRecDepth 20000 in
theorem gX8_origins_X8_requireRange : GoodIn wsX8_origins (va_wsS RX8 72 yX8_requireRange wsX8_requireRange) := goodIn_app (goodIn_of _ (by decide +kernel)) ggX8_origins_X8_requireRange
set_option maxRecDepth 20000 in
theorem ggX8_origins_X3_split : GoodIn wsX8_origins wsX3_split := goodIn_r _ [14, 15, 16, 56, 57] (by decide +kernel) (by decide +kernel)
set_option maxRecDepth 20000 in
theorem gX8_origins_X3_split : GoodIn wsX8_origins (wsV RX8 221 RX3 yX3_split wsX3_split) := goodIn_app (goodIn_of _ (by decide +kernel)) ggX8_origins_X3_split
set_option maxRecDepth 20000 in
theorem ggX8_origins_X0_pointsThatBegin : GoodIn wsX8_origins wsX0_pointsThatBegin := goodIn_r _ [21, 22, 23, 24, 25, 26, 27, 28, 29, 30, 20, 31, 32, 33, 34, 13, 35, 16, 36, 37, 38, 39, 40, 41, 42, 43, 44, 45, 46, 15, 58, 59, 60, 61, 62, 56, 57, 63, 64, 65, 66, 67, 68, 69, 70] (by decide +kernel) (by decide +kernel)
set_option maxRecDepth 20000 in
theorem gX8_origins_X0_pointsThatBegin : GoodIn wsX8_origins (wsV RX8 230 RX0 yX0_pointsThatBegin wsX0_pointsThatBegin) := goodIn_app (goodIn_of _ (by decide +kernel)) ggX8_origins_X0_pointsThatBegin
theorem dX8_origins_0 : decode cX8_origins 0 = .ok (.iload_n 1, 1) := by decide +kernel
theorem dX8_origins_1 : decode cX8_origins 1 = .ok (.iconst 1, 1) := by decide +kernel
theorem dX8_origins_2 : decode cX8_origins 2 = .ok (.bipush 9, 2) := by decide +kernel
theorem dX8_origins_4 : decode cX8_origins 4 = .ok (.invokestatic 72, 3) := by decide +kernel
theorem dX8_origins_7 : decode cX8_origins 7 = .ok (.aload_n 0, 1) := by decide +kernel
theorem dX8_origins_8 : decode cX8_origins 8 = .ok (.getfield 57, 3) := by decide +kernel
theorem dX8_origins_11 : decode cX8_origins 11 = .ok (.iload_n 2, 1) := by decide +kernel
theorem dX8_origins_12 : decode cX8_origins 12 = .ok (.i2l, 1) := by decide +kernel
theorem dX8_origins_13 : decode cX8_origins 13 = .ok (.iload_n 1, 1) := by decide +kernel
theorem dX8_origins_14 : decode cX8_origins 14 = .ok (.bipush 10, 2) := by decide +kernel
theorem dX8_origins_16 : decode cX8_origins 16 = .ok (.invokevirtual 221, 3) := by decide +kernel
theorem dX8_origins_19 : decode cX8_origins 19 = .ok (.ifCond .ne 13, 3) := by decide +kernel
theorem dX8_origins_22 : decode cX8_origins 22 = .ok (.new 225, 3) := by decide +kernel
theorem dX8_origins_25 : decode cX8_origins 25 = .ok (.dup, 1) := by decide +kernel
theorem dX8_origins_26 : decode cX8_origins 26 = .ok (.ldc 227, 2) := by decide +kernel
theorem dX8_origins_28 : decode cX8_origins 28 = .ok (.invokespecial 229, 3) := by decide +kernel
theorem dX8_origins_31 : decode cX8_origins 31 = .ok (.athrow, 1) := by decide +kernel
theorem dX8_origins_32 : decode cX8_origins 32 = .ok (.aload_n 0, 1) := by decide +kernel
theorem dX8_origins_33 : decode cX8_origins 33 = .ok (.getfield 19, 3) := by decide +kernel
theorem dX8_origins_36 : decode cX8_origins 36 = .ok (.aload_n 0, 1) := by decide +kernel
theorem dX8_origins_37 : decode cX8_origins 37 = .ok (.getfield 12, 3) := by decide +kernel
theorem dX8_origins_40 : decode cX8_origins 40 = .ok (.aload_n 0, 1) := by decide +kernel
theorem dX8_origins_41 : decode cX8_origins 41 = .ok (.getfield 57, 3) := by decide +kernel
theorem dX8_origins_44 : decode cX8_origins 44 = .ok (.invokevirtual 230, 3) := by decide +kernel
theorem dX8_origins_47 : decode cX8_origins 47 = .ok (.ireturn, 1) := by decide +kernel
set_option maxRecDepth 20000 in
theorem ggX8_runScript_X8_requireRange : GoodIn wsX8_runScript wsX8_requireRange := goodIn_ca (goodIn_r _ [10, 1, 2] (by decide +kernel) (by decide +kernel)) (goodIn_sub (fun _ h => List.mem_cons_of_mem _ (List.mem_append_right _ h)) (by decide +kernel))
set_option maxRecDepth 20000 in
theorem gX8_runScript_X8_requireRange : GoodIn wsX8_runScript (va_wsS RX8 72 yX8_requireRange wsX8_requireRange) := goodIn_app (goodIn_of _ (by decide +kernel)) ggX8_runScript_X8_requireRange
set_option maxRecDepth 20000 in
theorem ggX8_runScript_X3_split : GoodIn wsX8_runScript wsX3_split := goodIn_r _ [15, 16, 17, 133, 134] (by decide +kernel) (by decide +kernel)
set_option maxRecDepth 20000 in
theorem gX8_runScript_X3_split : GoodIn wsX8_runScript (wsV RX8 221 RX3 yX3_split wsX3_split) := goodIn_app (goodIn_of _ (by decide +kernel)) ggX8_runScript_X3_split
set_option maxRecDepth 20000 in
theorem ggX8_runScript_X0_become : GoodIn wsX8_runScript wsX0_become := goodIn_r _ [22, 23, 24, 25, 26, 27, 28, 29, 30, 31, 32, 33, 34, 135, 136, 137, 138, 139, 140, 141, 142] (by decide +kernel) (by decide +kernel)
set_option maxRecDepth 20000 in
theorem gX8_runScript_X0_become : GoodIn wsX8_runScript (wsV RX8 198 RX0 yX0_become wsX0_become) := goodIn_app (goodIn_of _ (by decide +kernel)) ggX8_runScript_X0_become
set_option maxRecDepth 20000 in
theorem ggX8_runScript_X5_firstFailure : GoodIn wsX8_runScript wsX5_firstFailure := goodIn_r _ [38, 39, 40, 41, 14, 42, 17, 43, 44, 45, 46, 16, 47, 48, 37, 49, 50, 51, 52, 21, 53, 54, 55, 56, 57, 58, 59, 60, 61, 62, 63, 64, 65, 66, 67, 30, 31, 68, 69, 70, 71, 72, 73, 74, 75, 76, 77, 78, 32, 79, 80, 81, 82, 29, 23, 83, 84, 85, 86, 87, 88, 89, 90, 91, 92, 93, 28, 94, 95, 96, 97, 33, 34, 98, 99, 100, 101, 24, 25, 26, 27, 102, 103, 104, 105, 106, 107, 108, 109, 110, 111, 112, 113, 114, 115, 116, 117, 118, 119, 120, 121, 122, 123, 133, 134, 143, 144, 145, 146, 147, 135, 136, 137, 138, 139, 140, 141, 142] (by decide +kernel) (by decide +kernel)
set_option maxRecDepth 20000 in
theorem gX8_runScript_X5_firstFailure : GoodIn wsX8_runScript (va_wsS RX8 236 yX5_firstFailure wsX5_firstFailure) := goodIn_app (goodIn_of _ (by decide +kernel)) ggX8_runScript_X5_firstFailure
theorem dX8_runScript_0 : decode cX8_runScript 0 = .ok (.iload_n 1, 1) := by decide +kernel
theorem dX8_runScript_1 : decode cX8_runScript 1 = .ok (.iconst 1, 1) := by decide +kernel
theorem dX8_runScript_2 : decode cX8_runScript 2 = .ok (.iconst 4, 1) := by decide +kernel
theorem dX8_runScript_3 : decode cX8_runScript 3 = .ok (.invokestatic 72, 3) := by decide +kernel
theorem dX8_runScript_6 : decode cX8_runScript 6 = .ok (.aload_n 0, 1) := by decide +kernel
theorem dX8_runScript_7 : decode cX8_runScript 7 = .ok (.getfield 61, 3) := by decide +kernel
theorem dX8_runScript_10 : decode cX8_runScript 10 = .ok (.lload_n 2, 1) := by decide +kernel
theorem dX8_runScript_11 : decode cX8_runScript 11 = .ok (.iload_n 1, 1) := by decide +kernel
theorem dX8_runScript_12 : decode cX8_runScript 12 = .ok (.sipush 10000, 3) := by decide +kernel
theorem dX8_runScript_15 : decode cX8_runScript 15 = .ok (.invokevirtual 221, 3) := by decide +kernel
theorem dX8_runScript_18 : decode cX8_runScript 18 = .ok (.ifCond .ne 13, 3) := by decide +kernel
theorem dX8_runScript_21 : decode cX8_runScript 21 = .ok (.new 225, 3) := by decide +kernel
theorem dX8_runScript_24 : decode cX8_runScript 24 = .ok (.dup, 1) := by decide +kernel
theorem dX8_runScript_25 : decode cX8_runScript 25 = .ok (.ldc 234, 2) := by decide +kernel
theorem dX8_runScript_27 : decode cX8_runScript 27 = .ok (.invokespecial 229, 3) := by decide +kernel
theorem dX8_runScript_30 : decode cX8_runScript 30 = .ok (.athrow, 1) := by decide +kernel
theorem dX8_runScript_31 : decode cX8_runScript 31 = .ok (.aload_n 0, 1) := by decide +kernel
theorem dX8_runScript_32 : decode cX8_runScript 32 = .ok (.getfield 23, 3) := by decide +kernel
theorem dX8_runScript_35 : decode cX8_runScript 35 = .ok (.aload_n 0, 1) := by decide +kernel
theorem dX8_runScript_36 : decode cX8_runScript 36 = .ok (.getfield 19, 3) := by decide +kernel
theorem dX8_runScript_39 : decode cX8_runScript 39 = .ok (.invokevirtual 198, 3) := by decide +kernel
theorem dX8_runScript_42 : decode cX8_runScript 42 = .ok (.aload_n 0, 1) := by decide +kernel
theorem dX8_runScript_43 : decode cX8_runScript 43 = .ok (.getfield 12, 3) := by decide +kernel
theorem dX8_runScript_46 : decode cX8_runScript 46 = .ok (.aload_n 0, 1) := by decide +kernel
theorem dX8_runScript_47 : decode cX8_runScript 47 = .ok (.getfield 23, 3) := by decide +kernel
theorem dX8_runScript_50 : decode cX8_runScript 50 = .ok (.aload_n 0, 1) := by decide +kernel
theorem dX8_runScript_51 : decode cX8_runScript 51 = .ok (.getfield 61, 3) := by decide +kernel
theorem dX8_runScript_54 : decode cX8_runScript 54 = .ok (.invokestatic 236, 3) := by decide +kernel
theorem dX8_runScript_57 : decode cX8_runScript 57 = .ok (.ireturn, 1) := by decide +kernel
set_option maxRecDepth 20000 in
theorem ggX8_simulate_X8_requireRange : GoodIn wsX8_simulate wsX8_requireRange := goodIn_ca (goodIn_r _ [9, 10, 11] (by decide +kernel) (by decide +kernel)) (goodIn_sub (fun _ h => List.mem_cons_of_mem _ (List.mem_append_right _ h)) (by decide +kernel))
set_option maxRecDepth 20000 in
theorem gX8_simulate_X8_requireRange : GoodIn wsX8_simulate (va_wsS RX8 72 yX8_requireRange wsX8_requireRange) := goodIn_app (goodIn_of _ (by decide +kernel)) ggX8_simulate_X8_requireRange
set_option maxRecDepth 20000 in
theorem ggX8_simulate_X0_become : GoodIn wsX8_simulate wsX0_become := goodIn_r _ [16, 17, 18, 19, 20, 21, 22, 23, 24, 25, 26, 27, 28, 102, 103, 104, 105, 106, 107, 108, 109] (by decide +kernel) (by decide +kernel)
set_option maxRecDepth 20000 in
theorem gX8_simulate_X0_become : GoodIn wsX8_simulate (wsV RX8 198 RX0 yX0_become wsX0_become) := goodIn_app (goodIn_of _ (by decide +kernel)) ggX8_simulate_X0_become
set_option maxRecDepth 20000 in
theorem ggX8_simulate_X0_playRound : GoodIn wsX8_simulate wsX0_playRound := goodIn_r _ [32, 33, 34, 35, 36, 37, 38, 39, 40, 41, 15, 42, 26, 43, 44, 45, 46, 47, 48, 49, 50, 51, 52, 53, 54, 24, 25, 55, 56, 57, 58, 59, 60, 61, 62, 63, 64, 65, 66, 67, 68, 69, 23, 17, 70, 71, 72, 73, 74, 75, 76, 77, 78, 79, 80, 22, 81, 82, 83, 84, 27, 28, 85, 86, 87, 88, 18, 19, 20, 21, 110, 111, 112, 113, 114, 102, 103, 104, 105, 106, 107, 108, 109] (by decide +kernel) (by decide +kernel)
set_option maxRecDepth 20000 in
theorem gX8_simulate_X0_playRound : GoodIn wsX8_simulate (wsV RX8 246 RX0 yX0_playRound wsX0_playRound) := goodIn_app (goodIn_of _ (by decide +kernel)) ggX8_simulate_X0_playRound
set_option maxRecDepth 20000 in
theorem ggX8_simulate_X0_gradeSum : GoodIn wsX8_simulate wsX0_gradeSum := goodIn_r _ [92, 28, 102, 103, 104, 105, 106, 107, 108, 109] (by decide +kernel) (by decide +kernel)
set_option maxRecDepth 20000 in
theorem gX8_simulate_X0_gradeSum : GoodIn wsX8_simulate (wsV RX8 136 RX0 yX0_gradeSum wsX0_gradeSum) := goodIn_app (goodIn_of _ (by decide +kernel)) ggX8_simulate_X0_gradeSum
theorem dX8_simulate_0 : decode cX8_simulate 0 = .ok (.iload_n 3, 1) := by decide +kernel
theorem dX8_simulate_1 : decode cX8_simulate 1 = .ok (.iconst 1, 1) := by decide +kernel
theorem dX8_simulate_2 : decode cX8_simulate 2 = .ok (.bipush 100, 2) := by decide +kernel
theorem dX8_simulate_4 : decode cX8_simulate 4 = .ok (.invokestatic 72, 3) := by decide +kernel
theorem dX8_simulate_7 : decode cX8_simulate 7 = .ok (.aload_n 0, 1) := by decide +kernel
theorem dX8_simulate_8 : decode cX8_simulate 8 = .ok (.getfield 23, 3) := by decide +kernel
theorem dX8_simulate_11 : decode cX8_simulate 11 = .ok (.aload_n 0, 1) := by decide +kernel
theorem dX8_simulate_12 : decode cX8_simulate 12 = .ok (.getfield 19, 3) := by decide +kernel
theorem dX8_simulate_15 : decode cX8_simulate 15 = .ok (.invokevirtual 198, 3) := by decide +kernel
theorem dX8_simulate_18 : decode cX8_simulate 18 = .ok (.lload_n 1, 1) := by decide +kernel
theorem dX8_simulate_19 : decode cX8_simulate 19 = .ok (.lstore 4, 2) := by decide +kernel
theorem dX8_simulate_21 : decode cX8_simulate 21 = .ok (.iconst 0, 1) := by decide +kernel
theorem dX8_simulate_22 : decode cX8_simulate 22 = .ok (.istore 6, 2) := by decide +kernel
theorem dX8_simulate_24 : decode cX8_simulate 24 = .ok (.iload 6, 2) := by decide +kernel
theorem dX8_simulate_26 : decode cX8_simulate 26 = .ok (.iload_n 3, 1) := by decide +kernel
theorem dX8_simulate_27 : decode cX8_simulate 27 = .ok (.if_icmp .ge 38, 3) := by decide +kernel
theorem dX8_simulate_30 : decode cX8_simulate 30 = .ok (.lload 4, 2) := by decide +kernel
theorem dX8_simulate_32 : decode cX8_simulate 32 = .ok (.ldc2_w 242, 3) := by decide +kernel
theorem dX8_simulate_35 : decode cX8_simulate 35 = .ok (.lmul, 1) := by decide +kernel
theorem dX8_simulate_36 : decode cX8_simulate 36 = .ok (.ldc2_w 244, 3) := by decide +kernel
theorem dX8_simulate_39 : decode cX8_simulate 39 = .ok (.ladd, 1) := by decide +kernel
theorem dX8_simulate_40 : decode cX8_simulate 40 = .ok (.lstore 4, 2) := by decide +kernel
theorem dX8_simulate_42 : decode cX8_simulate 42 = .ok (.aload_n 0, 1) := by decide +kernel
theorem dX8_simulate_43 : decode cX8_simulate 43 = .ok (.getfield 23, 3) := by decide +kernel
theorem dX8_simulate_46 : decode cX8_simulate 46 = .ok (.aload_n 0, 1) := by decide +kernel
theorem dX8_simulate_47 : decode cX8_simulate 47 = .ok (.getfield 12, 3) := by decide +kernel
theorem dX8_simulate_50 : decode cX8_simulate 50 = .ok (.lload 4, 2) := by decide +kernel
theorem dX8_simulate_52 : decode cX8_simulate 52 = .ok (.bipush 33, 2) := by decide +kernel
theorem dX8_simulate_54 : decode cX8_simulate 54 = .ok (.lushr, 1) := by decide +kernel
theorem dX8_simulate_55 : decode cX8_simulate 55 = .ok (.l2i, 1) := by decide +kernel
theorem dX8_simulate_56 : decode cX8_simulate 56 = .ok (.invokevirtual 246, 3) := by decide +kernel
theorem dX8_simulate_59 : decode cX8_simulate 59 = .ok (.iinc 6 1, 3) := by decide +kernel
theorem dX8_simulate_62 : decode cX8_simulate 62 = .ok (.goto (-38), 3) := by decide +kernel
theorem dX8_simulate_65 : decode cX8_simulate 65 = .ok (.aload_n 0, 1) := by decide +kernel
theorem dX8_simulate_66 : decode cX8_simulate 66 = .ok (.getfield 23, 3) := by decide +kernel
theorem dX8_simulate_69 : decode cX8_simulate 69 = .ok (.invokevirtual 136, 3) := by decide +kernel
theorem dX8_simulate_72 : decode cX8_simulate 72 = .ok (.aload_n 0, 1) := by decide +kernel
theorem dX8_simulate_73 : decode cX8_simulate 73 = .ok (.getfield 19, 3) := by decide +kernel
theorem dX8_simulate_76 : decode cX8_simulate 76 = .ok (.invokevirtual 136, 3) := by decide +kernel
theorem dX8_simulate_79 : decode cX8_simulate 79 = .ok (.isub, 1) := by decide +kernel
theorem dX8_simulate_80 : decode cX8_simulate 80 = .ok (.ireturn, 1) := by decide +kernel
set_option maxRecDepth 20000 in
theorem ggX8_save_X8_requireSlot : GoodIn wsX8_save wsX8_requireSlot := goodIn_ca (goodIn_r _ [6, 7, 8] (by decide +kernel) (by decide +kernel)) (goodIn_sub (fun _ h => List.mem_cons_of_mem _ (List.mem_append_right _ h)) (by decide +kernel))
set_option maxRecDepth 20000 in
theorem gX8_save_X8_requireSlot : GoodIn wsX8_save (va_wsS RX8 250 yX8_requireSlot wsX8_requireSlot) := goodIn_app (goodIn_of _ (by decide +kernel)) ggX8_save_X8_requireSlot
set_option maxRecDepth 20000 in
theorem ggX8_save_X7_store : GoodIn wsX8_save wsX7_store := goodIn_r _ [13, 14, 15, 16, 17, 18, 19, 20, 21, 22, 23, 24, 25, 26, 27, 28, 29, 30, 31, 32, 46, 47, 48, 49, 50, 51, 52, 53, 54, 55] (by decide +kernel) (by decide +kernel)
set_option maxRecDepth 20000 in
theorem gX8_save_X7_store : GoodIn wsX8_save (wsV RX8 253 RX7 yX7_store wsX7_store) := goodIn_app (goodIn_of _ (by decide +kernel)) ggX8_save_X7_store
set_option maxRecDepth 20000 in
theorem ggX8_save_X0_bucketSum : GoodIn wsX8_save wsX0_bucketSum := goodIn_r _ [36, 31, 48, 49, 50, 51, 52, 53, 54, 55] (by decide +kernel) (by decide +kernel)
set_option maxRecDepth 20000 in
theorem gX8_save_X0_bucketSum : GoodIn wsX8_save (wsV RX8 133 RX0 yX0_bucketSum wsX0_bucketSum) := goodIn_app (goodIn_of _ (by decide +kernel)) ggX8_save_X0_bucketSum
theorem dX8_save_0 : decode cX8_save 0 = .ok (.iload_n 1, 1) := by decide +kernel
theorem dX8_save_1 : decode cX8_save 1 = .ok (.invokestatic 250, 3) := by decide +kernel
theorem dX8_save_4 : decode cX8_save 4 = .ok (.aload_n 0, 1) := by decide +kernel
theorem dX8_save_5 : decode cX8_save 5 = .ok (.getfield 43, 3) := by decide +kernel
theorem dX8_save_8 : decode cX8_save 8 = .ok (.iload_n 1, 1) := by decide +kernel
theorem dX8_save_9 : decode cX8_save 9 = .ok (.aload_n 0, 1) := by decide +kernel
theorem dX8_save_10 : decode cX8_save 10 = .ok (.getfield 19, 3) := by decide +kernel
theorem dX8_save_13 : decode cX8_save 13 = .ok (.invokevirtual 253, 3) := by decide +kernel
theorem dX8_save_16 : decode cX8_save 16 = .ok (.aload_n 0, 1) := by decide +kernel
theorem dX8_save_17 : decode cX8_save 17 = .ok (.getfield 19, 3) := by decide +kernel
theorem dX8_save_20 : decode cX8_save 20 = .ok (.invokevirtual 133, 3) := by decide +kernel
theorem dX8_save_23 : decode cX8_save 23 = .ok (.ireturn, 1) := by decide +kernel
set_option maxRecDepth 20000 in
theorem ggX8_restore_X8_requireSlot : GoodIn wsX8_restore wsX8_requireSlot := goodIn_ca (goodIn_r _ [9, 10, 11] (by decide +kernel) (by decide +kernel)) (goodIn_sub (fun _ h => List.mem_cons_of_mem _ (List.mem_append_right _ h)) (by decide +kernel))
set_option maxRecDepth 20000 in
theorem gX8_restore_X8_requireSlot : GoodIn wsX8_restore (va_wsS RX8 250 yX8_requireSlot wsX8_requireSlot) := goodIn_app (goodIn_of _ (by decide +kernel)) ggX8_restore_X8_requireSlot
set_option maxRecDepth 20000 in
theorem ggX8_restore_X7_isFilled : GoodIn wsX8_restore wsX7_isFilled := goodIn_r _ [16, 17, 60, 61] (by decide +kernel) (by decide +kernel)
set_option maxRecDepth 20000 in
theorem gX8_restore_X7_isFilled : GoodIn wsX8_restore (wsV RX8 257 RX7 yX7_isFilled wsX7_isFilled) := goodIn_app (goodIn_of _ (by decide +kernel)) ggX8_restore_X7_isFilled
set_option maxRecDepth 20000 in
theorem ggX8_restore_X7_fetch : GoodIn wsX8_restore wsX7_fetch := goodIn_r _ [21, 22, 23, 24, 25, 26, 27, 28, 29, 30, 31, 32, 33, 34, 35, 36, 37, 38, 39, 60, 61, 62, 63, 64, 65, 66, 67, 68, 69] (by decide +kernel) (by decide +kernel)
set_option maxRecDepth 20000 in
theorem gX8_restore_X7_fetch : GoodIn wsX8_restore (wsV RX8 262 RX7 yX7_fetch wsX7_fetch) := goodIn_app (goodIn_of _ (by decide +kernel)) ggX8_restore_X7_fetch
set_option maxRecDepth 20000 in
theorem ggX8_restore_X4_forget : GoodIn wsX8_restore wsX4_forget := goodIn_r _ [44, 45, 46, 70, 71, 72] (by decide +kernel) (by decide +kernel)
set_option maxRecDepth 20000 in
theorem gX8_restore_X4_forget : GoodIn wsX8_restore (wsV RX8 103 RX4 yX4_forget wsX4_forget) := goodIn_app (goodIn_of _ (by decide +kernel)) ggX8_restore_X4_forget
set_option maxRecDepth 20000 in
theorem ggX8_restore_X0_bucketSum : GoodIn wsX8_restore wsX0_bucketSum := goodIn_r _ [50, 38, 62, 63, 64, 65, 66, 67, 68, 69] (by decide +kernel) (by decide +kernel)
set_option maxRecDepth 20000 in
theorem gX8_restore_X0_bucketSum : GoodIn wsX8_restore (wsV RX8 133 RX0 yX0_bucketSum wsX0_bucketSum) := goodIn_app (goodIn_of _ (by decide +kernel)) ggX8_restore_X0_bucketSum
theorem dX8_restore_0 : decode cX8_restore 0 = .ok (.iload_n 1, 1) := by decide +kernel
theorem dX8_restore_1 : decode cX8_restore 1 = .ok (.invokestatic 250, 3) := by decide +kernel
theorem dX8_restore_4 : decode cX8_restore 4 = .ok (.aload_n 0, 1) := by decide +kernel
theorem dX8_restore_5 : decode cX8_restore 5 = .ok (.getfield 43, 3) := by decide +kernel
theorem dX8_restore_8 : decode cX8_restore 8 = .ok (.iload_n 1, 1) := by decide +kernel
theorem dX8_restore_9 : decode cX8_restore 9 = .ok (.invokevirtual 257, 3) := by decide +kernel
theorem dX8_restore_12 : decode cX8_restore 12 = .ok (.ifCond .ne 14, 3) := by decide +kernel
theorem dX8_restore_15 : decode cX8_restore 15 = .ok (.new 80, 3) := by decide +kernel
theorem dX8_restore_18 : decode cX8_restore 18 = .ok (.dup, 1) := by decide +kernel
theorem dX8_restore_19 : decode cX8_restore 19 = .ok (.ldc_w 260, 3) := by decide +kernel
theorem dX8_restore_22 : decode cX8_restore 22 = .ok (.invokespecial 84, 3) := by decide +kernel
theorem dX8_restore_25 : decode cX8_restore 25 = .ok (.athrow, 1) := by decide +kernel
theorem dX8_restore_26 : decode cX8_restore 26 = .ok (.aload_n 0, 1) := by decide +kernel
theorem dX8_restore_27 : decode cX8_restore 27 = .ok (.getfield 43, 3) := by decide +kernel
theorem dX8_restore_30 : decode cX8_restore 30 = .ok (.iload_n 1, 1) := by decide +kernel
theorem dX8_restore_31 : decode cX8_restore 31 = .ok (.aload_n 0, 1) := by decide +kernel
theorem dX8_restore_32 : decode cX8_restore 32 = .ok (.getfield 19, 3) := by decide +kernel
theorem dX8_restore_35 : decode cX8_restore 35 = .ok (.invokevirtual 262, 3) := by decide +kernel
theorem dX8_restore_38 : decode cX8_restore 38 = .ok (.aload_n 0, 1) := by decide +kernel
theorem dX8_restore_39 : decode cX8_restore 39 = .ok (.getfield 36, 3) := by decide +kernel
theorem dX8_restore_42 : decode cX8_restore 42 = .ok (.invokevirtual 103, 3) := by decide +kernel
theorem dX8_restore_45 : decode cX8_restore 45 = .ok (.aload_n 0, 1) := by decide +kernel
theorem dX8_restore_46 : decode cX8_restore 46 = .ok (.getfield 19, 3) := by decide +kernel
theorem dX8_restore_49 : decode cX8_restore 49 = .ok (.invokevirtual 133, 3) := by decide +kernel
theorem dX8_restore_52 : decode cX8_restore 52 = .ok (.ireturn, 1) := by decide +kernel
set_option maxRecDepth 20000 in
theorem ggX8_requirePoint_X2_has : GoodIn wsX8_requirePoint wsX2_has := goodIn_r _ [8, 9, 19, 20, 21, 22, 23] (by decide +kernel) (by decide +kernel)
set_option maxRecDepth 20000 in
theorem gX8_requirePoint_X2_has : GoodIn wsX8_requirePoint (wsV RX8 265 RX2 yX2_has wsX2_has) := goodIn_app (goodIn_of _ (by decide +kernel)) ggX8_requirePoint_X2_has
theorem dX8_requirePoint_0 : decode cX8_requirePoint 0 = .ok (.aload_n 0, 1) := by decide +kernel
theorem dX8_requirePoint_1 : decode cX8_requirePoint 1 = .ok (.getfield 12, 3) := by decide +kernel
theorem dX8_requirePoint_4 : decode cX8_requirePoint 4 = .ok (.iload_n 1, 1) := by decide +kernel
theorem dX8_requirePoint_5 : decode cX8_requirePoint 5 = .ok (.invokevirtual 265, 3) := by decide +kernel
theorem dX8_requirePoint_8 : decode cX8_requirePoint 8 = .ok (.ifCond .ne 14, 3) := by decide +kernel
theorem dX8_requirePoint_11 : decode cX8_requirePoint 11 = .ok (.new 268, 3) := by decide +kernel
theorem dX8_requirePoint_14 : decode cX8_requirePoint 14 = .ok (.dup, 1) := by decide +kernel
theorem dX8_requirePoint_15 : decode cX8_requirePoint 15 = .ok (.ldc_w 270, 3) := by decide +kernel
theorem dX8_requirePoint_18 : decode cX8_requirePoint 18 = .ok (.invokespecial 272, 3) := by decide +kernel
theorem dX8_requirePoint_21 : decode cX8_requirePoint 21 = .ok (.athrow, 1) := by decide +kernel
theorem dX8_requirePoint_22 : decode cX8_requirePoint 22 = .ok (.return_, 1) := by decide +kernel
theorem dX8_requireSlot_0 : decode cX8_requireSlot 0 = .ok (.iload_n 0, 1) := by decide +kernel
theorem dX8_requireSlot_1 : decode cX8_requireSlot 1 = .ok (.ifCond .lt 8, 3) := by decide +kernel
theorem dX8_requireSlot_4 : decode cX8_requireSlot 4 = .ok (.iload_n 0, 1) := by decide +kernel
theorem dX8_requireSlot_5 : decode cX8_requireSlot 5 = .ok (.iconst 2, 1) := by decide +kernel
theorem dX8_requireSlot_6 : decode cX8_requireSlot 6 = .ok (.if_icmp .lt 14, 3) := by decide +kernel
theorem dX8_requireSlot_9 : decode cX8_requireSlot 9 = .ok (.new 268, 3) := by decide +kernel
theorem dX8_requireSlot_12 : decode cX8_requireSlot 12 = .ok (.dup, 1) := by decide +kernel
theorem dX8_requireSlot_13 : decode cX8_requireSlot 13 = .ok (.ldc_w 273, 3) := by decide +kernel
theorem dX8_requireSlot_16 : decode cX8_requireSlot 16 = .ok (.invokespecial 272, 3) := by decide +kernel
theorem dX8_requireSlot_19 : decode cX8_requireSlot 19 = .ok (.athrow, 1) := by decide +kernel
theorem dX8_requireSlot_20 : decode cX8_requireSlot 20 = .ok (.return_, 1) := by decide +kernel
theorem dX8_requireRange_0 : decode cX8_requireRange 0 = .ok (.iload_n 0, 1) := by decide +kernel
theorem dX8_requireRange_1 : decode cX8_requireRange 1 = .ok (.iload_n 1, 1) := by decide +kernel

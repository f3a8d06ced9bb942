theorem dX9_isKeptBy_1 : decode cX9_isKeptBy 1 = .ok (.istore_n 2, 1) := by decide +kernel
theorem dX9_isKeptBy_2 : decode cX9_isKeptBy 2 = .ok (.iconst 0, 1) := by decide +kernel
theorem dX9_isKeptBy_3 : decode cX9_isKeptBy 3 = .ok (.istore_n 3, 1) := by decide +kernel
theorem dX9_isKeptBy_4 : decode cX9_isKeptBy 4 = .ok (.iload_n 3, 1) := by decide +kernel
theorem dX9_isKeptBy_5 : decode cX9_isKeptBy 5 = .ok (.aload_n 0, 1) := by decide +kernel
theorem dX9_isKeptBy_6 : decode cX9_isKeptBy 6 = .ok (.invokevirtual 54, 3) := by decide +kernel
theorem dX9_isKeptBy_9 : decode cX9_isKeptBy 9 = .ok (.if_icmp .ge 75, 3) := by decide +kernel
theorem dX9_isKeptBy_12 : decode cX9_isKeptBy 12 = .ok (.iconst 0, 1) := by decide +kernel
theorem dX9_isKeptBy_13 : decode cX9_isKeptBy 13 = .ok (.istore 4, 2) := by decide +kernel
theorem dX9_isKeptBy_15 : decode cX9_isKeptBy 15 = .ok (.iload 4, 2) := by decide +kernel
theorem dX9_isKeptBy_17 : decode cX9_isKeptBy 17 = .ok (.aload_n 0, 1) := by decide +kernel
theorem dX9_isKeptBy_18 : decode cX9_isKeptBy 18 = .ok (.invokevirtual 54, 3) := by decide +kernel
theorem dX9_isKeptBy_21 : decode cX9_isKeptBy 21 = .ok (.if_icmp .ge 57, 3) := by decide +kernel
theorem dX9_isKeptBy_24 : decode cX9_isKeptBy 24 = .ok (.iload_n 2, 1) := by decide +kernel
theorem dX9_isKeptBy_25 : decode cX9_isKeptBy 25 = .ok (.ifCond .eq 45, 3) := by decide +kernel
theorem dX9_isKeptBy_28 : decode cX9_isKeptBy 28 = .ok (.aload_n 0, 1) := by decide +kernel
theorem dX9_isKeptBy_29 : decode cX9_isKeptBy 29 = .ok (.iload_n 3, 1) := by decide +kernel
theorem dX9_isKeptBy_30 : decode cX9_isKeptBy 30 = .ok (.iload 4, 2) := by decide +kernel
theorem dX9_isKeptBy_32 : decode cX9_isKeptBy 32 = .ok (.invokevirtual 107, 3) := by decide +kernel
theorem dX9_isKeptBy_35 : decode cX9_isKeptBy 35 = .ok (.ifCond .eq 31, 3) := by decide +kernel
theorem dX9_isKeptBy_38 : decode cX9_isKeptBy 38 = .ok (.aload_n 0, 1) := by decide +kernel
theorem dX9_isKeptBy_39 : decode cX9_isKeptBy 39 = .ok (.getfield 16, 3) := by decide +kernel
theorem dX9_isKeptBy_42 : decode cX9_isKeptBy 42 = .ok (.bipush 15, 2) := by decide +kernel
theorem dX9_isKeptBy_44 : decode cX9_isKeptBy 44 = .ok (.iload_n 3, 1) := by decide +kernel
theorem dX9_isKeptBy_45 : decode cX9_isKeptBy 45 = .ok (.imul, 1) := by decide +kernel
theorem dX9_isKeptBy_46 : decode cX9_isKeptBy 46 = .ok (.iconst 0, 1) := by decide +kernel
theorem dX9_isKeptBy_47 : decode cX9_isKeptBy 47 = .ok (.iadd, 1) := by decide +kernel
theorem dX9_isKeptBy_48 : decode cX9_isKeptBy 48 = .ok (.iaload, 1) := by decide +kernel
theorem dX9_isKeptBy_49 : decode cX9_isKeptBy 49 = .ok (.aload_n 0, 1) := by decide +kernel
theorem dX9_isKeptBy_50 : decode cX9_isKeptBy 50 = .ok (.getfield 16, 3) := by decide +kernel
theorem dX9_isKeptBy_53 : decode cX9_isKeptBy 53 = .ok (.bipush 15, 2) := by decide +kernel
theorem dX9_isKeptBy_55 : decode cX9_isKeptBy 55 = .ok (.iload 4, 2) := by decide +kernel
theorem dX9_isKeptBy_57 : decode cX9_isKeptBy 57 = .ok (.imul, 1) := by decide +kernel
theorem dX9_isKeptBy_58 : decode cX9_isKeptBy 58 = .ok (.iconst 0, 1) := by decide +kernel
theorem dX9_isKeptBy_59 : decode cX9_isKeptBy 59 = .ok (.iadd, 1) := by decide +kernel
theorem dX9_isKeptBy_60 : decode cX9_isKeptBy 60 = .ok (.iaload, 1) := by decide +kernel
theorem dX9_isKeptBy_61 : decode cX9_isKeptBy 61 = .ok (.isub, 1) := by decide +kernel
theorem dX9_isKeptBy_62 : decode cX9_isKeptBy 62 = .ok (.iload_n 1, 1) := by decide +kernel
theorem dX9_isKeptBy_63 : decode cX9_isKeptBy 63 = .ok (.if_icmp .gt 7, 3) := by decide +kernel
theorem dX9_isKeptBy_66 : decode cX9_isKeptBy 66 = .ok (.iconst 1, 1) := by decide +kernel
theorem dX9_isKeptBy_67 : decode cX9_isKeptBy 67 = .ok (.goto 4, 3) := by decide +kernel
theorem dX9_isKeptBy_70 : decode cX9_isKeptBy 70 = .ok (.iconst 0, 1) := by decide +kernel
theorem dX9_isKeptBy_71 : decode cX9_isKeptBy 71 = .ok (.istore_n 2, 1) := by decide +kernel
theorem dX9_isKeptBy_72 : decode cX9_isKeptBy 72 = .ok (.iinc 4 1, 3) := by decide +kernel
theorem dX9_isKeptBy_75 : decode cX9_isKeptBy 75 = .ok (.goto (-60), 3) := by decide +kernel
theorem dX9_isKeptBy_78 : decode cX9_isKeptBy 78 = .ok (.iinc 3 1, 3) := by decide +kernel
theorem dX9_isKeptBy_81 : decode cX9_isKeptBy 81 = .ok (.goto (-77), 3) := by decide +kernel
theorem dX9_isKeptBy_84 : decode cX9_isKeptBy 84 = .ok (.iload_n 2, 1) := by decide +kernel
theorem dX9_isKeptBy_85 : decode cX9_isKeptBy 85 = .ok (.ireturn, 1) := by decide +kernel
set_option maxRecDepth 20000 in
theorem ggX9_setBound_X9_in : GoodIn wsX9_setBound wsX9_in := goodIn_r _ [6] (by decide +kernel) (by decide +kernel)
set_option maxRecDepth 20000 in
theorem gX9_setBound_X9_in : GoodIn wsX9_setBound (va_wsS RX9 58 yX9_in wsX9_in) := goodIn_app (goodIn_of _ (by decide +kernel)) ggX9_setBound_X9_in
set_option maxRecDepth 20000 in
theorem ggX9_setBound_X9_isKeptBy : GoodIn wsX9_setBound wsX9_isKeptBy := goodIn_r _ [10, 2, 11, 12, 13, 5, 14, 15, 16, 17, 18, 19, 20, 36, 37, 38, 39, 40, 41, 42, 43, 44, 45, 46, 47, 48, 49, 50, 51, 52, 53, 54, 55] (by decide +kernel) (by decide +kernel)
set_option maxRecDepth 20000 in
theorem gX9_setBound_X9_isKeptBy : GoodIn wsX9_setBound (wsV RX9 153 RX9 yX9_isKeptBy wsX9_isKeptBy) := goodIn_app (goodIn_of _ (by decide +kernel)) ggX9_setBound_X9_isKeptBy
set_option maxRecDepth 20000 in
theorem ggX9_setBound_X9_refused : GoodIn wsX9_setBound wsX9_refused := goodIn_r _ [24, 25, 36, 37, 38, 39, 40, 41, 42, 43, 44, 45, 46, 47, 48, 49, 50, 51, 52, 53, 54, 55] (by decide +kernel) (by decide +kernel)
set_option maxRecDepth 20000 in
theorem gX9_setBound_X9_refused : GoodIn wsX9_setBound (wsV RX9 77 RX9 yX9_refused wsX9_refused) := goodIn_app (goodIn_of _ (by decide +kernel)) ggX9_setBound_X9_refused
set_option maxRecDepth 20000 in
theorem ggX9_setBound_X9_note : GoodIn wsX9_setBound wsX9_note := goodIn_r _ [29, 2, 30, 31, 32, 33, 34, 5, 35, 36, 37, 38, 39, 40, 41, 42, 43, 44, 45, 46, 47, 48, 49, 50, 51, 52, 53, 54, 55] (by decide +kernel) (by decide +kernel)
set_option maxRecDepth 20000 in
theorem gX9_setBound_X9_note : GoodIn wsX9_setBound (wsV RX9 134 RX9 yX9_note wsX9_note) := goodIn_app (goodIn_of _ (by decide +kernel)) ggX9_setBound_X9_note
theorem dX9_setBound_0 : decode cX9_setBound 0 = .ok (.aload_n 0, 1) := by decide +kernel
theorem dX9_setBound_1 : decode cX9_setBound 1 = .ok (.iload_n 1, 1) := by decide +kernel
theorem dX9_setBound_2 : decode cX9_setBound 2 = .ok (.i2l, 1) := by decide +kernel
theorem dX9_setBound_3 : decode cX9_setBound 3 = .ok (.lconst 1, 1) := by decide +kernel
theorem dX9_setBound_4 : decode cX9_setBound 4 = .ok (.ldc2_w 151, 3) := by decide +kernel
theorem dX9_setBound_7 : decode cX9_setBound 7 = .ok (.invokestatic 58, 3) := by decide +kernel
theorem dX9_setBound_10 : decode cX9_setBound 10 = .ok (.ifCond .ne 7, 3) := by decide +kernel
theorem dX9_setBound_13 : decode cX9_setBound 13 = .ok (.iconst 1, 1) := by decide +kernel
theorem dX9_setBound_14 : decode cX9_setBound 14 = .ok (.goto 16, 3) := by decide +kernel
theorem dX9_setBound_17 : decode cX9_setBound 17 = .ok (.aload_n 0, 1) := by decide +kernel
theorem dX9_setBound_18 : decode cX9_setBound 18 = .ok (.iload_n 1, 1) := by decide +kernel
theorem dX9_setBound_19 : decode cX9_setBound 19 = .ok (.invokevirtual 153, 3) := by decide +kernel
theorem dX9_setBound_22 : decode cX9_setBound 22 = .ok (.ifCond .ne 7, 3) := by decide +kernel
theorem dX9_setBound_25 : decode cX9_setBound 25 = .ok (.iconst 2, 1) := by decide +kernel
theorem dX9_setBound_26 : decode cX9_setBound 26 = .ok (.goto 4, 3) := by decide +kernel
theorem dX9_setBound_29 : decode cX9_setBound 29 = .ok (.iconst 0, 1) := by decide +kernel
theorem dX9_setBound_30 : decode cX9_setBound 30 = .ok (.invokevirtual 77, 3) := by decide +kernel
theorem dX9_setBound_33 : decode cX9_setBound 33 = .ok (.ifCond .eq 5, 3) := by decide +kernel
theorem dX9_setBound_36 : decode cX9_setBound 36 = .ok (.iconst 0, 1) := by decide +kernel
theorem dX9_setBound_37 : decode cX9_setBound 37 = .ok (.ireturn, 1) := by decide +kernel
theorem dX9_setBound_38 : decode cX9_setBound 38 = .ok (.aload_n 0, 1) := by decide +kernel
theorem dX9_setBound_39 : decode cX9_setBound 39 = .ok (.invokevirtual 134, 3) := by decide +kernel
theorem dX9_setBound_42 : decode cX9_setBound 42 = .ok (.aload_n 0, 1) := by decide +kernel
theorem dX9_setBound_43 : decode cX9_setBound 43 = .ok (.getfield 16, 3) := by decide +kernel
theorem dX9_setBound_46 : decode cX9_setBound 46 = .ok (.sipush 240, 3) := by decide +kernel
theorem dX9_setBound_49 : decode cX9_setBound 49 = .ok (.iaload, 1) := by decide +kernel
theorem dX9_setBound_50 : decode cX9_setBound 50 = .ok (.istore_n 2, 1) := by decide +kernel
theorem dX9_setBound_51 : decode cX9_setBound 51 = .ok (.aload_n 0, 1) := by decide +kernel
theorem dX9_setBound_52 : decode cX9_setBound 52 = .ok (.getfield 16, 3) := by decide +kernel
theorem dX9_setBound_55 : decode cX9_setBound 55 = .ok (.sipush 240, 3) := by decide +kernel
theorem dX9_setBound_58 : decode cX9_setBound 58 = .ok (.iload_n 1, 1) := by decide +kernel
theorem dX9_setBound_59 : decode cX9_setBound 59 = .ok (.iastore, 1) := by decide +kernel
theorem dX9_setBound_60 : decode cX9_setBound 60 = .ok (.iload_n 2, 1) := by decide +kernel
theorem dX9_setBound_61 : decode cX9_setBound 61 = .ok (.ireturn, 1) := by decide +kernel
set_option maxRecDepth 20000 in
theorem ggX9_undo_X9_refused : GoodIn wsX9_undo wsX9_refused := goodIn_r _ [9, 10, 14, 15, 16, 17, 18, 19, 20, 21, 22, 23, 24, 25, 26, 27, 28, 29, 30, 31, 32, 33] (by decide +kernel) (by decide +kernel)
set_option maxRecDepth 20000 in
theorem gX9_undo_X9_refused : GoodIn wsX9_undo (wsV RX9 77 RX9 yX9_refused wsX9_refused) := goodIn_app (goodIn_of _ (by decide +kernel)) ggX9_undo_X9_refused
set_option maxRecDepth 20000 in
theorem ggX9_undo_X9_copy : GoodIn wsX9_undo wsX9_copy := goodIn_r _ [13] (by decide +kernel) (by decide +kernel)
set_option maxRecDepth 20000 in
theorem gX9_undo_X9_copy : GoodIn wsX9_undo (va_wsS RX9 65 yX9_copy wsX9_copy) := goodIn_app (goodIn_of _ (by decide +kernel)) ggX9_undo_X9_copy
theorem dX9_undo_0 : decode cX9_undo 0 = .ok (.aload_n 0, 1) := by decide +kernel
theorem dX9_undo_1 : decode cX9_undo 1 = .ok (.aload_n 0, 1) := by decide +kernel
theorem dX9_undo_2 : decode cX9_undo 2 = .ok (.getfield 69, 3) := by decide +kernel
theorem dX9_undo_5 : decode cX9_undo 5 = .ok (.ifCond .ne 7, 3) := by decide +kernel
theorem dX9_undo_8 : decode cX9_undo 8 = .ok (.iconst 1, 1) := by decide +kernel
theorem dX9_undo_9 : decode cX9_undo 9 = .ok (.goto 4, 3) := by decide +kernel
theorem dX9_undo_12 : decode cX9_undo 12 = .ok (.iconst 0, 1) := by decide +kernel
theorem dX9_undo_13 : decode cX9_undo 13 = .ok (.invokevirtual 77, 3) := by decide +kernel
theorem dX9_undo_16 : decode cX9_undo 16 = .ok (.ifCond .eq 5, 3) := by decide +kernel
theorem dX9_undo_19 : decode cX9_undo 19 = .ok (.iconst 0, 1) := by decide +kernel
theorem dX9_undo_20 : decode cX9_undo 20 = .ok (.ireturn, 1) := by decide +kernel
theorem dX9_undo_21 : decode cX9_undo 21 = .ok (.aload_n 0, 1) := by decide +kernel
theorem dX9_undo_22 : decode cX9_undo 22 = .ok (.dup, 1) := by decide +kernel
theorem dX9_undo_23 : decode cX9_undo 23 = .ok (.getfield 69, 3) := by decide +kernel
theorem dX9_undo_26 : decode cX9_undo 26 = .ok (.iconst 1, 1) := by decide +kernel
theorem dX9_undo_27 : decode cX9_undo 27 = .ok (.isub, 1) := by decide +kernel
theorem dX9_undo_28 : decode cX9_undo 28 = .ok (.putfield 69, 3) := by decide +kernel
theorem dX9_undo_31 : decode cX9_undo 31 = .ok (.aload_n 0, 1) := by decide +kernel
theorem dX9_undo_32 : decode cX9_undo 32 = .ok (.aload_n 0, 1) := by decide +kernel
theorem dX9_undo_33 : decode cX9_undo 33 = .ok (.getfield 62, 3) := by decide +kernel
theorem dX9_undo_36 : decode cX9_undo 36 = .ok (.bipush 14, 2) := by decide +kernel
theorem dX9_undo_38 : decode cX9_undo 38 = .ok (.iadd, 1) := by decide +kernel
theorem dX9_undo_39 : decode cX9_undo 39 = .ok (.iconst 1, 1) := by decide +kernel
theorem dX9_undo_40 : decode cX9_undo 40 = .ok (.isub, 1) := by decide +kernel
theorem dX9_undo_41 : decode cX9_undo 41 = .ok (.bipush 14, 2) := by decide +kernel
theorem dX9_undo_43 : decode cX9_undo 43 = .ok (.irem, 1) := by decide +kernel
theorem dX9_undo_44 : decode cX9_undo 44 = .ok (.putfield 62, 3) := by decide +kernel
theorem dX9_undo_47 : decode cX9_undo 47 = .ok (.aload_n 0, 1) := by decide +kernel
theorem dX9_undo_48 : decode cX9_undo 48 = .ok (.getfield 23, 3) := by decide +kernel
theorem dX9_undo_51 : decode cX9_undo 51 = .ok (.sipush 243, 3) := by decide +kernel
theorem dX9_undo_54 : decode cX9_undo 54 = .ok (.aload_n 0, 1) := by decide +kernel
theorem dX9_undo_55 : decode cX9_undo 55 = .ok (.getfield 62, 3) := by decide +kernel
theorem dX9_undo_58 : decode cX9_undo 58 = .ok (.imul, 1) := by decide +kernel
theorem dX9_undo_59 : decode cX9_undo 59 = .ok (.aload_n 0, 1) := by decide +kernel
theorem dX9_undo_60 : decode cX9_undo 60 = .ok (.getfield 16, 3) := by decide +kernel
theorem dX9_undo_63 : decode cX9_undo 63 = .ok (.iconst 0, 1) := by decide +kernel
theorem dX9_undo_64 : decode cX9_undo 64 = .ok (.invokestatic 65, 3) := by decide +kernel
theorem dX9_undo_67 : decode cX9_undo 67 = .ok (.aload_n 0, 1) := by decide +kernel
theorem dX9_undo_68 : decode cX9_undo 68 = .ok (.getfield 69, 3) := by decide +kernel
theorem dX9_undo_71 : decode cX9_undo 71 = .ok (.ireturn, 1) := by decide +kernel
set_option maxRecDepth 20000 in
theorem ggX9_isReady_X9_isPoint : GoodIn wsX9_isReady wsX9_isPoint := goodIn_r _ [6, 7, 8, 9, 5, 10, 11, 12, 13, 14, 15, 41, 42, 43, 44, 45, 46, 47, 48, 49, 50, 51, 52, 53, 54, 55, 56, 57, 58, 59, 60] (by decide +kernel) (by decide +kernel)
set_option maxRecDepth 20000 in
theorem gX9_isReady_X9_isPoint : GoodIn wsX9_isReady (wsV RX9 125 RX9 yX9_isPoint wsX9_isPoint) := goodIn_app (goodIn_of _ (by decide +kernel)) ggX9_isReady_X9_isPoint
set_option maxRecDepth 20000 in
theorem ggX9_isReady_X9_refused : GoodIn wsX9_isReady wsX9_refused := goodIn_r _ [19, 20, 41, 42, 43, 44, 45, 46, 47, 48, 49, 50, 51, 52, 53, 54, 55, 56, 57, 58, 59, 60] (by decide +kernel) (by decide +kernel)
set_option maxRecDepth 20000 in
theorem gX9_isReady_X9_refused : GoodIn wsX9_isReady (wsV RX9 77 RX9 yX9_refused wsX9_refused) := goodIn_app (goodIn_of _ (by decide +kernel)) ggX9_isReady_X9_refused
set_option maxRecDepth 20000 in
theorem ggX9_isReady_X9_isReadyIn : GoodIn wsX9_isReady wsX9_isReadyIn := goodIn_r _ [24, 25, 26, 27, 5, 28, 29, 30, 31, 32, 33, 34, 35, 36, 7, 8, 9, 10, 11, 12, 37, 38, 39, 40, 41, 42, 43, 44, 45, 46, 47, 48, 49, 50, 51, 52, 53, 54, 55, 56, 57, 58, 59, 60] (by decide +kernel) (by decide +kernel)
set_option maxRecDepth 20000 in
theorem gX9_isReady_X9_isReadyIn : GoodIn wsX9_isReady (wsV RX9 130 RX9 yX9_isReadyIn wsX9_isReadyIn) := goodIn_app (goodIn_of _ (by decide +kernel)) ggX9_isReady_X9_isReadyIn
theorem dX9_isReady_0 : decode cX9_isReady 0 = .ok (.aload_n 0, 1) := by decide +kernel
theorem dX9_isReady_1 : decode cX9_isReady 1 = .ok (.aload_n 0, 1) := by decide +kernel
theorem dX9_isReady_2 : decode cX9_isReady 2 = .ok (.iload_n 1, 1) := by decide +kernel
theorem dX9_isReady_3 : decode cX9_isReady 3 = .ok (.invokevirtual 125, 3) := by decide +kernel
theorem dX9_isReady_6 : decode cX9_isReady 6 = .ok (.ifCond .eq 7, 3) := by decide +kernel
theorem dX9_isReady_9 : decode cX9_isReady 9 = .ok (.iconst 0, 1) := by decide +kernel
theorem dX9_isReady_10 : decode cX9_isReady 10 = .ok (.goto 4, 3) := by decide +kernel
theorem dX9_isReady_13 : decode cX9_isReady 13 = .ok (.iconst 1, 1) := by decide +kernel
theorem dX9_isReady_14 : decode cX9_isReady 14 = .ok (.invokevirtual 77, 3) := by decide +kernel
theorem dX9_isReady_17 : decode cX9_isReady 17 = .ok (.ifCond .eq 5, 3) := by decide +kernel
theorem dX9_isReady_20 : decode cX9_isReady 20 = .ok (.iconst 0, 1) := by decide +kernel
theorem dX9_isReady_21 : decode cX9_isReady 21 = .ok (.ireturn, 1) := by decide +kernel
theorem dX9_isReady_22 : decode cX9_isReady 22 = .ok (.aload_n 0, 1) := by decide +kernel
theorem dX9_isReady_23 : decode cX9_isReady 23 = .ok (.aload_n 0, 1) := by decide +kernel
theorem dX9_isReady_24 : decode cX9_isReady 24 = .ok (.getfield 16, 3) := by decide +kernel
theorem dX9_isReady_27 : decode cX9_isReady 27 = .ok (.iconst 0, 1) := by decide +kernel
theorem dX9_isReady_28 : decode cX9_isReady 28 = .ok (.iload_n 1, 1) := by decide +kernel
theorem dX9_isReady_29 : decode cX9_isReady 29 = .ok (.invokevirtual 130, 3) := by decide +kernel
theorem dX9_isReady_32 : decode cX9_isReady 32 = .ok (.ireturn, 1) := by decide +kernel
set_option maxRecDepth 20000 in
theorem ggX9_blockers_X9_isPoint : GoodIn wsX9_blockers wsX9_isPoint := goodIn_r _ [6, 7, 8, 9, 5, 10, 11, 12, 13, 14, 15, 25, 26, 27, 28, 29, 30, 31, 32, 33, 34, 35, 36, 37, 38, 39, 40, 41, 42, 43, 44] (by decide +kernel) (by decide +kernel)
set_option maxRecDepth 20000 in
theorem gX9_blockers_X9_isPoint : GoodIn wsX9_blockers (wsV RX9 125 RX9 yX9_isPoint wsX9_isPoint) := goodIn_app (goodIn_of _ (by decide +kernel)) ggX9_blockers_X9_isPoint
set_option maxRecDepth 20000 in
theorem ggX9_blockers_X9_refused : GoodIn wsX9_blockers wsX9_refused := goodIn_r _ [19, 20, 25, 26, 27, 28, 29, 30, 31, 32, 33, 34, 35, 36, 37, 38, 39, 40, 41, 42, 43, 44] (by decide +kernel) (by decide +kernel)
set_option maxRecDepth 20000 in
theorem gX9_blockers_X9_refused : GoodIn wsX9_blockers (wsV RX9 77 RX9 yX9_refused wsX9_refused) := goodIn_app (goodIn_of _ (by decide +kernel)) ggX9_blockers_X9_refused
set_option maxRecDepth 20000 in
theorem ggX9_blockers_X9_points : GoodIn wsX9_blockers wsX9_points := goodIn_r _ [10, 11, 12, 25, 26, 27, 28, 29, 30, 31, 32, 33, 34, 35, 36, 37, 38, 39, 40, 41, 42, 43, 44] (by decide +kernel) (by decide +kernel)
set_option maxRecDepth 20000 in
theorem gX9_blockers_X9_points : GoodIn wsX9_blockers (wsV RX9 54 RX9 yX9_points wsX9_points) := goodIn_app (goodIn_of _ (by decide +kernel)) ggX9_blockers_X9_points
set_option maxRecDepth 20000 in
theorem ggX9_blockers_X9_areBeside : GoodIn wsX9_blockers wsX9_areBeside := goodIn_r _ [24, 12, 25, 26, 27, 28, 29, 30, 31, 32, 33, 34, 35, 36, 37, 38, 39, 40, 41, 42, 43, 44] (by decide +kernel) (by decide +kernel)
set_option maxRecDepth 20000 in
theorem gX9_blockers_X9_areBeside : GoodIn wsX9_blockers (wsV RX9 107 RX9 yX9_areBeside wsX9_areBeside) := goodIn_app (goodIn_of _ (by decide +kernel)) ggX9_blockers_X9_areBeside
theorem dX9_blockers_0 : decode cX9_blockers 0 = .ok (.aload_n 0, 1) := by decide +kernel
theorem dX9_blockers_1 : decode cX9_blockers 1 = .ok (.aload_n 0, 1) := by decide +kernel
theorem dX9_blockers_2 : decode cX9_blockers 2 = .ok (.iload_n 1, 1) := by decide +kernel
theorem dX9_blockers_3 : decode cX9_blockers 3 = .ok (.invokevirtual 125, 3) := by decide +kernel
theorem dX9_blockers_6 : decode cX9_blockers 6 = .ok (.ifCond .eq 7, 3) := by decide +kernel
theorem dX9_blockers_9 : decode cX9_blockers 9 = .ok (.iconst 0, 1) := by decide +kernel
theorem dX9_blockers_10 : decode cX9_blockers 10 = .ok (.goto 4, 3) := by decide +kernel
theorem dX9_blockers_13 : decode cX9_blockers 13 = .ok (.iconst 1, 1) := by decide +kernel
theorem dX9_blockers_14 : decode cX9_blockers 14 = .ok (.invokevirtual 77, 3) := by decide +kernel
theorem dX9_blockers_17 : decode cX9_blockers 17 = .ok (.ifCond .eq 5, 3) := by decide +kernel
theorem dX9_blockers_20 : decode cX9_blockers 20 = .ok (.iconst 0, 1) := by decide +kernel
theorem dX9_blockers_21 : decode cX9_blockers 21 = .ok (.ireturn, 1) := by decide +kernel
theorem dX9_blockers_22 : decode cX9_blockers 22 = .ok (.iconst 0, 1) := by decide +kernel
theorem dX9_blockers_23 : decode cX9_blockers 23 = .ok (.istore_n 2, 1) := by decide +kernel
theorem dX9_blockers_24 : decode cX9_blockers 24 = .ok (.iconst 0, 1) := by decide +kernel
theorem dX9_blockers_25 : decode cX9_blockers 25 = .ok (.istore_n 3, 1) := by decide +kernel
theorem dX9_blockers_26 : decode cX9_blockers 26 = .ok (.iload_n 3, 1) := by decide +kernel
theorem dX9_blockers_27 : decode cX9_blockers 27 = .ok (.aload_n 0, 1) := by decide +kernel
theorem dX9_blockers_28 : decode cX9_blockers 28 = .ok (.invokevirtual 54, 3) := by decide +kernel
theorem dX9_blockers_31 : decode cX9_blockers 31 = .ok (.if_icmp .ge 76, 3) := by decide +kernel
theorem dX9_blockers_34 : decode cX9_blockers 34 = .ok (.aload_n 0, 1) := by decide +kernel
theorem dX9_blockers_35 : decode cX9_blockers 35 = .ok (.iload_n 1, 1) := by decide +kernel
theorem dX9_blockers_36 : decode cX9_blockers 36 = .ok (.iload_n 3, 1) := by decide +kernel
theorem dX9_blockers_37 : decode cX9_blockers 37 = .ok (.invokevirtual 107, 3) := by decide +kernel
theorem dX9_blockers_40 : decode cX9_blockers 40 = .ok (.ifCond .eq 43, 3) := by decide +kernel
theorem dX9_blockers_43 : decode cX9_blockers 43 = .ok (.aload_n 0, 1) := by decide +kernel
theorem dX9_blockers_44 : decode cX9_blockers 44 = .ok (.getfield 16, 3) := by decide +kernel
theorem dX9_blockers_47 : decode cX9_blockers 47 = .ok (.bipush 15, 2) := by decide +kernel
theorem dX9_blockers_49 : decode cX9_blockers 49 = .ok (.iload_n 1, 1) := by decide +kernel
theorem dX9_blockers_50 : decode cX9_blockers 50 = .ok (.imul, 1) := by decide +kernel
theorem dX9_blockers_51 : decode cX9_blockers 51 = .ok (.iconst 0, 1) := by decide +kernel
theorem dX9_blockers_52 : decode cX9_blockers 52 = .ok (.iadd, 1) := by decide +kernel
theorem dX9_blockers_53 : decode cX9_blockers 53 = .ok (.iaload, 1) := by decide +kernel
theorem dX9_blockers_54 : decode cX9_blockers 54 = .ok (.iconst 1, 1) := by decide +kernel
theorem dX9_blockers_55 : decode cX9_blockers 55 = .ok (.iadd, 1) := by decide +kernel
theorem dX9_blockers_56 : decode cX9_blockers 56 = .ok (.aload_n 0, 1) := by decide +kernel
theorem dX9_blockers_57 : decode cX9_blockers 57 = .ok (.getfield 16, 3) := by decide +kernel
theorem dX9_blockers_60 : decode cX9_blockers 60 = .ok (.bipush 15, 2) := by decide +kernel
theorem dX9_blockers_62 : decode cX9_blockers 62 = .ok (.iload_n 3, 1) := by decide +kernel
theorem dX9_blockers_63 : decode cX9_blockers 63 = .ok (.imul, 1) := by decide +kernel
theorem dX9_blockers_64 : decode cX9_blockers 64 = .ok (.iconst 0, 1) := by decide +kernel
theorem dX9_blockers_65 : decode cX9_blockers 65 = .ok (.iadd, 1) := by decide +kernel
theorem dX9_blockers_66 : decode cX9_blockers 66 = .ok (.iaload, 1) := by decide +kernel
theorem dX9_blockers_67 : decode cX9_blockers 67 = .ok (.isub, 1) := by decide +kernel
theorem dX9_blockers_68 : decode cX9_blockers 68 = .ok (.aload_n 0, 1) := by decide +kernel
theorem dX9_blockers_69 : decode cX9_blockers 69 = .ok (.getfield 16, 3) := by decide +kernel
theorem dX9_blockers_72 : decode cX9_blockers 72 = .ok (.sipush 240, 3) := by decide +kernel
theorem dX9_blockers_75 : decode cX9_blockers 75 = .ok (.iaload, 1) := by decide +kernel
theorem dX9_blockers_76 : decode cX9_blockers 76 = .ok (.if_icmp .le 7, 3) := by decide +kernel
theorem dX9_blockers_79 : decode cX9_blockers 79 = .ok (.iconst 1, 1) := by decide +kernel
theorem dX9_blockers_80 : decode cX9_blockers 80 = .ok (.goto 4, 3) := by decide +kernel
theorem dX9_blockers_83 : decode cX9_blockers 83 = .ok (.iconst 0, 1) := by decide +kernel
theorem dX9_blockers_84 : decode cX9_blockers 84 = .ok (.istore 4, 2) := by decide +kernel
theorem dX9_blockers_86 : decode cX9_blockers 86 = .ok (.iload_n 2, 1) := by decide +kernel
theorem dX9_blockers_87 : decode cX9_blockers 87 = .ok (.iload 4, 2) := by decide +kernel
theorem dX9_blockers_89 : decode cX9_blockers 89 = .ok (.ifCond .eq 9, 3) := by decide +kernel
theorem dX9_blockers_92 : decode cX9_blockers 92 = .ok (.iconst 1, 1) := by decide +kernel
theorem dX9_blockers_93 : decode cX9_blockers 93 = .ok (.iload_n 3, 1) := by decide +kernel
theorem dX9_blockers_94 : decode cX9_blockers 94 = .ok (.ishl, 1) := by decide +kernel
theorem dX9_blockers_95 : decode cX9_blockers 95 = .ok (.goto 4, 3) := by decide +kernel
theorem dX9_blockers_98 : decode cX9_blockers 98 = .ok (.iconst 0, 1) := by decide +kernel
theorem dX9_blockers_99 : decode cX9_blockers 99 = .ok (.ior, 1) := by decide +kernel
theorem dX9_blockers_100 : decode cX9_blockers 100 = .ok (.istore_n 2, 1) := by decide +kernel
theorem dX9_blockers_101 : decode cX9_blockers 101 = .ok (.iinc 3 1, 3) := by decide +kernel
theorem dX9_blockers_104 : decode cX9_blockers 104 = .ok (.goto (-78), 3) := by decide +kernel
theorem dX9_blockers_107 : decode cX9_blockers 107 = .ok (.iload_n 2, 1) := by decide +kernel
theorem dX9_blockers_108 : decode cX9_blockers 108 = .ok (.ireturn, 1) := by decide +kernel
set_option maxRecDepth 20000 in
theorem ggX9_slack_X9_isPoint : GoodIn wsX9_slack wsX9_isPoint := goodIn_r _ [6, 7, 8, 9, 5, 10, 11, 12, 13, 14, 15, 37, 38, 39, 40, 41, 42, 43, 44, 45, 46, 47, 48, 49, 50, 51, 52, 53, 54, 55, 56] (by decide +kernel) (by decide +kernel)
set_option maxRecDepth 20000 in
theorem gX9_slack_X9_isPoint : GoodIn wsX9_slack (wsV RX9 125 RX9 yX9_isPoint wsX9_isPoint) := goodIn_app (goodIn_of _ (by decide +kernel)) ggX9_slack_X9_isPoint
set_option maxRecDepth 20000 in
theorem ggX9_slack_X9_refused : GoodIn wsX9_slack wsX9_refused := goodIn_r _ [19, 20, 37, 38, 39, 40, 41, 42, 43, 44, 45, 46, 47, 48, 49, 50, 51, 52, 53, 54, 55, 56] (by decide +kernel) (by decide +kernel)
set_option maxRecDepth 20000 in
theorem gX9_slack_X9_refused : GoodIn wsX9_slack (wsV RX9 77 RX9 yX9_refused wsX9_refused) := goodIn_app (goodIn_of _ (by decide +kernel)) ggX9_slack_X9_refused
set_option maxRecDepth 20000 in
theorem ggX9_slack_X9_slackOf : GoodIn wsX9_slack wsX9_slackOf := goodIn_r _ [24, 25, 26, 5, 27, 28, 29, 30, 31, 32, 7, 8, 9, 10, 11, 12, 33, 34, 35, 36, 37, 38, 39, 40, 41, 42, 43, 44, 45, 46, 47, 48, 49, 50, 51, 52, 53, 54, 55, 56] (by decide +kernel) (by decide +kernel)
set_option maxRecDepth 20000 in
theorem gX9_slack_X9_slackOf : GoodIn wsX9_slack (wsV RX9 118 RX9 yX9_slackOf wsX9_slackOf) := goodIn_app (goodIn_of _ (by decide +kernel)) ggX9_slack_X9_slackOf
theorem dX9_slack_0 : decode cX9_slack 0 = .ok (.aload_n 0, 1) := by decide +kernel
theorem dX9_slack_1 : decode cX9_slack 1 = .ok (.aload_n 0, 1) := by decide +kernel
theorem dX9_slack_2 : decode cX9_slack 2 = .ok (.iload_n 1, 1) := by decide +kernel
theorem dX9_slack_3 : decode cX9_slack 3 = .ok (.invokevirtual 125, 3) := by decide +kernel
theorem dX9_slack_6 : decode cX9_slack 6 = .ok (.ifCond .eq 7, 3) := by decide +kernel
theorem dX9_slack_9 : decode cX9_slack 9 = .ok (.iconst 0, 1) := by decide +kernel
theorem dX9_slack_10 : decode cX9_slack 10 = .ok (.goto 4, 3) := by decide +kernel
theorem dX9_slack_13 : decode cX9_slack 13 = .ok (.iconst 1, 1) := by decide +kernel
theorem dX9_slack_14 : decode cX9_slack 14 = .ok (.invokevirtual 77, 3) := by decide +kernel
theorem dX9_slack_17 : decode cX9_slack 17 = .ok (.ifCond .eq 5, 3) := by decide +kernel
theorem dX9_slack_20 : decode cX9_slack 20 = .ok (.iconst 0, 1) := by decide +kernel
theorem dX9_slack_21 : decode cX9_slack 21 = .ok (.ireturn, 1) := by decide +kernel
theorem dX9_slack_22 : decode cX9_slack 22 = .ok (.aload_n 0, 1) := by decide +kernel
theorem dX9_slack_23 : decode cX9_slack 23 = .ok (.aload_n 0, 1) := by decide +kernel
theorem dX9_slack_24 : decode cX9_slack 24 = .ok (.getfield 16, 3) := by decide +kernel
theorem dX9_slack_27 : decode cX9_slack 27 = .ok (.iconst 0, 1) := by decide +kernel
theorem dX9_slack_28 : decode cX9_slack 28 = .ok (.iload_n 1, 1) := by decide +kernel
theorem dX9_slack_29 : decode cX9_slack 29 = .ok (.invokevirtual 118, 3) := by decide +kernel
theorem dX9_slack_32 : decode cX9_slack 32 = .ok (.ireturn, 1) := by decide +kernel
set_option maxRecDepth 20000 in
theorem ggX9_nextByOrder_X9_nextOf : GoodIn wsX9_nextByOrder wsX9_nextOf := goodIn_r _ [7, 8, 9, 10, 6, 11, 12, 13, 14, 15, 16, 17, 18, 19, 20, 21, 22, 23, 24, 25, 26, 27, 28, 29, 30, 31, 32, 33, 34, 35, 36, 37, 38, 39, 40, 41, 42, 43, 44, 45, 46, 47, 48, 49, 50, 51, 52] (by decide +kernel) (by decide +kernel)
set_option maxRecDepth 20000 in
theorem gX9_nextByOrder_X9_nextOf : GoodIn wsX9_nextByOrder (wsV RX9 144 RX9 yX9_nextOf wsX9_nextOf) := goodIn_app (goodIn_of _ (by decide +kernel)) ggX9_nextByOrder_X9_nextOf
theorem dX9_nextByOrder_0 : decode cX9_nextByOrder 0 = .ok (.aload_n 0, 1) := by decide +kernel
theorem dX9_nextByOrder_1 : decode cX9_nextByOrder 1 = .ok (.iconst 0, 1) := by decide +kernel
theorem dX9_nextByOrder_2 : decode cX9_nextByOrder 2 = .ok (.putfield 51, 3) := by decide +kernel
theorem dX9_nextByOrder_5 : decode cX9_nextByOrder 5 = .ok (.aload_n 0, 1) := by decide +kernel
theorem dX9_nextByOrder_6 : decode cX9_nextByOrder 6 = .ok (.aload_n 0, 1) := by decide +kernel
theorem dX9_nextByOrder_7 : decode cX9_nextByOrder 7 = .ok (.getfield 16, 3) := by decide +kernel
theorem dX9_nextByOrder_10 : decode cX9_nextByOrder 10 = .ok (.invokevirtual 144, 3) := by decide +kernel
theorem dX9_nextByOrder_13 : decode cX9_nextByOrder 13 = .ok (.ireturn, 1) := by decide +kernel
set_option maxRecDepth 20000 in
theorem ggX9_orderAhead_X9_in : GoodIn wsX9_orderAhead wsX9_in := goodIn_r _ [7] (by decide +kernel) (by decide +kernel)
set_option maxRecDepth 20000 in
theorem gX9_orderAhead_X9_in : GoodIn wsX9_orderAhead (va_wsS RX9 58 yX9_in wsX9_in) := goodIn_app (goodIn_of _ (by decide +kernel)) ggX9_orderAhead_X9_in
set_option maxRecDepth 20000 in
theorem ggX9_orderAhead_X9_refused : GoodIn wsX9_orderAhead wsX9_refused := goodIn_r _ [11, 12, 52, 53, 54, 55, 56, 57, 58, 59, 60, 61, 62, 63, 64, 65, 66, 67, 68, 69, 70, 71] (by decide +kernel) (by decide +kernel)
set_option maxRecDepth 20000 in
theorem gX9_orderAhead_X9_refused : GoodIn wsX9_orderAhead (wsV RX9 77 RX9 yX9_refused wsX9_refused) := goodIn_app (goodIn_of _ (by decide +kernel)) ggX9_orderAhead_X9_refused
set_option maxRecDepth 20000 in
theorem ggX9_orderAhead_X9_copy : GoodIn wsX9_orderAhead wsX9_copy := goodIn_r _ [15] (by decide +kernel) (by decide +kernel)
set_option maxRecDepth 20000 in
theorem gX9_orderAhead_X9_copy : GoodIn wsX9_orderAhead (va_wsS RX9 65 yX9_copy wsX9_copy) := goodIn_app (goodIn_of _ (by decide +kernel)) ggX9_orderAhead_X9_copy
set_option maxRecDepth 20000 in
theorem ggX9_orderAhead_X9_goByOrder : GoodIn wsX9_orderAhead wsX9_goByOrder := goodIn_r _ [19, 20, 21, 22, 6, 23, 24, 25, 26, 27, 28, 29, 30, 31, 32, 33, 34, 35, 36, 37, 38, 39, 40, 41, 42, 43, 44, 45, 46, 47, 48, 49, 50, 51, 52, 53, 54, 55, 56, 57, 58, 59, 60, 61, 62, 63, 64, 65, 66, 67, 68, 69, 70, 71] (by decide +kernel) (by decide +kernel)
set_option maxRecDepth 20000 in
theorem gX9_orderAhead_X9_goByOrder : GoodIn wsX9_orderAhead (wsV RX9 140 RX9 yX9_goByOrder wsX9_goByOrder) := goodIn_app (goodIn_of _ (by decide +kernel)) ggX9_orderAhead_X9_goByOrder
set_option maxRecDepth 20000 in
theorem ggX9_orderAhead_X9_nextOf : GoodIn wsX9_orderAhead wsX9_nextOf := goodIn_r _ [23, 24, 25, 26, 6, 27, 28, 29, 30, 31, 32, 33, 34, 35, 36, 37, 38, 39, 40, 41, 42, 43, 44, 45, 46, 47, 48, 52, 53, 54, 55, 56, 57, 58, 59, 60, 61, 62, 63, 64, 65, 66, 67, 68, 69, 70, 71] (by decide +kernel) (by decide +kernel)
set_option maxRecDepth 20000 in
theorem gX9_orderAhead_X9_nextOf : GoodIn wsX9_orderAhead (wsV RX9 144 RX9 yX9_nextOf wsX9_nextOf) := goodIn_app (goodIn_of _ (by decide +kernel)) ggX9_orderAhead_X9_nextOf
theorem dX9_orderAhead_0 : decode cX9_orderAhead 0 = .ok (.aload_n 0, 1) := by decide +kernel
theorem dX9_orderAhead_1 : decode cX9_orderAhead 1 = .ok (.iload_n 1, 1) := by decide +kernel
theorem dX9_orderAhead_2 : decode cX9_orderAhead 2 = .ok (.i2l, 1) := by decide +kernel
theorem dX9_orderAhead_3 : decode cX9_orderAhead 3 = .ok (.lconst 0, 1) := by decide +kernel
theorem dX9_orderAhead_4 : decode cX9_orderAhead 4 = .ok (.ldc2_w 128, 3) := by decide +kernel
theorem dX9_orderAhead_7 : decode cX9_orderAhead 7 = .ok (.invokestatic 58, 3) := by decide +kernel
theorem dX9_orderAhead_10 : decode cX9_orderAhead 10 = .ok (.ifCond .eq 7, 3) := by decide +kernel
theorem dX9_orderAhead_13 : decode cX9_orderAhead 13 = .ok (.iconst 0, 1) := by decide +kernel
theorem dX9_orderAhead_14 : decode cX9_orderAhead 14 = .ok (.goto 4, 3) := by decide +kernel
theorem dX9_orderAhead_17 : decode cX9_orderAhead 17 = .ok (.iconst 1, 1) := by decide +kernel
theorem dX9_orderAhead_18 : decode cX9_orderAhead 18 = .ok (.invokevirtual 77, 3) := by decide +kernel
theorem dX9_orderAhead_21 : decode cX9_orderAhead 21 = .ok (.ifCond .eq 5, 3) := by decide +kernel
theorem dX9_orderAhead_24 : decode cX9_orderAhead 24 = .ok (.iconst 0, 1) := by decide +kernel
theorem dX9_orderAhead_25 : decode cX9_orderAhead 25 = .ok (.ireturn, 1) := by decide +kernel
theorem dX9_orderAhead_26 : decode cX9_orderAhead 26 = .ok (.aload_n 0, 1) := by decide +kernel
theorem dX9_orderAhead_27 : decode cX9_orderAhead 27 = .ok (.getfield 16, 3) := by decide +kernel
theorem dX9_orderAhead_30 : decode cX9_orderAhead 30 = .ok (.iconst 0, 1) := by decide +kernel
theorem dX9_orderAhead_31 : decode cX9_orderAhead 31 = .ok (.aload_n 0, 1) := by decide +kernel
theorem dX9_orderAhead_32 : decode cX9_orderAhead 32 = .ok (.getfield 20, 3) := by decide +kernel
theorem dX9_orderAhead_35 : decode cX9_orderAhead 35 = .ok (.iconst 0, 1) := by decide +kernel
theorem dX9_orderAhead_36 : decode cX9_orderAhead 36 = .ok (.invokestatic 65, 3) := by decide +kernel
theorem dX9_orderAhead_39 : decode cX9_orderAhead 39 = .ok (.aload_n 0, 1) := by decide +kernel
theorem dX9_orderAhead_40 : decode cX9_orderAhead 40 = .ok (.aload_n 0, 1) := by decide +kernel
theorem dX9_orderAhead_41 : decode cX9_orderAhead 41 = .ok (.getfield 20, 3) := by decide +kernel
theorem dX9_orderAhead_44 : decode cX9_orderAhead 44 = .ok (.iload_n 1, 1) := by decide +kernel
theorem dX9_orderAhead_45 : decode cX9_orderAhead 45 = .ok (.invokevirtual 140, 3) := by decide +kernel
theorem dX9_orderAhead_48 : decode cX9_orderAhead 48 = .ok (.iload_n 1, 1) := by decide +kernel
theorem dX9_orderAhead_49 : decode cX9_orderAhead 49 = .ok (.if_icmp .ne 14, 3) := by decide +kernel
theorem dX9_orderAhead_52 : decode cX9_orderAhead 52 = .ok (.aload_n 0, 1) := by decide +kernel
theorem dX9_orderAhead_53 : decode cX9_orderAhead 53 = .ok (.aload_n 0, 1) := by decide +kernel
theorem dX9_orderAhead_54 : decode cX9_orderAhead 54 = .ok (.getfield 20, 3) := by decide +kernel
theorem dX9_orderAhead_57 : decode cX9_orderAhead 57 = .ok (.invokevirtual 144, 3) := by decide +kernel
theorem dX9_orderAhead_60 : decode cX9_orderAhead 60 = .ok (.goto 5, 3) := by decide +kernel
theorem dX9_orderAhead_63 : decode cX9_orderAhead 63 = .ok (.bipush (-9), 2) := by decide +kernel
theorem dX9_orderAhead_65 : decode cX9_orderAhead 65 = .ok (.ireturn, 1) := by decide +kernel
set_option maxRecDepth 20000 in
theorem ggX9_bucketsToWaste_X9_isPoint : GoodIn wsX9_bucketsToWaste wsX9_isPoint := goodIn_r _ [7, 8, 9, 10, 6, 11, 12, 13, 14, 15, 16, 28, 29, 30, 31, 32, 33, 34, 35, 36, 37, 38, 39, 40, 41, 42, 43, 44, 45, 46, 47] (by decide +kernel) (by decide +kernel)
set_option maxRecDepth 20000 in
theorem gX9_bucketsToWaste_X9_isPoint : GoodIn wsX9_bucketsToWaste (wsV RX9 125 RX9 yX9_isPoint wsX9_isPoint) := goodIn_app (goodIn_of _ (by decide +kernel)) ggX9_bucketsToWaste_X9_isPoint
set_option maxRecDepth 20000 in
theorem ggX9_bucketsToWaste_X9_in : GoodIn wsX9_bucketsToWaste wsX9_in := goodIn_r _ [16] (by decide +kernel) (by decide +kernel)
set_option maxRecDepth 20000 in
theorem gX9_bucketsToWaste_X9_in : GoodIn wsX9_bucketsToWaste (va_wsS RX9 58 yX9_in wsX9_in) := goodIn_app (goodIn_of _ (by decide +kernel)) ggX9_bucketsToWaste_X9_in
set_option maxRecDepth 20000 in
theorem ggX9_bucketsToWaste_X9_refused : GoodIn wsX9_bucketsToWaste wsX9_refused := goodIn_r _ [20, 21, 28, 29, 30, 31, 32, 33, 34, 35, 36, 37, 38, 39, 40, 41, 42, 43, 44, 45, 46, 47] (by decide +kernel) (by decide +kernel)
set_option maxRecDepth 20000 in
theorem gX9_bucketsToWaste_X9_refused : GoodIn wsX9_bucketsToWaste (wsV RX9 77 RX9 yX9_refused wsX9_refused) := goodIn_app (goodIn_of _ (by decide +kernel)) ggX9_bucketsToWaste_X9_refused
set_option maxRecDepth 20000 in
theorem ggX9_bucketsToWaste_X9_remainingOf : GoodIn wsX9_bucketsToWaste wsX9_remainingOf := goodIn_r _ [24] (by decide +kernel) (by decide +kernel)
set_option maxRecDepth 20000 in
theorem gX9_bucketsToWaste_X9_remainingOf : GoodIn wsX9_bucketsToWaste (va_wsS RX9 111 yX9_remainingOf wsX9_remainingOf) := goodIn_app (goodIn_of _ (by decide +kernel)) ggX9_bucketsToWaste_X9_remainingOf
set_option maxRecDepth 20000 in
theorem ggX9_bucketsToWaste_X9_gradeOf : GoodIn wsX9_bucketsToWaste wsX9_gradeOf := goodIn_r _ [27] (by decide +kernel) (by decide +kernel)
set_option maxRecDepth 20000 in
theorem gX9_bucketsToWaste_X9_gradeOf : GoodIn wsX9_bucketsToWaste (va_wsS RX9 121 yX9_gradeOf wsX9_gradeOf) := goodIn_app (goodIn_of _ (by decide +kernel)) ggX9_bucketsToWaste_X9_gradeOf
theorem dX9_bucketsToWaste_0 : decode cX9_bucketsToWaste 0 = .ok (.aload_n 0, 1) := by decide +kernel
theorem dX9_bucketsToWaste_1 : decode cX9_bucketsToWaste 1 = .ok (.aload_n 0, 1) := by decide +kernel
theorem dX9_bucketsToWaste_2 : decode cX9_bucketsToWaste 2 = .ok (.iload_n 1, 1) := by decide +kernel
theorem dX9_bucketsToWaste_3 : decode cX9_bucketsToWaste 3 = .ok (.invokevirtual 125, 3) := by decide +kernel
theorem dX9_bucketsToWaste_6 : decode cX9_bucketsToWaste 6 = .ok (.ifCond .ne 7, 3) := by decide +kernel
theorem dX9_bucketsToWaste_9 : decode cX9_bucketsToWaste 9 = .ok (.iconst 1, 1) := by decide +kernel
theorem dX9_bucketsToWaste_10 : decode cX9_bucketsToWaste 10 = .ok (.goto 20, 3) := by decide +kernel
theorem dX9_bucketsToWaste_13 : decode cX9_bucketsToWaste 13 = .ok (.iload_n 2, 1) := by decide +kernel
theorem dX9_bucketsToWaste_14 : decode cX9_bucketsToWaste 14 = .ok (.i2l, 1) := by decide +kernel
theorem dX9_bucketsToWaste_15 : decode cX9_bucketsToWaste 15 = .ok (.lconst 1, 1) := by decide +kernel
theorem dX9_bucketsToWaste_16 : decode cX9_bucketsToWaste 16 = .ok (.ldc2_w 151, 3) := by decide +kernel
theorem dX9_bucketsToWaste_19 : decode cX9_bucketsToWaste 19 = .ok (.invokestatic 58, 3) := by decide +kernel
theorem dX9_bucketsToWaste_22 : decode cX9_bucketsToWaste 22 = .ok (.ifCond .ne 7, 3) := by decide +kernel
theorem dX9_bucketsToWaste_25 : decode cX9_bucketsToWaste 25 = .ok (.iconst 2, 1) := by decide +kernel
theorem dX9_bucketsToWaste_26 : decode cX9_bucketsToWaste 26 = .ok (.goto 4, 3) := by decide +kernel
theorem dX9_bucketsToWaste_29 : decode cX9_bucketsToWaste 29 = .ok (.iconst 0, 1) := by decide +kernel
theorem dX9_bucketsToWaste_30 : decode cX9_bucketsToWaste 30 = .ok (.invokevirtual 77, 3) := by decide +kernel
theorem dX9_bucketsToWaste_33 : decode cX9_bucketsToWaste 33 = .ok (.ifCond .eq 5, 3) := by decide +kernel
theorem dX9_bucketsToWaste_36 : decode cX9_bucketsToWaste 36 = .ok (.iconst 0, 1) := by decide +kernel
theorem dX9_bucketsToWaste_37 : decode cX9_bucketsToWaste 37 = .ok (.ireturn, 1) := by decide +kernel
theorem dX9_bucketsToWaste_38 : decode cX9_bucketsToWaste 38 = .ok (.aload_n 0, 1) := by decide +kernel
theorem dX9_bucketsToWaste_39 : decode cX9_bucketsToWaste 39 = .ok (.getfield 16, 3) := by decide +kernel
theorem dX9_bucketsToWaste_42 : decode cX9_bucketsToWaste 42 = .ok (.iconst 0, 1) := by decide +kernel
theorem dX9_bucketsToWaste_43 : decode cX9_bucketsToWaste 43 = .ok (.iload_n 1, 1) := by decide +kernel
theorem dX9_bucketsToWaste_44 : decode cX9_bucketsToWaste 44 = .ok (.invokestatic 111, 3) := by decide +kernel
theorem dX9_bucketsToWaste_47 : decode cX9_bucketsToWaste 47 = .ok (.istore_n 3, 1) := by decide +kernel
theorem dX9_bucketsToWaste_48 : decode cX9_bucketsToWaste 48 = .ok (.iconst 0, 1) := by decide +kernel
theorem dX9_bucketsToWaste_49 : decode cX9_bucketsToWaste 49 = .ok (.istore 4, 2) := by decide +kernel
theorem dX9_bucketsToWaste_51 : decode cX9_bucketsToWaste 51 = .ok (.iload 4, 2) := by decide +kernel
theorem dX9_bucketsToWaste_53 : decode cX9_bucketsToWaste 53 = .ok (.iload_n 3, 1) := by decide +kernel
theorem dX9_bucketsToWaste_54 : decode cX9_bucketsToWaste 54 = .ok (.if_icmp .ge 27, 3) := by decide +kernel
theorem dX9_bucketsToWaste_57 : decode cX9_bucketsToWaste 57 = .ok (.aload_n 0, 1) := by decide +kernel
theorem dX9_bucketsToWaste_58 : decode cX9_bucketsToWaste 58 = .ok (.getfield 16, 3) := by decide +kernel
theorem dX9_bucketsToWaste_61 : decode cX9_bucketsToWaste 61 = .ok (.iconst 0, 1) := by decide +kernel
theorem dX9_bucketsToWaste_62 : decode cX9_bucketsToWaste 62 = .ok (.iload_n 1, 1) := by decide +kernel
theorem dX9_bucketsToWaste_63 : decode cX9_bucketsToWaste 63 = .ok (.iload 4, 2) := by decide +kernel
theorem dX9_bucketsToWaste_65 : decode cX9_bucketsToWaste 65 = .ok (.invokestatic 121, 3) := by decide +kernel
theorem dX9_bucketsToWaste_68 : decode cX9_bucketsToWaste 68 = .ok (.iload_n 2, 1) := by decide +kernel
theorem dX9_bucketsToWaste_69 : decode cX9_bucketsToWaste 69 = .ok (.if_icmp .ge 6, 3) := by decide +kernel
theorem dX9_bucketsToWaste_72 : decode cX9_bucketsToWaste 72 = .ok (.iload 4, 2) := by decide +kernel
theorem dX9_bucketsToWaste_74 : decode cX9_bucketsToWaste 74 = .ok (.ireturn, 1) := by decide +kernel
theorem dX9_bucketsToWaste_75 : decode cX9_bucketsToWaste 75 = .ok (.iinc 4 1, 3) := by decide +kernel
theorem dX9_bucketsToWaste_78 : decode cX9_bucketsToWaste 78 = .ok (.goto (-27), 3) := by decide +kernel
theorem dX9_bucketsToWaste_81 : decode cX9_bucketsToWaste 81 = .ok (.bipush (-9), 2) := by decide +kernel
theorem dX9_bucketsToWaste_83 : decode cX9_bucketsToWaste 83 = .ok (.ireturn, 1) := by decide +kernel
set_option maxRecDepth 20000 in
theorem ggX9_fewest_X9_points : GoodIn wsX9_fewest wsX9_points := goodIn_r _ [7, 8, 9, 17, 18, 19, 20, 21, 22, 23, 24, 25, 26, 27, 28, 29, 30, 31, 32, 33, 34, 35, 36] (by decide +kernel) (by decide +kernel)
set_option maxRecDepth 20000 in
theorem gX9_fewest_X9_points : GoodIn wsX9_fewest (wsV RX9 54 RX9 yX9_points wsX9_points) := goodIn_app (goodIn_of _ (by decide +kernel)) ggX9_fewest_X9_points
set_option maxRecDepth 20000 in
theorem ggX9_fewest_X9_areBeside : GoodIn wsX9_fewest wsX9_areBeside := goodIn_r _ [13, 9, 17, 18, 19, 20, 21, 22, 23, 24, 25, 26, 27, 28, 29, 30, 31, 32, 33, 34, 35, 36] (by decide +kernel) (by decide +kernel)
set_option maxRecDepth 20000 in
theorem gX9_fewest_X9_areBeside : GoodIn wsX9_fewest (wsV RX9 107 RX9 yX9_areBeside wsX9_areBeside) := goodIn_app (goodIn_of _ (by decide +kernel)) ggX9_fewest_X9_areBeside
set_option maxRecDepth 20000 in
theorem ggX9_fewest_X9_remainingOf : GoodIn wsX9_fewest wsX9_remainingOf := goodIn_r _ [16] (by decide +kernel) (by decide +kernel)
set_option maxRecDepth 20000 in
theorem gX9_fewest_X9_remainingOf : GoodIn wsX9_fewest (va_wsS RX9 111 yX9_remainingOf wsX9_remainingOf) := goodIn_app (goodIn_of _ (by decide +kernel)) ggX9_fewest_X9_remainingOf
theorem dX9_fewest_0 : decode cX9_fewest 0 = .ok (.iconst 0, 1) := by decide +kernel
theorem dX9_fewest_1 : decode cX9_fewest 1 = .ok (.istore_n 3, 1) := by decide +kernel
theorem dX9_fewest_2 : decode cX9_fewest 2 = .ok (.iload_n 3, 1) := by decide +kernel
theorem dX9_fewest_3 : decode cX9_fewest 3 = .ok (.aload_n 0, 1) := by decide +kernel
theorem dX9_fewest_4 : decode cX9_fewest 4 = .ok (.invokevirtual 54, 3) := by decide +kernel
theorem dX9_fewest_7 : decode cX9_fewest 7 = .ok (.if_icmp .ge 37, 3) := by decide +kernel
theorem dX9_fewest_10 : decode cX9_fewest 10 = .ok (.aload_n 0, 1) := by decide +kernel
theorem dX9_fewest_11 : decode cX9_fewest 11 = .ok (.getfield 39, 3) := by decide +kernel
theorem dX9_fewest_14 : decode cX9_fewest 14 = .ok (.iload_n 3, 1) := by decide +kernel
theorem dX9_fewest_15 : decode cX9_fewest 15 = .ok (.aload_n 0, 1) := by decide +kernel
theorem dX9_fewest_16 : decode cX9_fewest 16 = .ok (.getfield 16, 3) := by decide +kernel
theorem dX9_fewest_19 : decode cX9_fewest 19 = .ok (.bipush 15, 2) := by decide +kernel
theorem dX9_fewest_21 : decode cX9_fewest 21 = .ok (.iload_n 3, 1) := by decide +kernel
theorem dX9_fewest_22 : decode cX9_fewest 22 = .ok (.imul, 1) := by decide +kernel
theorem dX9_fewest_23 : decode cX9_fewest 23 = .ok (.iconst 0, 1) := by decide +kernel
theorem dX9_fewest_24 : decode cX9_fewest 24 = .ok (.iadd, 1) := by decide +kernel
theorem dX9_fewest_25 : decode cX9_fewest 25 = .ok (.iaload, 1) := by decide +kernel
theorem dX9_fewest_26 : decode cX9_fewest 26 = .ok (.iload_n 3, 1) := by decide +kernel
theorem dX9_fewest_27 : decode cX9_fewest 27 = .ok (.iload_n 1, 1) := by decide +kernel
theorem dX9_fewest_28 : decode cX9_fewest 28 = .ok (.if_icmp .ne 7, 3) := by decide +kernel
theorem dX9_fewest_31 : decode cX9_fewest 31 = .ok (.iload_n 2, 1) := by decide +kernel
theorem dX9_fewest_32 : decode cX9_fewest 32 = .ok (.goto 4, 3) := by decide +kernel
theorem dX9_fewest_35 : decode cX9_fewest 35 = .ok (.iconst 0, 1) := by decide +kernel
theorem dX9_fewest_36 : decode cX9_fewest 36 = .ok (.iadd, 1) := by decide +kernel
theorem dX9_fewest_37 : decode cX9_fewest 37 = .ok (.iastore, 1) := by decide +kernel
theorem dX9_fewest_38 : decode cX9_fewest 38 = .ok (.iinc 3 1, 3) := by decide +kernel
theorem dX9_fewest_41 : decode cX9_fewest 41 = .ok (.goto (-39), 3) := by decide +kernel
theorem dX9_fewest_44 : decode cX9_fewest 44 = .ok (.iconst 1, 1) := by decide +kernel
theorem dX9_fewest_45 : decode cX9_fewest 45 = .ok (.istore_n 3, 1) := by decide +kernel
theorem dX9_fewest_46 : decode cX9_fewest 46 = .ok (.iload_n 3, 1) := by decide +kernel
theorem dX9_fewest_47 : decode cX9_fewest 47 = .ok (.ifCond .eq 106, 3) := by decide +kernel
theorem dX9_fewest_50 : decode cX9_fewest 50 = .ok (.iconst 0, 1) := by decide +kernel
theorem dX9_fewest_51 : decode cX9_fewest 51 = .ok (.istore_n 3, 1) := by decide +kernel
theorem dX9_fewest_52 : decode cX9_fewest 52 = .ok (.iconst 0, 1) := by decide +kernel
theorem dX9_fewest_53 : decode cX9_fewest 53 = .ok (.istore 4, 2) := by decide +kernel
theorem dX9_fewest_55 : decode cX9_fewest 55 = .ok (.iload 4, 2) := by decide +kernel
theorem dX9_fewest_57 : decode cX9_fewest 57 = .ok (.aload_n 0, 1) := by decide +kernel
theorem dX9_fewest_58 : decode cX9_fewest 58 = .ok (.invokevirtual 54, 3) := by decide +kernel
theorem dX9_fewest_61 : decode cX9_fewest 61 = .ok (.if_icmp .ge 89, 3) := by decide +kernel
theorem dX9_fewest_64 : decode cX9_fewest 64 = .ok (.iconst 0, 1) := by decide +kernel
theorem dX9_fewest_65 : decode cX9_fewest 65 = .ok (.istore 5, 2) := by decide +kernel
theorem dX9_fewest_67 : decode cX9_fewest 67 = .ok (.iload 5, 2) := by decide +kernel
theorem dX9_fewest_69 : decode cX9_fewest 69 = .ok (.aload_n 0, 1) := by decide +kernel
theorem dX9_fewest_70 : decode cX9_fewest 70 = .ok (.invokevirtual 54, 3) := by decide +kernel
theorem dX9_fewest_73 : decode cX9_fewest 73 = .ok (.if_icmp .ge 71, 3) := by decide +kernel
theorem dX9_fewest_76 : decode cX9_fewest 76 = .ok (.aload_n 0, 1) := by decide +kernel
theorem dX9_fewest_77 : decode cX9_fewest 77 = .ok (.iload 4, 2) := by decide +kernel
theorem dX9_fewest_79 : decode cX9_fewest 79 = .ok (.iload 5, 2) := by decide +kernel
theorem dX9_fewest_81 : decode cX9_fewest 81 = .ok (.invokevirtual 107, 3) := by decide +kernel
theorem dX9_fewest_84 : decode cX9_fewest 84 = .ok (.ifCond .eq 54, 3) := by decide +kernel
theorem dX9_fewest_87 : decode cX9_fewest 87 = .ok (.aload_n 0, 1) := by decide +kernel
theorem dX9_fewest_88 : decode cX9_fewest 88 = .ok (.getfield 39, 3) := by decide +kernel
theorem dX9_fewest_91 : decode cX9_fewest 91 = .ok (.iload 5, 2) := by decide +kernel
theorem dX9_fewest_93 : decode cX9_fewest 93 = .ok (.iaload, 1) := by decide +kernel
theorem dX9_fewest_94 : decode cX9_fewest 94 = .ok (.aload_n 0, 1) := by decide +kernel
theorem dX9_fewest_95 : decode cX9_fewest 95 = .ok (.getfield 39, 3) := by decide +kernel
theorem dX9_fewest_98 : decode cX9_fewest 98 = .ok (.iload 4, 2) := by decide +kernel
theorem dX9_fewest_100 : decode cX9_fewest 100 = .ok (.iaload, 1) := by decide +kernel
theorem dX9_fewest_101 : decode cX9_fewest 101 = .ok (.aload_n 0, 1) := by decide +kernel
theorem dX9_fewest_102 : decode cX9_fewest 102 = .ok (.getfield 16, 3) := by decide +kernel
theorem dX9_fewest_105 : decode cX9_fewest 105 = .ok (.sipush 240, 3) := by decide +kernel
theorem dX9_fewest_108 : decode cX9_fewest 108 = .ok (.iaload, 1) := by decide +kernel
theorem dX9_fewest_109 : decode cX9_fewest 109 = .ok (.isub, 1) := by decide +kernel
theorem dX9_fewest_110 : decode cX9_fewest 110 = .ok (.if_icmp .ge 28, 3) := by decide +kernel
theorem dX9_fewest_113 : decode cX9_fewest 113 = .ok (.aload_n 0, 1) := by decide +kernel
theorem dX9_fewest_114 : decode cX9_fewest 114 = .ok (.getfield 39, 3) := by decide +kernel
theorem dX9_fewest_117 : decode cX9_fewest 117 = .ok (.iload 5, 2) := by decide +kernel
theorem dX9_fewest_119 : decode cX9_fewest 119 = .ok (.aload_n 0, 1) := by decide +kernel
theorem dX9_fewest_120 : decode cX9_fewest 120 = .ok (.getfield 39, 3) := by decide +kernel
theorem dX9_fewest_123 : decode cX9_fewest 123 = .ok (.iload 4, 2) := by decide +kernel
theorem dX9_fewest_125 : decode cX9_fewest 125 = .ok (.iaload, 1) := by decide +kernel
theorem dX9_fewest_126 : decode cX9_fewest 126 = .ok (.aload_n 0, 1) := by decide +kernel
theorem dX9_fewest_127 : decode cX9_fewest 127 = .ok (.getfield 16, 3) := by decide +kernel
theorem dX9_fewest_130 : decode cX9_fewest 130 = .ok (.sipush 240, 3) := by decide +kernel
theorem dX9_fewest_133 : decode cX9_fewest 133 = .ok (.iaload, 1) := by decide +kernel
theorem dX9_fewest_134 : decode cX9_fewest 134 = .ok (.isub, 1) := by decide +kernel
theorem dX9_fewest_135 : decode cX9_fewest 135 = .ok (.iastore, 1) := by decide +kernel
theorem dX9_fewest_136 : decode cX9_fewest 136 = .ok (.iconst 1, 1) := by decide +kernel
theorem dX9_fewest_137 : decode cX9_fewest 137 = .ok (.istore_n 3, 1) := by decide +kernel
theorem dX9_fewest_138 : decode cX9_fewest 138 = .ok (.iinc 5 1, 3) := by decide +kernel
theorem dX9_fewest_141 : decode cX9_fewest 141 = .ok (.goto (-74), 3) := by decide +kernel
theorem dX9_fewest_144 : decode cX9_fewest 144 = .ok (.iinc 4 1, 3) := by decide +kernel
theorem dX9_fewest_147 : decode cX9_fewest 147 = .ok (.goto (-92), 3) := by decide +kernel
theorem dX9_fewest_150 : decode cX9_fewest 150 = .ok (.goto (-104), 3) := by decide +kernel
theorem dX9_fewest_153 : decode cX9_fewest 153 = .ok (.iconst 0, 1) := by decide +kernel
theorem dX9_fewest_154 : decode cX9_fewest 154 = .ok (.istore 4, 2) := by decide +kernel
theorem dX9_fewest_156 : decode cX9_fewest 156 = .ok (.iconst 1, 1) := by decide +kernel
theorem dX9_fewest_157 : decode cX9_fewest 157 = .ok (.istore 5, 2) := by decide +kernel
theorem dX9_fewest_159 : decode cX9_fewest 159 = .ok (.iconst 0, 1) := by decide +kernel
theorem dX9_fewest_160 : decode cX9_fewest 160 = .ok (.istore 6, 2) := by decide +kernel
theorem dX9_fewest_162 : decode cX9_fewest 162 = .ok (.iload 6, 2) := by decide +kernel
theorem dX9_fewest_164 : decode cX9_fewest 164 = .ok (.aload_n 0, 1) := by decide +kernel
theorem dX9_fewest_165 : decode cX9_fewest 165 = .ok (.invokevirtual 54, 3) := by decide +kernel
theorem dX9_fewest_168 : decode cX9_fewest 168 = .ok (.if_icmp .ge 85, 3) := by decide +kernel
theorem dX9_fewest_171 : decode cX9_fewest 171 = .ok (.aload_n 0, 1) := by decide +kernel
theorem dX9_fewest_172 : decode cX9_fewest 172 = .ok (.getfield 39, 3) := by decide +kernel
theorem dX9_fewest_175 : decode cX9_fewest 175 = .ok (.iload 6, 2) := by decide +kernel
theorem dX9_fewest_177 : decode cX9_fewest 177 = .ok (.iaload, 1) := by decide +kernel
theorem dX9_fewest_178 : decode cX9_fewest 178 = .ok (.aload_n 0, 1) := by decide +kernel
theorem dX9_fewest_179 : decode cX9_fewest 179 = .ok (.getfield 16, 3) := by decide +kernel
theorem dX9_fewest_182 : decode cX9_fewest 182 = .ok (.bipush 15, 2) := by decide +kernel
theorem dX9_fewest_184 : decode cX9_fewest 184 = .ok (.iload 6, 2) := by decide +kernel
theorem dX9_fewest_186 : decode cX9_fewest 186 = .ok (.imul, 1) := by decide +kernel
theorem dX9_fewest_187 : decode cX9_fewest 187 = .ok (.iconst 0, 1) := by decide +kernel
theorem dX9_fewest_188 : decode cX9_fewest 188 = .ok (.iadd, 1) := by decide +kernel
theorem dX9_fewest_189 : decode cX9_fewest 189 = .ok (.iaload, 1) := by decide +kernel
theorem dX9_fewest_190 : decode cX9_fewest 190 = .ok (.isub, 1) := by decide +kernel
theorem dX9_fewest_191 : decode cX9_fewest 191 = .ok (.istore 7, 2) := by decide +kernel
theorem dX9_fewest_193 : decode cX9_fewest 193 = .ok (.iload 5, 2) := by decide +kernel
theorem dX9_fewest_195 : decode cX9_fewest 195 = .ok (.ifCond .eq 42, 3) := by decide +kernel
theorem dX9_fewest_198 : decode cX9_fewest 198 = .ok (.iload 7, 2) := by decide +kernel
theorem dX9_fewest_200 : decode cX9_fewest 200 = .ok (.ifCond .eq 33, 3) := by decide +kernel
theorem dX9_fewest_203 : decode cX9_fewest 203 = .ok (.aload_n 0, 1) := by decide +kernel
theorem dX9_fewest_204 : decode cX9_fewest 204 = .ok (.getfield 16, 3) := by decide +kernel
theorem dX9_fewest_207 : decode cX9_fewest 207 = .ok (.bipush 15, 2) := by decide +kernel
theorem dX9_fewest_209 : decode cX9_fewest 209 = .ok (.iload 6, 2) := by decide +kernel
theorem dX9_fewest_211 : decode cX9_fewest 211 = .ok (.imul, 1) := by decide +kernel
theorem dX9_fewest_212 : decode cX9_fewest 212 = .ok (.iconst 1, 1) := by decide +kernel
theorem dX9_fewest_213 : decode cX9_fewest 213 = .ok (.iadd, 1) := by decide +kernel
theorem dX9_fewest_214 : decode cX9_fewest 214 = .ok (.iaload, 1) := by decide +kernel
theorem dX9_fewest_215 : decode cX9_fewest 215 = .ok (.ifCond .ne 22, 3) := by decide +kernel
theorem dX9_fewest_218 : decode cX9_fewest 218 = .ok (.iload 7, 2) := by decide +kernel
theorem dX9_fewest_220 : decode cX9_fewest 220 = .ok (.aload_n 0, 1) := by decide +kernel
theorem dX9_fewest_221 : decode cX9_fewest 221 = .ok (.getfield 16, 3) := by decide +kernel
theorem dX9_fewest_224 : decode cX9_fewest 224 = .ok (.iconst 0, 1) := by decide +kernel
theorem dX9_fewest_225 : decode cX9_fewest 225 = .ok (.iload 6, 2) := by decide +kernel
theorem dX9_fewest_227 : decode cX9_fewest 227 = .ok (.invokestatic 111, 3) := by decide +kernel
theorem dX9_fewest_230 : decode cX9_fewest 230 = .ok (.if_icmp .gt 7, 3) := by decide +kernel
theorem dX9_fewest_233 : decode cX9_fewest 233 = .ok (.iconst 1, 1) := by decide +kernel
theorem dX9_fewest_234 : decode cX9_fewest 234 = .ok (.goto 4, 3) := by decide +kernel
theorem dX9_fewest_237 : decode cX9_fewest 237 = .ok (.iconst 0, 1) := by decide +kernel
theorem dX9_fewest_238 : decode cX9_fewest 238 = .ok (.istore 5, 2) := by decide +kernel
theorem dX9_fewest_240 : decode cX9_fewest 240 = .ok (.iload 4, 2) := by decide +kernel
theorem dX9_fewest_242 : decode cX9_fewest 242 = .ok (.iload 7, 2) := by decide +kernel
theorem dX9_fewest_244 : decode cX9_fewest 244 = .ok (.iadd, 1) := by decide +kernel
theorem dX9_fewest_245 : decode cX9_fewest 245 = .ok (.istore 4, 2) := by decide +kernel
theorem dX9_fewest_247 : decode cX9_fewest 247 = .ok (.iinc 6 1, 3) := by decide +kernel
theorem dX9_fewest_250 : decode cX9_fewest 250 = .ok (.goto (-88), 3) := by decide +kernel
theorem dX9_fewest_253 : decode cX9_fewest 253 = .ok (.iload 5, 2) := by decide +kernel
theorem dX9_fewest_255 : decode cX9_fewest 255 = .ok (.ifCond .eq 8, 3) := by decide +kernel
theorem dX9_fewest_258 : decode cX9_fewest 258 = .ok (.iload 4, 2) := by decide +kernel
theorem dX9_fewest_260 : decode cX9_fewest 260 = .ok (.goto 5, 3) := by decide +kernel
theorem dX9_fewest_263 : decode cX9_fewest 263 = .ok (.bipush (-9), 2) := by decide +kernel
theorem dX9_fewest_265 : decode cX9_fewest 265 = .ok (.ireturn, 1) := by decide +kernel
set_option maxRecDepth 20000 in
theorem ggX9_bucketsFor_X9_isPoint : GoodIn wsX9_bucketsFor wsX9_isPoint := goodIn_r _ [6, 7, 8, 9, 5, 10, 11, 12, 13, 14, 15, 34, 35, 36, 37, 38, 39, 40, 41, 42, 43, 44, 45, 46, 47, 48, 49, 50, 51, 52, 53] (by decide +kernel) (by decide +kernel)
set_option maxRecDepth 20000 in
theorem gX9_bucketsFor_X9_isPoint : GoodIn wsX9_bucketsFor (wsV RX9 125 RX9 yX9_isPoint wsX9_isPoint) := goodIn_app (goodIn_of _ (by decide +kernel)) ggX9_bucketsFor_X9_isPoint
set_option maxRecDepth 20000 in
theorem ggX9_bucketsFor_X9_in : GoodIn wsX9_bucketsFor wsX9_in := goodIn_r _ [15] (by decide +kernel) (by decide +kernel)
set_option maxRecDepth 20000 in
theorem gX9_bucketsFor_X9_in : GoodIn wsX9_bucketsFor (va_wsS RX9 58 yX9_in wsX9_in) := goodIn_app (goodIn_of _ (by decide +kernel)) ggX9_bucketsFor_X9_in
set_option maxRecDepth 20000 in
theorem ggX9_bucketsFor_X9_refused : GoodIn wsX9_bucketsFor wsX9_refused := goodIn_r _ [19, 20, 34, 35, 36, 37, 38, 39, 40, 41, 42, 43, 44, 45, 46, 47, 48, 49, 50, 51, 52, 53] (by decide +kernel) (by decide +kernel)
set_option maxRecDepth 20000 in
theorem gX9_bucketsFor_X9_refused : GoodIn wsX9_bucketsFor (wsV RX9 77 RX9 yX9_refused wsX9_refused) := goodIn_app (goodIn_of _ (by decide +kernel)) ggX9_bucketsFor_X9_refused
set_option maxRecDepth 20000 in
theorem ggX9_bucketsFor_X9_fewest : GoodIn wsX9_bucketsFor wsX9_fewest := goodIn_r _ [24, 25, 26, 7, 8, 9, 5, 10, 11, 12, 27, 28, 29, 30, 31, 32, 33, 34, 35, 36, 37, 38, 39, 40, 41, 42, 43, 44, 45, 46, 47, 48, 49, 50, 51, 52, 53] (by decide +kernel) (by decide +kernel)
set_option maxRecDepth 20000 in
theorem gX9_bucketsFor_X9_fewest : GoodIn wsX9_bucketsFor (wsV RX9 158 RX9 yX9_fewest wsX9_fewest) := goodIn_app (goodIn_of _ (by decide +kernel)) ggX9_bucketsFor_X9_fewest
theorem dX9_bucketsFor_0 : decode cX9_bucketsFor 0 = .ok (.aload_n 0, 1) := by decide +kernel
theorem dX9_bucketsFor_1 : decode cX9_bucketsFor 1 = .ok (.aload_n 0, 1) := by decide +kernel
theorem dX9_bucketsFor_2 : decode cX9_bucketsFor 2 = .ok (.iload_n 1, 1) := by decide +kernel
theorem dX9_bucketsFor_3 : decode cX9_bucketsFor 3 = .ok (.invokevirtual 125, 3) := by decide +kernel
theorem dX9_bucketsFor_6 : decode cX9_bucketsFor 6 = .ok (.ifCond .ne 7, 3) := by decide +kernel
theorem dX9_bucketsFor_9 : decode cX9_bucketsFor 9 = .ok (.iconst 1, 1) := by decide +kernel
theorem dX9_bucketsFor_10 : decode cX9_bucketsFor 10 = .ok (.goto 20, 3) := by decide +kernel
theorem dX9_bucketsFor_13 : decode cX9_bucketsFor 13 = .ok (.iload_n 2, 1) := by decide +kernel
theorem dX9_bucketsFor_14 : decode cX9_bucketsFor 14 = .ok (.i2l, 1) := by decide +kernel
theorem dX9_bucketsFor_15 : decode cX9_bucketsFor 15 = .ok (.lconst 1, 1) := by decide +kernel
theorem dX9_bucketsFor_16 : decode cX9_bucketsFor 16 = .ok (.ldc2_w 156, 3) := by decide +kernel
theorem dX9_bucketsFor_19 : decode cX9_bucketsFor 19 = .ok (.invokestatic 58, 3) := by decide +kernel
theorem dX9_bucketsFor_22 : decode cX9_bucketsFor 22 = .ok (.ifCond .ne 7, 3) := by decide +kernel
theorem dX9_bucketsFor_25 : decode cX9_bucketsFor 25 = .ok (.iconst 2, 1) := by decide +kernel
theorem dX9_bucketsFor_26 : decode cX9_bucketsFor 26 = .ok (.goto 4, 3) := by decide +kernel
theorem dX9_bucketsFor_29 : decode cX9_bucketsFor 29 = .ok (.iconst 0, 1) := by decide +kernel
theorem dX9_bucketsFor_30 : decode cX9_bucketsFor 30 = .ok (.invokevirtual 77, 3) := by decide +kernel
theorem dX9_bucketsFor_33 : decode cX9_bucketsFor 33 = .ok (.ifCond .eq 5, 3) := by decide +kernel
theorem dX9_bucketsFor_36 : decode cX9_bucketsFor 36 = .ok (.iconst 0, 1) := by decide +kernel
theorem dX9_bucketsFor_37 : decode cX9_bucketsFor 37 = .ok (.ireturn, 1) := by decide +kernel
theorem dX9_bucketsFor_38 : decode cX9_bucketsFor 38 = .ok (.aload_n 0, 1) := by decide +kernel
theorem dX9_bucketsFor_39 : decode cX9_bucketsFor 39 = .ok (.iload_n 1, 1) := by decide +kernel
theorem dX9_bucketsFor_40 : decode cX9_bucketsFor 40 = .ok (.iload_n 2, 1) := by decide +kernel
theorem dX9_bucketsFor_41 : decode cX9_bucketsFor 41 = .ok (.invokevirtual 158, 3) := by decide +kernel
theorem dX9_bucketsFor_44 : decode cX9_bucketsFor 44 = .ok (.ireturn, 1) := by decide +kernel
set_option maxRecDepth 20000 in
theorem ggX9_mostFrom_X9_isPoint : GoodIn wsX9_mostFrom wsX9_isPoint := goodIn_r _ [5, 6, 7, 8, 4, 9, 10, 11, 12, 13, 14, 33, 34, 35, 36, 37, 38, 39, 40, 41, 42, 43, 44, 45, 46, 47, 48, 49, 50, 51, 52] (by decide +kernel) (by decide +kernel)
set_option maxRecDepth 20000 in
theorem gX9_mostFrom_X9_isPoint : GoodIn wsX9_mostFrom (wsV RX9 125 RX9 yX9_isPoint wsX9_isPoint) := goodIn_app (goodIn_of _ (by decide +kernel)) ggX9_mostFrom_X9_isPoint
set_option maxRecDepth 20000 in
theorem ggX9_mostFrom_X9_refused : GoodIn wsX9_mostFrom wsX9_refused := goodIn_r _ [18, 19, 33, 34, 35, 36, 37, 38, 39, 40, 41, 42, 43, 44, 45, 46, 47, 48, 49, 50, 51, 52] (by decide +kernel) (by decide +kernel)
set_option maxRecDepth 20000 in
theorem gX9_mostFrom_X9_refused : GoodIn wsX9_mostFrom (wsV RX9 77 RX9 yX9_refused wsX9_refused) := goodIn_app (goodIn_of _ (by decide +kernel)) ggX9_mostFrom_X9_refused
set_option maxRecDepth 20000 in
theorem ggX9_mostFrom_X9_fewest : GoodIn wsX9_mostFrom wsX9_fewest := goodIn_r _ [23, 24, 25, 6, 7, 8, 4, 9, 10, 11, 26, 27, 28, 29, 30, 31, 32, 33, 34, 35, 36, 37, 38, 39, 40, 41, 42, 43, 44, 45, 46, 47, 48, 49, 50, 51, 52] (by decide +kernel) (by decide +kernel)
set_option maxRecDepth 20000 in
theorem gX9_mostFrom_X9_fewest : GoodIn wsX9_mostFrom (wsV RX9 158 RX9 yX9_fewest wsX9_fewest) := goodIn_app (goodIn_of _ (by decide +kernel)) ggX9_mostFrom_X9_fewest
theorem dX9_mostFrom_0 : decode cX9_mostFrom 0 = .ok (.aload_n 0, 1) := by decide +kernel
theorem dX9_mostFrom_1 : decode cX9_mostFrom 1 = .ok (.aload_n 0, 1) := by decide +kernel
theorem dX9_mostFrom_2 : decode cX9_mostFrom 2 = .ok (.iload_n 1, 1) := by decide +kernel
theorem dX9_mostFrom_3 : decode cX9_mostFrom 3 = .ok (.invokevirtual 125, 3) := by decide +kernel
theorem dX9_mostFrom_6 : decode cX9_mostFrom 6 = .ok (.ifCond .eq 7, 3) := by decide +kernel
theorem dX9_mostFrom_9 : decode cX9_mostFrom 9 = .ok (.iconst 0, 1) := by decide +kernel
theorem dX9_mostFrom_10 : decode cX9_mostFrom 10 = .ok (.goto 4, 3) := by decide +kernel
theorem dX9_mostFrom_13 : decode cX9_mostFrom 13 = .ok (.iconst 1, 1) := by decide +kernel
theorem dX9_mostFrom_14 : decode cX9_mostFrom 14 = .ok (.invokevirtual 77, 3) := by decide +kernel
theorem dX9_mostFrom_17 : decode cX9_mostFrom 17 = .ok (.ifCond .eq 5, 3) := by decide +kernel
theorem dX9_mostFrom_20 : decode cX9_mostFrom 20 = .ok (.iconst 0, 1) := by decide +kernel
theorem dX9_mostFrom_21 : decode cX9_mostFrom 21 = .ok (.ireturn, 1) := by decide +kernel
theorem dX9_mostFrom_22 : decode cX9_mostFrom 22 = .ok (.iconst 0, 1) := by decide +kernel
theorem dX9_mostFrom_23 : decode cX9_mostFrom 23 = .ok (.istore_n 2, 1) := by decide +kernel
theorem dX9_mostFrom_24 : decode cX9_mostFrom 24 = .ok (.aload_n 0, 1) := by decide +kernel
theorem dX9_mostFrom_25 : decode cX9_mostFrom 25 = .ok (.iload_n 1, 1) := by decide +kernel
theorem dX9_mostFrom_26 : decode cX9_mostFrom 26 = .ok (.iload_n 2, 1) := by decide +kernel
theorem dX9_mostFrom_27 : decode cX9_mostFrom 27 = .ok (.iconst 1, 1) := by decide +kernel
theorem dX9_mostFrom_28 : decode cX9_mostFrom 28 = .ok (.iadd, 1) := by decide +kernel
theorem dX9_mostFrom_29 : decode cX9_mostFrom 29 = .ok (.invokevirtual 158, 3) := by decide +kernel
theorem dX9_mostFrom_32 : decode cX9_mostFrom 32 = .ok (.bipush (-9), 2) := by decide +kernel
theorem dX9_mostFrom_34 : decode cX9_mostFrom 34 = .ok (.if_icmp .eq 9, 3) := by decide +kernel
theorem dX9_mostFrom_37 : decode cX9_mostFrom 37 = .ok (.iinc 2 1, 3) := by decide +kernel
theorem dX9_mostFrom_40 : decode cX9_mostFrom 40 = .ok (.goto (-16), 3) := by decide +kernel
theorem dX9_mostFrom_43 : decode cX9_mostFrom 43 = .ok (.iload_n 2, 1) := by decide +kernel
theorem dX9_mostFrom_44 : decode cX9_mostFrom 44 = .ok (.ireturn, 1) := by decide +kernel
set_option maxRecDepth 20000 in
theorem ggX9_lookLast_X9_points : GoodIn wsX9_lookLast wsX9_points := goodIn_r _ [8, 9, 10, 34, 35, 36, 37, 38, 39, 40, 41, 42, 43, 44, 45, 46, 47, 48, 49, 50, 51, 52, 53] (by decide +kernel) (by decide +kernel)
set_option maxRecDepth 20000 in
theorem gX9_lookLast_X9_points : GoodIn wsX9_lookLast (wsV RX9 54 RX9 yX9_points wsX9_points) := goodIn_app (goodIn_of _ (by decide +kernel)) ggX9_lookLast_X9_points
set_option maxRecDepth 20000 in
theorem ggX9_lookLast_X9_isReadyIn : GoodIn wsX9_lookLast wsX9_isReadyIn := goodIn_r _ [14, 15, 16, 17, 7, 18, 19, 20, 21, 22, 23, 24, 25, 26, 4, 5, 6, 8, 9, 10, 27, 28, 29, 30, 34, 35, 36, 37, 38, 39, 40, 41, 42, 43, 44, 45, 46, 47, 48, 49, 50, 51, 52, 53] (by decide +kernel) (by decide +kernel)
set_option maxRecDepth 20000 in
theorem gX9_lookLast_X9_isReadyIn : GoodIn wsX9_lookLast (wsV RX9 130 RX9 yX9_isReadyIn wsX9_isReadyIn) := goodIn_app (goodIn_of _ (by decide +kernel)) ggX9_lookLast_X9_isReadyIn
set_option maxRecDepth 20000 in
theorem ggX9_lookLast_X9_gradeOf : GoodIn wsX9_lookLast wsX9_gradeOf := goodIn_r _ [33] (by decide +kernel) (by decide +kernel)
set_option maxRecDepth 20000 in
theorem gX9_lookLast_X9_gradeOf : GoodIn wsX9_lookLast (va_wsS RX9 121 yX9_gradeOf wsX9_gradeOf) := goodIn_app (goodIn_of _ (by decide +kernel)) ggX9_lookLast_X9_gradeOf
theorem dX9_lookLast_0 : decode cX9_lookLast 0 = .ok (.sipush 243, 3) := by decide +kernel
theorem dX9_lookLast_3 : decode cX9_lookLast 3 = .ok (.iload_n 2, 1) := by decide +kernel
theorem dX9_lookLast_4 : decode cX9_lookLast 4 = .ok (.imul, 1) := by decide +kernel
theorem dX9_lookLast_5 : decode cX9_lookLast 5 = .ok (.istore_n 3, 1) := by decide +kernel
theorem dX9_lookLast_6 : decode cX9_lookLast 6 = .ok (.iconst 0, 1) := by decide +kernel
theorem dX9_lookLast_7 : decode cX9_lookLast 7 = .ok (.istore 4, 2) := by decide +kernel
theorem dX9_lookLast_9 : decode cX9_lookLast 9 = .ok (.iload 4, 2) := by decide +kernel
theorem dX9_lookLast_11 : decode cX9_lookLast 11 = .ok (.aload_n 0, 1) := by decide +kernel
theorem dX9_lookLast_12 : decode cX9_lookLast 12 = .ok (.invokevirtual 54, 3) := by decide +kernel
theorem dX9_lookLast_15 : decode cX9_lookLast 15 = .ok (.if_icmp .ge 117, 3) := by decide +kernel
theorem dX9_lookLast_18 : decode cX9_lookLast 18 = .ok (.aload_n 0, 1) := by decide +kernel
theorem dX9_lookLast_19 : decode cX9_lookLast 19 = .ok (.aload_n 0, 1) := by decide +kernel
theorem dX9_lookLast_20 : decode cX9_lookLast 20 = .ok (.getfield 42, 3) := by decide +kernel
theorem dX9_lookLast_23 : decode cX9_lookLast 23 = .ok (.iload_n 3, 1) := by decide +kernel
theorem dX9_lookLast_24 : decode cX9_lookLast 24 = .ok (.iload 4, 2) := by decide +kernel
theorem dX9_lookLast_26 : decode cX9_lookLast 26 = .ok (.invokevirtual 130, 3) := by decide +kernel
theorem dX9_lookLast_29 : decode cX9_lookLast 29 = .ok (.ifCond .eq 37, 3) := by decide +kernel
theorem dX9_lookLast_32 : decode cX9_lookLast 32 = .ok (.aload_n 0, 1) := by decide +kernel
theorem dX9_lookLast_33 : decode cX9_lookLast 33 = .ok (.getfield 42, 3) := by decide +kernel
theorem dX9_lookLast_36 : decode cX9_lookLast 36 = .ok (.iload_n 3, 1) := by decide +kernel
theorem dX9_lookLast_37 : decode cX9_lookLast 37 = .ok (.sipush 242, 3) := by decide +kernel
theorem dX9_lookLast_40 : decode cX9_lookLast 40 = .ok (.iadd, 1) := by decide +kernel
theorem dX9_lookLast_41 : decode cX9_lookLast 41 = .ok (.iaload, 1) := by decide +kernel
theorem dX9_lookLast_42 : decode cX9_lookLast 42 = .ok (.aload_n 0, 1) := by decide +kernel
theorem dX9_lookLast_43 : decode cX9_lookLast 43 = .ok (.getfield 42, 3) := by decide +kernel
theorem dX9_lookLast_46 : decode cX9_lookLast 46 = .ok (.sipush 242, 3) := by decide +kernel
theorem dX9_lookLast_49 : decode cX9_lookLast 49 = .ok (.iaload, 1) := by decide +kernel
theorem dX9_lookLast_50 : decode cX9_lookLast 50 = .ok (.isub, 1) := by decide +kernel
theorem dX9_lookLast_51 : decode cX9_lookLast 51 = .ok (.aload_n 0, 1) := by decide +kernel
theorem dX9_lookLast_52 : decode cX9_lookLast 52 = .ok (.getfield 42, 3) := by decide +kernel
theorem dX9_lookLast_55 : decode cX9_lookLast 55 = .ok (.iload_n 3, 1) := by decide +kernel
theorem dX9_lookLast_56 : decode cX9_lookLast 56 = .ok (.iload 4, 2) := by decide +kernel
theorem dX9_lookLast_58 : decode cX9_lookLast 58 = .ok (.iconst 0, 1) := by decide +kernel
theorem dX9_lookLast_59 : decode cX9_lookLast 59 = .ok (.invokestatic 121, 3) := by decide +kernel
theorem dX9_lookLast_62 : decode cX9_lookLast 62 = .ok (.iadd, 1) := by decide +kernel
theorem dX9_lookLast_63 : decode cX9_lookLast 63 = .ok (.goto 5, 3) := by decide +kernel
theorem dX9_lookLast_66 : decode cX9_lookLast 66 = .ok (.bipush (-9), 2) := by decide +kernel
theorem dX9_lookLast_68 : decode cX9_lookLast 68 = .ok (.istore 5, 2) := by decide +kernel
theorem dX9_lookLast_70 : decode cX9_lookLast 70 = .ok (.iload 5, 2) := by decide +kernel
theorem dX9_lookLast_72 : decode cX9_lookLast 72 = .ok (.aload_n 0, 1) := by decide +kernel
theorem dX9_lookLast_73 : decode cX9_lookLast 73 = .ok (.getfield 48, 3) := by decide +kernel
theorem dX9_lookLast_76 : decode cX9_lookLast 76 = .ok (.iconst 4, 1) := by decide +kernel
theorem dX9_lookLast_77 : decode cX9_lookLast 77 = .ok (.iaload, 1) := by decide +kernel
theorem dX9_lookLast_78 : decode cX9_lookLast 78 = .ok (.if_icmp .le 48, 3) := by decide +kernel
theorem dX9_lookLast_81 : decode cX9_lookLast 81 = .ok (.aload_n 0, 1) := by decide +kernel
theorem dX9_lookLast_82 : decode cX9_lookLast 82 = .ok (.getfield 48, 3) := by decide +kernel
theorem dX9_lookLast_85 : decode cX9_lookLast 85 = .ok (.iconst 4, 1) := by decide +kernel
theorem dX9_lookLast_86 : decode cX9_lookLast 86 = .ok (.iload 5, 2) := by decide +kernel
theorem dX9_lookLast_88 : decode cX9_lookLast 88 = .ok (.iastore, 1) := by decide +kernel
theorem dX9_lookLast_89 : decode cX9_lookLast 89 = .ok (.aload_n 0, 1) := by decide +kernel
theorem dX9_lookLast_90 : decode cX9_lookLast 90 = .ok (.getfield 45, 3) := by decide +kernel
theorem dX9_lookLast_93 : decode cX9_lookLast 93 = .ok (.iload_n 2, 1) := by decide +kernel
theorem dX9_lookLast_94 : decode cX9_lookLast 94 = .ok (.iload 4, 2) := by decide +kernel
theorem dX9_lookLast_96 : decode cX9_lookLast 96 = .ok (.iastore, 1) := by decide +kernel
theorem dX9_lookLast_97 : decode cX9_lookLast 97 = .ok (.iconst 0, 1) := by decide +kernel
theorem dX9_lookLast_98 : decode cX9_lookLast 98 = .ok (.istore 6, 2) := by decide +kernel
theorem dX9_lookLast_100 : decode cX9_lookLast 100 = .ok (.iload 6, 2) := by decide +kernel
theorem dX9_lookLast_102 : decode cX9_lookLast 102 = .ok (.iload_n 1, 1) := by decide +kernel
theorem dX9_lookLast_103 : decode cX9_lookLast 103 = .ok (.if_icmp .ge 23, 3) := by decide +kernel
theorem dX9_lookLast_106 : decode cX9_lookLast 106 = .ok (.aload_n 0, 1) := by decide +kernel
theorem dX9_lookLast_107 : decode cX9_lookLast 107 = .ok (.getfield 48, 3) := by decide +kernel
theorem dX9_lookLast_110 : decode cX9_lookLast 110 = .ok (.iload 6, 2) := by decide +kernel
theorem dX9_lookLast_112 : decode cX9_lookLast 112 = .ok (.aload_n 0, 1) := by decide +kernel
theorem dX9_lookLast_113 : decode cX9_lookLast 113 = .ok (.getfield 45, 3) := by decide +kernel
theorem dX9_lookLast_116 : decode cX9_lookLast 116 = .ok (.iload 6, 2) := by decide +kernel
theorem dX9_lookLast_118 : decode cX9_lookLast 118 = .ok (.iaload, 1) := by decide +kernel
theorem dX9_lookLast_119 : decode cX9_lookLast 119 = .ok (.iastore, 1) := by decide +kernel
theorem dX9_lookLast_120 : decode cX9_lookLast 120 = .ok (.iinc 6 1, 3) := by decide +kernel
theorem dX9_lookLast_123 : decode cX9_lookLast 123 = .ok (.goto (-23), 3) := by decide +kernel
theorem dX9_lookLast_126 : decode cX9_lookLast 126 = .ok (.iinc 4 1, 3) := by decide +kernel
theorem dX9_lookLast_129 : decode cX9_lookLast 129 = .ok (.goto (-120), 3) := by decide +kernel
theorem dX9_lookLast_132 : decode cX9_lookLast 132 = .ok (.return_, 1) := by decide +kernel
set_option maxRecDepth 20000 in
theorem ggX9_findBest_X9_copy : GoodIn wsX9_findBest wsX9_copy := goodIn_r _ [8] (by decide +kernel) (by decide +kernel)
set_option maxRecDepth 20000 in
theorem gX9_findBest_X9_copy : GoodIn wsX9_findBest (va_wsS RX9 65 yX9_copy wsX9_copy) := goodIn_app (goodIn_of _ (by decide +kernel)) ggX9_findBest_X9_copy
set_option maxRecDepth 20000 in
theorem ggX9_findBest_X9_lookLast : GoodIn wsX9_findBest wsX9_lookLast := goodIn_r _ [12, 3, 1, 4, 13, 14, 15, 7, 16, 17, 18, 19, 20, 21, 22, 23, 24, 25, 26, 27, 28, 29, 30, 31, 32, 33, 34, 35, 36, 37, 38, 39, 40, 41, 45, 46, 47, 48, 49, 50, 51, 52, 53, 54, 55, 56, 57, 58, 59, 60, 61, 62, 63, 64] (by decide +kernel) (by decide +kernel)
set_option maxRecDepth 20000 in
theorem gX9_findBest_X9_lookLast : GoodIn wsX9_findBest (wsV RX9 161 RX9 yX9_lookLast wsX9_lookLast) := goodIn_app (goodIn_of _ (by decide +kernel)) ggX9_findBest_X9_lookLast
set_option maxRecDepth 20000 in
theorem ggX9_findBest_X9_points : GoodIn wsX9_findBest wsX9_points := goodIn_r _ [16, 17, 18, 45, 46, 47, 48, 49, 50, 51, 52, 53, 54, 55, 56, 57, 58, 59, 60, 61, 62, 63, 64] (by decide +kernel) (by decide +kernel)
set_option maxRecDepth 20000 in
theorem gX9_findBest_X9_points : GoodIn wsX9_findBest (wsV RX9 54 RX9 yX9_points wsX9_points) := goodIn_app (goodIn_of _ (by decide +kernel)) ggX9_findBest_X9_points
set_option maxRecDepth 20000 in
theorem ggX9_findBest_X9_isReadyIn : GoodIn wsX9_findBest wsX9_isReadyIn := goodIn_r _ [22, 23, 24, 25, 7, 26, 27, 28, 29, 30, 31, 32, 33, 34, 13, 14, 15, 16, 17, 18, 35, 36, 37, 38, 45, 46, 47, 48, 49, 50, 51, 52, 53, 54, 55, 56, 57, 58, 59, 60, 61, 62, 63, 64] (by decide +kernel) (by decide +kernel)
set_option maxRecDepth 20000 in
theorem gX9_findBest_X9_isReadyIn : GoodIn wsX9_findBest (wsV RX9 130 RX9 yX9_isReadyIn wsX9_isReadyIn) := goodIn_app (goodIn_of _ (by decide +kernel)) ggX9_findBest_X9_isReadyIn
set_option maxRecDepth 20000 in
theorem ggX9_findBest_X9_take : GoodIn wsX9_findBest wsX9_take := goodIn_r _ [44] (by decide +kernel) (by decide +kernel)
set_option maxRecDepth 20000 in
theorem gX9_findBest_X9_take : GoodIn wsX9_findBest (va_wsS RX9 137 yX9_take wsX9_take) := goodIn_app (goodIn_of _ (by decide +kernel)) ggX9_findBest_X9_take
theorem dX9_findBest_0 : decode cX9_findBest 0 = .ok (.aload_n 0, 1) := by decide +kernel
theorem dX9_findBest_1 : decode cX9_findBest 1 = .ok (.getfield 48, 3) := by decide +kernel
theorem dX9_findBest_4 : decode cX9_findBest 4 = .ok (.iconst 4, 1) := by decide +kernel
theorem dX9_findBest_5 : decode cX9_findBest 5 = .ok (.bipush (-9), 2) := by decide +kernel
theorem dX9_findBest_7 : decode cX9_findBest 7 = .ok (.iastore, 1) := by decide +kernel
theorem dX9_findBest_8 : decode cX9_findBest 8 = .ok (.aload_n 0, 1) := by decide +kernel
theorem dX9_findBest_9 : decode cX9_findBest 9 = .ok (.getfield 16, 3) := by decide +kernel
theorem dX9_findBest_12 : decode cX9_findBest 12 = .ok (.iconst 0, 1) := by decide +kernel
theorem dX9_findBest_13 : decode cX9_findBest 13 = .ok (.aload_n 0, 1) := by decide +kernel
theorem dX9_findBest_14 : decode cX9_findBest 14 = .ok (.getfield 42, 3) := by decide +kernel
theorem dX9_findBest_17 : decode cX9_findBest 17 = .ok (.iconst 0, 1) := by decide +kernel
theorem dX9_findBest_18 : decode cX9_findBest 18 = .ok (.invokestatic 65, 3) := by decide +kernel
theorem dX9_findBest_21 : decode cX9_findBest 21 = .ok (.iconst 0, 1) := by decide +kernel
theorem dX9_findBest_22 : decode cX9_findBest 22 = .ok (.istore_n 2, 1) := by decide +kernel
theorem dX9_findBest_23 : decode cX9_findBest 23 = .ok (.aload_n 0, 1) := by decide +kernel
theorem dX9_findBest_24 : decode cX9_findBest 24 = .ok (.getfield 45, 3) := by decide +kernel
theorem dX9_findBest_27 : decode cX9_findBest 27 = .ok (.iconst 0, 1) := by decide +kernel
theorem dX9_findBest_28 : decode cX9_findBest 28 = .ok (.iconst (-1), 1) := by decide +kernel
theorem dX9_findBest_29 : decode cX9_findBest 29 = .ok (.iastore, 1) := by decide +kernel
theorem dX9_findBest_30 : decode cX9_findBest 30 = .ok (.iload_n 2, 1) := by decide +kernel
theorem dX9_findBest_31 : decode cX9_findBest 31 = .ok (.ifCond .lt 132, 3) := by decide +kernel
theorem dX9_findBest_34 : decode cX9_findBest 34 = .ok (.iload_n 2, 1) := by decide +kernel
theorem dX9_findBest_35 : decode cX9_findBest 35 = .ok (.iload_n 1, 1) := by decide +kernel
theorem dX9_findBest_36 : decode cX9_findBest 36 = .ok (.iconst 1, 1) := by decide +kernel
theorem dX9_findBest_37 : decode cX9_findBest 37 = .ok (.isub, 1) := by decide +kernel
theorem dX9_findBest_38 : decode cX9_findBest 38 = .ok (.if_icmp .ne 15, 3) := by decide +kernel
theorem dX9_findBest_41 : decode cX9_findBest 41 = .ok (.aload_n 0, 1) := by decide +kernel

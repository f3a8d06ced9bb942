theorem dX9_take_115 : decode cX9_take 115 = .ok (.iconst 1, 1) := by decide +kernel
theorem dX9_take_116 : decode cX9_take 116 = .ok (.iadd, 1) := by decide +kernel
theorem dX9_take_117 : decode cX9_take 117 = .ok (.iastore, 1) := by decide +kernel
theorem dX9_take_118 : decode cX9_take 118 = .ok (.aload_n 0, 1) := by decide +kernel
theorem dX9_take_119 : decode cX9_take 119 = .ok (.iload_n 1, 1) := by decide +kernel
theorem dX9_take_120 : decode cX9_take 120 = .ok (.sipush 242, 3) := by decide +kernel
theorem dX9_take_123 : decode cX9_take 123 = .ok (.iadd, 1) := by decide +kernel
theorem dX9_take_124 : decode cX9_take 124 = .ok (.dup2, 1) := by decide +kernel
theorem dX9_take_125 : decode cX9_take 125 = .ok (.iaload, 1) := by decide +kernel
theorem dX9_take_126 : decode cX9_take 126 = .ok (.iload 4, 2) := by decide +kernel
theorem dX9_take_128 : decode cX9_take 128 = .ok (.iadd, 1) := by decide +kernel
theorem dX9_take_129 : decode cX9_take 129 = .ok (.iastore, 1) := by decide +kernel
theorem dX9_take_130 : decode cX9_take 130 = .ok (.iload 4, 2) := by decide +kernel
theorem dX9_take_132 : decode cX9_take 132 = .ok (.ireturn, 1) := by decide +kernel
theorem dX9_areBeside_0 : decode cX9_areBeside 0 = .ok (.iload_n 1, 1) := by decide +kernel
theorem dX9_areBeside_1 : decode cX9_areBeside 1 = .ok (.aload_n 0, 1) := by decide +kernel
theorem dX9_areBeside_2 : decode cX9_areBeside 2 = .ok (.getfield 13, 3) := by decide +kernel
theorem dX9_areBeside_5 : decode cX9_areBeside 5 = .ok (.idiv, 1) := by decide +kernel
theorem dX9_areBeside_6 : decode cX9_areBeside 6 = .ok (.iload_n 2, 1) := by decide +kernel
theorem dX9_areBeside_7 : decode cX9_areBeside 7 = .ok (.aload_n 0, 1) := by decide +kernel
theorem dX9_areBeside_8 : decode cX9_areBeside 8 = .ok (.getfield 13, 3) := by decide +kernel
theorem dX9_areBeside_11 : decode cX9_areBeside 11 = .ok (.idiv, 1) := by decide +kernel
theorem dX9_areBeside_12 : decode cX9_areBeside 12 = .ok (.isub, 1) := by decide +kernel
theorem dX9_areBeside_13 : decode cX9_areBeside 13 = .ok (.istore_n 3, 1) := by decide +kernel
theorem dX9_areBeside_14 : decode cX9_areBeside 14 = .ok (.iload_n 1, 1) := by decide +kernel
theorem dX9_areBeside_15 : decode cX9_areBeside 15 = .ok (.aload_n 0, 1) := by decide +kernel
theorem dX9_areBeside_16 : decode cX9_areBeside 16 = .ok (.getfield 13, 3) := by decide +kernel
theorem dX9_areBeside_19 : decode cX9_areBeside 19 = .ok (.irem, 1) := by decide +kernel
theorem dX9_areBeside_20 : decode cX9_areBeside 20 = .ok (.iload_n 2, 1) := by decide +kernel
theorem dX9_areBeside_21 : decode cX9_areBeside 21 = .ok (.aload_n 0, 1) := by decide +kernel
theorem dX9_areBeside_22 : decode cX9_areBeside 22 = .ok (.getfield 13, 3) := by decide +kernel
theorem dX9_areBeside_25 : decode cX9_areBeside 25 = .ok (.irem, 1) := by decide +kernel
theorem dX9_areBeside_26 : decode cX9_areBeside 26 = .ok (.isub, 1) := by decide +kernel
theorem dX9_areBeside_27 : decode cX9_areBeside 27 = .ok (.istore 4, 2) := by decide +kernel
theorem dX9_areBeside_29 : decode cX9_areBeside 29 = .ok (.iload_n 3, 1) := by decide +kernel
theorem dX9_areBeside_30 : decode cX9_areBeside 30 = .ok (.iload_n 3, 1) := by decide +kernel
theorem dX9_areBeside_31 : decode cX9_areBeside 31 = .ok (.imul, 1) := by decide +kernel
theorem dX9_areBeside_32 : decode cX9_areBeside 32 = .ok (.iload 4, 2) := by decide +kernel
theorem dX9_areBeside_34 : decode cX9_areBeside 34 = .ok (.iload 4, 2) := by decide +kernel
theorem dX9_areBeside_36 : decode cX9_areBeside 36 = .ok (.imul, 1) := by decide +kernel
theorem dX9_areBeside_37 : decode cX9_areBeside 37 = .ok (.iadd, 1) := by decide +kernel
theorem dX9_areBeside_38 : decode cX9_areBeside 38 = .ok (.iconst 1, 1) := by decide +kernel
theorem dX9_areBeside_39 : decode cX9_areBeside 39 = .ok (.if_icmp .ne 7, 3) := by decide +kernel
theorem dX9_areBeside_42 : decode cX9_areBeside 42 = .ok (.iconst 1, 1) := by decide +kernel
theorem dX9_areBeside_43 : decode cX9_areBeside 43 = .ok (.goto 4, 3) := by decide +kernel
theorem dX9_areBeside_46 : decode cX9_areBeside 46 = .ok (.iconst 0, 1) := by decide +kernel
theorem dX9_areBeside_47 : decode cX9_areBeside 47 = .ok (.ireturn, 1) := by decide +kernel
set_option maxRecDepth 20000 in
theorem ggX9_allowed_X9_points : GoodIn wsX9_allowed wsX9_points := goodIn_r _ [6, 7, 8, 13, 14, 15, 16, 17, 18, 19, 20, 21, 22, 23, 24, 25, 26, 27, 28, 29, 30, 31, 32] (by decide +kernel) (by decide +kernel)
set_option maxRecDepth 20000 in
theorem gX9_allowed_X9_points : GoodIn wsX9_allowed (wsV RX9 54 RX9 yX9_points wsX9_points) := goodIn_app (goodIn_of _ (by decide +kernel)) ggX9_allowed_X9_points
set_option maxRecDepth 20000 in
theorem ggX9_allowed_X9_areBeside : GoodIn wsX9_allowed wsX9_areBeside := goodIn_r _ [12, 8, 13, 14, 15, 16, 17, 18, 19, 20, 21, 22, 23, 24, 25, 26, 27, 28, 29, 30, 31, 32] (by decide +kernel) (by decide +kernel)
set_option maxRecDepth 20000 in
theorem gX9_allowed_X9_areBeside : GoodIn wsX9_allowed (wsV RX9 107 RX9 yX9_areBeside wsX9_areBeside) := goodIn_app (goodIn_of _ (by decide +kernel)) ggX9_allowed_X9_areBeside
theorem dX9_allowed_0 : decode cX9_allowed 0 = .ok (.ldc 106, 2) := by decide +kernel
theorem dX9_allowed_2 : decode cX9_allowed 2 = .ok (.istore 4, 2) := by decide +kernel
theorem dX9_allowed_4 : decode cX9_allowed 4 = .ok (.iconst 0, 1) := by decide +kernel
theorem dX9_allowed_5 : decode cX9_allowed 5 = .ok (.istore 5, 2) := by decide +kernel
theorem dX9_allowed_7 : decode cX9_allowed 7 = .ok (.iload 5, 2) := by decide +kernel
theorem dX9_allowed_9 : decode cX9_allowed 9 = .ok (.aload_n 0, 1) := by decide +kernel
theorem dX9_allowed_10 : decode cX9_allowed 10 = .ok (.invokevirtual 54, 3) := by decide +kernel
theorem dX9_allowed_13 : decode cX9_allowed 13 = .ok (.if_icmp .ge 67, 3) := by decide +kernel
theorem dX9_allowed_16 : decode cX9_allowed 16 = .ok (.aload_n 1, 1) := by decide +kernel
theorem dX9_allowed_17 : decode cX9_allowed 17 = .ok (.iload_n 2, 1) := by decide +kernel
theorem dX9_allowed_18 : decode cX9_allowed 18 = .ok (.sipush 240, 3) := by decide +kernel
theorem dX9_allowed_21 : decode cX9_allowed 21 = .ok (.iadd, 1) := by decide +kernel
theorem dX9_allowed_22 : decode cX9_allowed 22 = .ok (.iaload, 1) := by decide +kernel
theorem dX9_allowed_23 : decode cX9_allowed 23 = .ok (.aload_n 1, 1) := by decide +kernel
theorem dX9_allowed_24 : decode cX9_allowed 24 = .ok (.iload_n 2, 1) := by decide +kernel
theorem dX9_allowed_25 : decode cX9_allowed 25 = .ok (.bipush 15, 2) := by decide +kernel
theorem dX9_allowed_27 : decode cX9_allowed 27 = .ok (.iload_n 3, 1) := by decide +kernel
theorem dX9_allowed_28 : decode cX9_allowed 28 = .ok (.imul, 1) := by decide +kernel
theorem dX9_allowed_29 : decode cX9_allowed 29 = .ok (.iadd, 1) := by decide +kernel
theorem dX9_allowed_30 : decode cX9_allowed 30 = .ok (.iconst 0, 1) := by decide +kernel
theorem dX9_allowed_31 : decode cX9_allowed 31 = .ok (.iadd, 1) := by decide +kernel
theorem dX9_allowed_32 : decode cX9_allowed 32 = .ok (.iaload, 1) := by decide +kernel
theorem dX9_allowed_33 : decode cX9_allowed 33 = .ok (.isub, 1) := by decide +kernel
theorem dX9_allowed_34 : decode cX9_allowed 34 = .ok (.aload_n 1, 1) := by decide +kernel
theorem dX9_allowed_35 : decode cX9_allowed 35 = .ok (.iload_n 2, 1) := by decide +kernel
theorem dX9_allowed_36 : decode cX9_allowed 36 = .ok (.bipush 15, 2) := by decide +kernel
theorem dX9_allowed_38 : decode cX9_allowed 38 = .ok (.iload 5, 2) := by decide +kernel
theorem dX9_allowed_40 : decode cX9_allowed 40 = .ok (.imul, 1) := by decide +kernel
theorem dX9_allowed_41 : decode cX9_allowed 41 = .ok (.iadd, 1) := by decide +kernel
theorem dX9_allowed_42 : decode cX9_allowed 42 = .ok (.iconst 0, 1) := by decide +kernel
theorem dX9_allowed_43 : decode cX9_allowed 43 = .ok (.iadd, 1) := by decide +kernel
theorem dX9_allowed_44 : decode cX9_allowed 44 = .ok (.iaload, 1) := by decide +kernel
theorem dX9_allowed_45 : decode cX9_allowed 45 = .ok (.iadd, 1) := by decide +kernel
theorem dX9_allowed_46 : decode cX9_allowed 46 = .ok (.istore 6, 2) := by decide +kernel
theorem dX9_allowed_48 : decode cX9_allowed 48 = .ok (.aload_n 0, 1) := by decide +kernel
theorem dX9_allowed_49 : decode cX9_allowed 49 = .ok (.iload_n 3, 1) := by decide +kernel
theorem dX9_allowed_50 : decode cX9_allowed 50 = .ok (.iload 5, 2) := by decide +kernel
theorem dX9_allowed_52 : decode cX9_allowed 52 = .ok (.invokevirtual 107, 3) := by decide +kernel
theorem dX9_allowed_55 : decode cX9_allowed 55 = .ok (.ifCond .eq 15, 3) := by decide +kernel
theorem dX9_allowed_58 : decode cX9_allowed 58 = .ok (.iload 6, 2) := by decide +kernel
theorem dX9_allowed_60 : decode cX9_allowed 60 = .ok (.iload 4, 2) := by decide +kernel
theorem dX9_allowed_62 : decode cX9_allowed 62 = .ok (.if_icmp .ge 8, 3) := by decide +kernel
theorem dX9_allowed_65 : decode cX9_allowed 65 = .ok (.iload 6, 2) := by decide +kernel
theorem dX9_allowed_67 : decode cX9_allowed 67 = .ok (.goto 5, 3) := by decide +kernel
theorem dX9_allowed_70 : decode cX9_allowed 70 = .ok (.iload 4, 2) := by decide +kernel
theorem dX9_allowed_72 : decode cX9_allowed 72 = .ok (.istore 4, 2) := by decide +kernel
theorem dX9_allowed_74 : decode cX9_allowed 74 = .ok (.iinc 5 1, 3) := by decide +kernel
theorem dX9_allowed_77 : decode cX9_allowed 77 = .ok (.goto (-70), 3) := by decide +kernel
theorem dX9_allowed_80 : decode cX9_allowed 80 = .ok (.iload 4, 2) := by decide +kernel
theorem dX9_allowed_82 : decode cX9_allowed 82 = .ok (.ireturn, 1) := by decide +kernel
set_option maxRecDepth 20000 in
theorem ggX9_slackOf_X9_remainingOf : GoodIn wsX9_slackOf wsX9_remainingOf := goodIn_r _ [4] (by decide +kernel) (by decide +kernel)
set_option maxRecDepth 20000 in
theorem gX9_slackOf_X9_remainingOf : GoodIn wsX9_slackOf (va_wsS RX9 111 yX9_remainingOf wsX9_remainingOf) := goodIn_app (goodIn_of _ (by decide +kernel)) ggX9_slackOf_X9_remainingOf
set_option maxRecDepth 20000 in
theorem ggX9_slackOf_X9_allowed : GoodIn wsX9_slackOf wsX9_allowed := goodIn_r _ [8, 9, 10, 11, 12, 3, 13, 14, 15, 16, 17, 18, 19, 20, 21, 22, 23, 24, 25, 26, 27, 28, 29, 30, 31, 32, 33, 34, 35, 36, 37, 38, 39] (by decide +kernel) (by decide +kernel)
set_option maxRecDepth 20000 in
theorem gX9_slackOf_X9_allowed : GoodIn wsX9_slackOf (wsV RX9 115 RX9 yX9_allowed wsX9_allowed) := goodIn_app (goodIn_of _ (by decide +kernel)) ggX9_slackOf_X9_allowed
theorem dX9_slackOf_0 : decode cX9_slackOf 0 = .ok (.aload_n 1, 1) := by decide +kernel
theorem dX9_slackOf_1 : decode cX9_slackOf 1 = .ok (.iload_n 2, 1) := by decide +kernel
theorem dX9_slackOf_2 : decode cX9_slackOf 2 = .ok (.bipush 15, 2) := by decide +kernel
theorem dX9_slackOf_4 : decode cX9_slackOf 4 = .ok (.iload_n 3, 1) := by decide +kernel
theorem dX9_slackOf_5 : decode cX9_slackOf 5 = .ok (.imul, 1) := by decide +kernel
theorem dX9_slackOf_6 : decode cX9_slackOf 6 = .ok (.iadd, 1) := by decide +kernel
theorem dX9_slackOf_7 : decode cX9_slackOf 7 = .ok (.iconst 1, 1) := by decide +kernel
theorem dX9_slackOf_8 : decode cX9_slackOf 8 = .ok (.iadd, 1) := by decide +kernel
theorem dX9_slackOf_9 : decode cX9_slackOf 9 = .ok (.iaload, 1) := by decide +kernel
theorem dX9_slackOf_10 : decode cX9_slackOf 10 = .ok (.iconst 1, 1) := by decide +kernel
theorem dX9_slackOf_11 : decode cX9_slackOf 11 = .ok (.if_icmp .ne 5, 3) := by decide +kernel
theorem dX9_slackOf_14 : decode cX9_slackOf 14 = .ok (.iconst 0, 1) := by decide +kernel
theorem dX9_slackOf_15 : decode cX9_slackOf 15 = .ok (.ireturn, 1) := by decide +kernel
theorem dX9_slackOf_16 : decode cX9_slackOf 16 = .ok (.aload_n 1, 1) := by decide +kernel
theorem dX9_slackOf_17 : decode cX9_slackOf 17 = .ok (.iload_n 2, 1) := by decide +kernel
theorem dX9_slackOf_18 : decode cX9_slackOf 18 = .ok (.iload_n 3, 1) := by decide +kernel
theorem dX9_slackOf_19 : decode cX9_slackOf 19 = .ok (.invokestatic 111, 3) := by decide +kernel
theorem dX9_slackOf_22 : decode cX9_slackOf 22 = .ok (.istore 4, 2) := by decide +kernel
theorem dX9_slackOf_24 : decode cX9_slackOf 24 = .ok (.aload_n 0, 1) := by decide +kernel
theorem dX9_slackOf_25 : decode cX9_slackOf 25 = .ok (.aload_n 1, 1) := by decide +kernel
theorem dX9_slackOf_26 : decode cX9_slackOf 26 = .ok (.iload_n 2, 1) := by decide +kernel
theorem dX9_slackOf_27 : decode cX9_slackOf 27 = .ok (.iload_n 3, 1) := by decide +kernel
theorem dX9_slackOf_28 : decode cX9_slackOf 28 = .ok (.invokevirtual 115, 3) := by decide +kernel
theorem dX9_slackOf_31 : decode cX9_slackOf 31 = .ok (.istore 5, 2) := by decide +kernel
theorem dX9_slackOf_33 : decode cX9_slackOf 33 = .ok (.iload 5, 2) := by decide +kernel
theorem dX9_slackOf_35 : decode cX9_slackOf 35 = .ok (.iload 4, 2) := by decide +kernel
theorem dX9_slackOf_37 : decode cX9_slackOf 37 = .ok (.if_icmp .ge 8, 3) := by decide +kernel
theorem dX9_slackOf_40 : decode cX9_slackOf 40 = .ok (.iload 5, 2) := by decide +kernel
theorem dX9_slackOf_42 : decode cX9_slackOf 42 = .ok (.goto 5, 3) := by decide +kernel
theorem dX9_slackOf_45 : decode cX9_slackOf 45 = .ok (.iload 4, 2) := by decide +kernel
theorem dX9_slackOf_47 : decode cX9_slackOf 47 = .ok (.ireturn, 1) := by decide +kernel
set_option maxRecDepth 20000 in
theorem ggX9_isReadyIn_X9_slackOf : GoodIn wsX9_isReadyIn wsX9_slackOf := goodIn_r _ [5, 6, 7, 4, 8, 9, 10, 11, 12, 13, 14, 15, 16, 17, 18, 19, 20, 21, 22, 23, 24, 25, 26, 27, 28, 29, 30, 31, 32, 33, 34, 35, 36, 37, 38, 39, 40, 41, 42, 43] (by decide +kernel) (by decide +kernel)
set_option maxRecDepth 20000 in
theorem gX9_isReadyIn_X9_slackOf : GoodIn wsX9_isReadyIn (wsV RX9 118 RX9 yX9_slackOf wsX9_slackOf) := goodIn_app (goodIn_of _ (by decide +kernel)) ggX9_isReadyIn_X9_slackOf
theorem dX9_isReadyIn_0 : decode cX9_isReadyIn 0 = .ok (.aload_n 0, 1) := by decide +kernel
theorem dX9_isReadyIn_1 : decode cX9_isReadyIn 1 = .ok (.aload_n 1, 1) := by decide +kernel
theorem dX9_isReadyIn_2 : decode cX9_isReadyIn 2 = .ok (.iload_n 2, 1) := by decide +kernel
theorem dX9_isReadyIn_3 : decode cX9_isReadyIn 3 = .ok (.iload_n 3, 1) := by decide +kernel
theorem dX9_isReadyIn_4 : decode cX9_isReadyIn 4 = .ok (.invokevirtual 118, 3) := by decide +kernel
theorem dX9_isReadyIn_7 : decode cX9_isReadyIn 7 = .ok (.ifCond .le 7, 3) := by decide +kernel
theorem dX9_isReadyIn_10 : decode cX9_isReadyIn 10 = .ok (.iconst 1, 1) := by decide +kernel
theorem dX9_isReadyIn_11 : decode cX9_isReadyIn 11 = .ok (.goto 4, 3) := by decide +kernel
theorem dX9_isReadyIn_14 : decode cX9_isReadyIn 14 = .ok (.iconst 0, 1) := by decide +kernel
theorem dX9_isReadyIn_15 : decode cX9_isReadyIn 15 = .ok (.ireturn, 1) := by decide +kernel
set_option maxRecDepth 20000 in
theorem ggX9_nextOf_X9_points : GoodIn wsX9_nextOf wsX9_points := goodIn_r _ [5, 6, 7, 27, 28, 29, 30, 31, 32, 33, 34, 35, 36, 37, 38, 39, 40, 41, 42, 43, 44, 45, 46] (by decide +kernel) (by decide +kernel)
set_option maxRecDepth 20000 in
theorem gX9_nextOf_X9_points : GoodIn wsX9_nextOf (wsV RX9 54 RX9 yX9_points wsX9_points) := goodIn_app (goodIn_of _ (by decide +kernel)) ggX9_nextOf_X9_points
set_option maxRecDepth 20000 in
theorem ggX9_nextOf_X9_slackOf : GoodIn wsX9_nextOf wsX9_slackOf := goodIn_r _ [11, 12, 13, 4, 14, 15, 16, 17, 18, 19, 1, 2, 3, 5, 6, 7, 20, 21, 22, 23, 27, 28, 29, 30, 31, 32, 33, 34, 35, 36, 37, 38, 39, 40, 41, 42, 43, 44, 45, 46] (by decide +kernel) (by decide +kernel)
set_option maxRecDepth 20000 in
theorem gX9_nextOf_X9_slackOf : GoodIn wsX9_nextOf (wsV RX9 118 RX9 yX9_slackOf wsX9_slackOf) := goodIn_app (goodIn_of _ (by decide +kernel)) ggX9_nextOf_X9_slackOf
set_option maxRecDepth 20000 in
theorem ggX9_nextOf_X9_gradeOf : GoodIn wsX9_nextOf wsX9_gradeOf := goodIn_r _ [26] (by decide +kernel) (by decide +kernel)
set_option maxRecDepth 20000 in
theorem gX9_nextOf_X9_gradeOf : GoodIn wsX9_nextOf (va_wsS RX9 121 yX9_gradeOf wsX9_gradeOf) := goodIn_app (goodIn_of _ (by decide +kernel)) ggX9_nextOf_X9_gradeOf
theorem dX9_nextOf_0 : decode cX9_nextOf 0 = .ok (.bipush (-9), 2) := by decide +kernel
theorem dX9_nextOf_2 : decode cX9_nextOf 2 = .ok (.istore_n 2, 1) := by decide +kernel
theorem dX9_nextOf_3 : decode cX9_nextOf 3 = .ok (.iconst 0, 1) := by decide +kernel
theorem dX9_nextOf_4 : decode cX9_nextOf 4 = .ok (.istore_n 3, 1) := by decide +kernel
theorem dX9_nextOf_5 : decode cX9_nextOf 5 = .ok (.iconst 0, 1) := by decide +kernel
theorem dX9_nextOf_6 : decode cX9_nextOf 6 = .ok (.istore 4, 2) := by decide +kernel
theorem dX9_nextOf_8 : decode cX9_nextOf 8 = .ok (.iconst 0, 1) := by decide +kernel
theorem dX9_nextOf_9 : decode cX9_nextOf 9 = .ok (.istore 5, 2) := by decide +kernel
theorem dX9_nextOf_11 : decode cX9_nextOf 11 = .ok (.iload 5, 2) := by decide +kernel
theorem dX9_nextOf_13 : decode cX9_nextOf 13 = .ok (.aload_n 0, 1) := by decide +kernel
theorem dX9_nextOf_14 : decode cX9_nextOf 14 = .ok (.invokevirtual 54, 3) := by decide +kernel
theorem dX9_nextOf_17 : decode cX9_nextOf 17 = .ok (.if_icmp .ge 72, 3) := by decide +kernel
theorem dX9_nextOf_20 : decode cX9_nextOf 20 = .ok (.aload_n 0, 1) := by decide +kernel
theorem dX9_nextOf_21 : decode cX9_nextOf 21 = .ok (.aload_n 1, 1) := by decide +kernel
theorem dX9_nextOf_22 : decode cX9_nextOf 22 = .ok (.iconst 0, 1) := by decide +kernel
theorem dX9_nextOf_23 : decode cX9_nextOf 23 = .ok (.iload 5, 2) := by decide +kernel
theorem dX9_nextOf_25 : decode cX9_nextOf 25 = .ok (.invokevirtual 118, 3) := by decide +kernel
theorem dX9_nextOf_28 : decode cX9_nextOf 28 = .ok (.istore 6, 2) := by decide +kernel
theorem dX9_nextOf_30 : decode cX9_nextOf 30 = .ok (.iload 6, 2) := by decide +kernel
theorem dX9_nextOf_32 : decode cX9_nextOf 32 = .ok (.ifCond .le 14, 3) := by decide +kernel
theorem dX9_nextOf_35 : decode cX9_nextOf 35 = .ok (.aload_n 1, 1) := by decide +kernel
theorem dX9_nextOf_36 : decode cX9_nextOf 36 = .ok (.iconst 0, 1) := by decide +kernel
theorem dX9_nextOf_37 : decode cX9_nextOf 37 = .ok (.iload 5, 2) := by decide +kernel
theorem dX9_nextOf_39 : decode cX9_nextOf 39 = .ok (.iconst 0, 1) := by decide +kernel
theorem dX9_nextOf_40 : decode cX9_nextOf 40 = .ok (.invokestatic 121, 3) := by decide +kernel
theorem dX9_nextOf_43 : decode cX9_nextOf 43 = .ok (.goto 4, 3) := by decide +kernel
theorem dX9_nextOf_46 : decode cX9_nextOf 46 = .ok (.iconst 0, 1) := by decide +kernel
theorem dX9_nextOf_47 : decode cX9_nextOf 47 = .ok (.istore 7, 2) := by decide +kernel
theorem dX9_nextOf_49 : decode cX9_nextOf 49 = .ok (.iload 6, 2) := by decide +kernel
theorem dX9_nextOf_51 : decode cX9_nextOf 51 = .ok (.iload_n 3, 1) := by decide +kernel
theorem dX9_nextOf_52 : decode cX9_nextOf 52 = .ok (.if_icmp .gt 21, 3) := by decide +kernel
theorem dX9_nextOf_55 : decode cX9_nextOf 55 = .ok (.iload 6, 2) := by decide +kernel
theorem dX9_nextOf_57 : decode cX9_nextOf 57 = .ok (.ifCond .le 26, 3) := by decide +kernel
theorem dX9_nextOf_60 : decode cX9_nextOf 60 = .ok (.iload 6, 2) := by decide +kernel
theorem dX9_nextOf_62 : decode cX9_nextOf 62 = .ok (.iload_n 3, 1) := by decide +kernel
theorem dX9_nextOf_63 : decode cX9_nextOf 63 = .ok (.if_icmp .ne 20, 3) := by decide +kernel
theorem dX9_nextOf_66 : decode cX9_nextOf 66 = .ok (.iload 7, 2) := by decide +kernel
theorem dX9_nextOf_68 : decode cX9_nextOf 68 = .ok (.iload 4, 2) := by decide +kernel
theorem dX9_nextOf_70 : decode cX9_nextOf 70 = .ok (.if_icmp .le 13, 3) := by decide +kernel
theorem dX9_nextOf_73 : decode cX9_nextOf 73 = .ok (.iload 5, 2) := by decide +kernel
theorem dX9_nextOf_75 : decode cX9_nextOf 75 = .ok (.istore_n 2, 1) := by decide +kernel
theorem dX9_nextOf_76 : decode cX9_nextOf 76 = .ok (.iload 6, 2) := by decide +kernel
theorem dX9_nextOf_78 : decode cX9_nextOf 78 = .ok (.istore_n 3, 1) := by decide +kernel
theorem dX9_nextOf_79 : decode cX9_nextOf 79 = .ok (.iload 7, 2) := by decide +kernel
theorem dX9_nextOf_81 : decode cX9_nextOf 81 = .ok (.istore 4, 2) := by decide +kernel
theorem dX9_nextOf_83 : decode cX9_nextOf 83 = .ok (.iinc 5 1, 3) := by decide +kernel
theorem dX9_nextOf_86 : decode cX9_nextOf 86 = .ok (.goto (-75), 3) := by decide +kernel
theorem dX9_nextOf_89 : decode cX9_nextOf 89 = .ok (.iload_n 2, 1) := by decide +kernel
theorem dX9_nextOf_90 : decode cX9_nextOf 90 = .ok (.ireturn, 1) := by decide +kernel
set_option maxRecDepth 20000 in
theorem ggX9_hungOf_X9_points : GoodIn wsX9_hungOf wsX9_points := goodIn_r _ [5, 6, 7, 8, 9, 10, 11, 12, 13, 14, 15, 16, 17, 18, 19, 20, 21, 22, 23, 24, 25, 26, 27] (by decide +kernel) (by decide +kernel)
set_option maxRecDepth 20000 in
theorem gX9_hungOf_X9_points : GoodIn wsX9_hungOf (wsV RX9 54 RX9 yX9_points wsX9_points) := goodIn_app (goodIn_of _ (by decide +kernel)) ggX9_hungOf_X9_points
theorem dX9_hungOf_0 : decode cX9_hungOf 0 = .ok (.iconst 0, 1) := by decide +kernel
theorem dX9_hungOf_1 : decode cX9_hungOf 1 = .ok (.istore_n 2, 1) := by decide +kernel
theorem dX9_hungOf_2 : decode cX9_hungOf 2 = .ok (.iconst 0, 1) := by decide +kernel
theorem dX9_hungOf_3 : decode cX9_hungOf 3 = .ok (.istore_n 3, 1) := by decide +kernel
theorem dX9_hungOf_4 : decode cX9_hungOf 4 = .ok (.iload_n 3, 1) := by decide +kernel
theorem dX9_hungOf_5 : decode cX9_hungOf 5 = .ok (.aload_n 0, 1) := by decide +kernel
theorem dX9_hungOf_6 : decode cX9_hungOf 6 = .ok (.invokevirtual 54, 3) := by decide +kernel
theorem dX9_hungOf_9 : decode cX9_hungOf 9 = .ok (.if_icmp .ge 20, 3) := by decide +kernel
theorem dX9_hungOf_12 : decode cX9_hungOf 12 = .ok (.iload_n 2, 1) := by decide +kernel
theorem dX9_hungOf_13 : decode cX9_hungOf 13 = .ok (.aload_n 1, 1) := by decide +kernel
theorem dX9_hungOf_14 : decode cX9_hungOf 14 = .ok (.bipush 15, 2) := by decide +kernel
theorem dX9_hungOf_16 : decode cX9_hungOf 16 = .ok (.iload_n 3, 1) := by decide +kernel
theorem dX9_hungOf_17 : decode cX9_hungOf 17 = .ok (.imul, 1) := by decide +kernel
theorem dX9_hungOf_18 : decode cX9_hungOf 18 = .ok (.iconst 1, 1) := by decide +kernel
theorem dX9_hungOf_19 : decode cX9_hungOf 19 = .ok (.iadd, 1) := by decide +kernel
theorem dX9_hungOf_20 : decode cX9_hungOf 20 = .ok (.iaload, 1) := by decide +kernel
theorem dX9_hungOf_21 : decode cX9_hungOf 21 = .ok (.iadd, 1) := by decide +kernel
theorem dX9_hungOf_22 : decode cX9_hungOf 22 = .ok (.istore_n 2, 1) := by decide +kernel
theorem dX9_hungOf_23 : decode cX9_hungOf 23 = .ok (.iinc 3 1, 3) := by decide +kernel
theorem dX9_hungOf_26 : decode cX9_hungOf 26 = .ok (.goto (-22), 3) := by decide +kernel
theorem dX9_hungOf_29 : decode cX9_hungOf 29 = .ok (.iload_n 2, 1) := by decide +kernel
theorem dX9_hungOf_30 : decode cX9_hungOf 30 = .ok (.ireturn, 1) := by decide +kernel
set_option maxRecDepth 20000 in
theorem ggX9_pointCount_X9_points : GoodIn wsX9_pointCount wsX9_points := goodIn_r _ [6, 7, 8, 9, 10, 11, 12, 13, 14, 15, 16, 17, 18, 19, 20, 21, 22, 23, 24, 25, 26, 27, 28] (by decide +kernel) (by decide +kernel)
set_option maxRecDepth 20000 in
theorem gX9_pointCount_X9_points : GoodIn wsX9_pointCount (wsV RX9 54 RX9 yX9_points wsX9_points) := goodIn_app (goodIn_of _ (by decide +kernel)) ggX9_pointCount_X9_points
theorem dX9_pointCount_0 : decode cX9_pointCount 0 = .ok (.aload_n 0, 1) := by decide +kernel
theorem dX9_pointCount_1 : decode cX9_pointCount 1 = .ok (.iconst 0, 1) := by decide +kernel
theorem dX9_pointCount_2 : decode cX9_pointCount 2 = .ok (.putfield 51, 3) := by decide +kernel
theorem dX9_pointCount_5 : decode cX9_pointCount 5 = .ok (.aload_n 0, 1) := by decide +kernel
theorem dX9_pointCount_6 : decode cX9_pointCount 6 = .ok (.invokevirtual 54, 3) := by decide +kernel
theorem dX9_pointCount_9 : decode cX9_pointCount 9 = .ok (.ireturn, 1) := by decide +kernel
theorem dX9_bound_0 : decode cX9_bound 0 = .ok (.aload_n 0, 1) := by decide +kernel
theorem dX9_bound_1 : decode cX9_bound 1 = .ok (.iconst 0, 1) := by decide +kernel
theorem dX9_bound_2 : decode cX9_bound 2 = .ok (.putfield 51, 3) := by decide +kernel
theorem dX9_bound_5 : decode cX9_bound 5 = .ok (.aload_n 0, 1) := by decide +kernel
theorem dX9_bound_6 : decode cX9_bound 6 = .ok (.getfield 16, 3) := by decide +kernel
theorem dX9_bound_9 : decode cX9_bound 9 = .ok (.sipush 240, 3) := by decide +kernel
theorem dX9_bound_12 : decode cX9_bound 12 = .ok (.iaload, 1) := by decide +kernel
theorem dX9_bound_13 : decode cX9_bound 13 = .ok (.ireturn, 1) := by decide +kernel
set_option maxRecDepth 20000 in
theorem ggX9_drawn_X9_isPoint : GoodIn wsX9_drawn wsX9_isPoint := goodIn_r _ [6, 7, 8, 9, 5, 10, 11, 12, 13, 14, 15, 21, 22, 23, 24, 25, 26, 27, 28, 29, 30, 31, 32, 33, 34, 35, 36, 37, 38, 39, 40] (by decide +kernel) (by decide +kernel)
set_option maxRecDepth 20000 in
theorem gX9_drawn_X9_isPoint : GoodIn wsX9_drawn (wsV RX9 125 RX9 yX9_isPoint wsX9_isPoint) := goodIn_app (goodIn_of _ (by decide +kernel)) ggX9_drawn_X9_isPoint
set_option maxRecDepth 20000 in
theorem ggX9_drawn_X9_refused : GoodIn wsX9_drawn wsX9_refused := goodIn_r _ [19, 20, 21, 22, 23, 24, 25, 26, 27, 28, 29, 30, 31, 32, 33, 34, 35, 36, 37, 38, 39, 40] (by decide +kernel) (by decide +kernel)
set_option maxRecDepth 20000 in
theorem gX9_drawn_X9_refused : GoodIn wsX9_drawn (wsV RX9 77 RX9 yX9_refused wsX9_refused) := goodIn_app (goodIn_of _ (by decide +kernel)) ggX9_drawn_X9_refused
theorem dX9_drawn_0 : decode cX9_drawn 0 = .ok (.aload_n 0, 1) := by decide +kernel
theorem dX9_drawn_1 : decode cX9_drawn 1 = .ok (.aload_n 0, 1) := by decide +kernel
theorem dX9_drawn_2 : decode cX9_drawn 2 = .ok (.iload_n 1, 1) := by decide +kernel
theorem dX9_drawn_3 : decode cX9_drawn 3 = .ok (.invokevirtual 125, 3) := by decide +kernel
theorem dX9_drawn_6 : decode cX9_drawn 6 = .ok (.ifCond .eq 7, 3) := by decide +kernel
theorem dX9_drawn_9 : decode cX9_drawn 9 = .ok (.iconst 0, 1) := by decide +kernel
theorem dX9_drawn_10 : decode cX9_drawn 10 = .ok (.goto 4, 3) := by decide +kernel
theorem dX9_drawn_13 : decode cX9_drawn 13 = .ok (.iconst 1, 1) := by decide +kernel
theorem dX9_drawn_14 : decode cX9_drawn 14 = .ok (.invokevirtual 77, 3) := by decide +kernel
theorem dX9_drawn_17 : decode cX9_drawn 17 = .ok (.ifCond .eq 5, 3) := by decide +kernel
theorem dX9_drawn_20 : decode cX9_drawn 20 = .ok (.iconst 0, 1) := by decide +kernel
theorem dX9_drawn_21 : decode cX9_drawn 21 = .ok (.ireturn, 1) := by decide +kernel
theorem dX9_drawn_22 : decode cX9_drawn 22 = .ok (.aload_n 0, 1) := by decide +kernel
theorem dX9_drawn_23 : decode cX9_drawn 23 = .ok (.getfield 16, 3) := by decide +kernel
theorem dX9_drawn_26 : decode cX9_drawn 26 = .ok (.bipush 15, 2) := by decide +kernel
theorem dX9_drawn_28 : decode cX9_drawn 28 = .ok (.iload_n 1, 1) := by decide +kernel
theorem dX9_drawn_29 : decode cX9_drawn 29 = .ok (.imul, 1) := by decide +kernel
theorem dX9_drawn_30 : decode cX9_drawn 30 = .ok (.iconst 0, 1) := by decide +kernel
theorem dX9_drawn_31 : decode cX9_drawn 31 = .ok (.iadd, 1) := by decide +kernel
theorem dX9_drawn_32 : decode cX9_drawn 32 = .ok (.iaload, 1) := by decide +kernel
theorem dX9_drawn_33 : decode cX9_drawn 33 = .ok (.ireturn, 1) := by decide +kernel
set_option maxRecDepth 20000 in
theorem ggX9_remaining_X9_isPoint : GoodIn wsX9_remaining wsX9_isPoint := goodIn_r _ [6, 7, 8, 9, 5, 10, 11, 12, 13, 14, 15, 24, 25, 26, 27, 28, 29, 30, 31, 32, 33, 34, 35, 36, 37, 38, 39, 40, 41, 42, 43] (by decide +kernel) (by decide +kernel)
set_option maxRecDepth 20000 in
theorem gX9_remaining_X9_isPoint : GoodIn wsX9_remaining (wsV RX9 125 RX9 yX9_isPoint wsX9_isPoint) := goodIn_app (goodIn_of _ (by decide +kernel)) ggX9_remaining_X9_isPoint
set_option maxRecDepth 20000 in
theorem ggX9_remaining_X9_refused : GoodIn wsX9_remaining wsX9_refused := goodIn_r _ [19, 20, 24, 25, 26, 27, 28, 29, 30, 31, 32, 33, 34, 35, 36, 37, 38, 39, 40, 41, 42, 43] (by decide +kernel) (by decide +kernel)
set_option maxRecDepth 20000 in
theorem gX9_remaining_X9_refused : GoodIn wsX9_remaining (wsV RX9 77 RX9 yX9_refused wsX9_refused) := goodIn_app (goodIn_of _ (by decide +kernel)) ggX9_remaining_X9_refused
set_option maxRecDepth 20000 in
theorem ggX9_remaining_X9_remainingOf : GoodIn wsX9_remaining wsX9_remainingOf := goodIn_r _ [23] (by decide +kernel) (by decide +kernel)
set_option maxRecDepth 20000 in
theorem gX9_remaining_X9_remainingOf : GoodIn wsX9_remaining (va_wsS RX9 111 yX9_remainingOf wsX9_remainingOf) := goodIn_app (goodIn_of _ (by decide +kernel)) ggX9_remaining_X9_remainingOf
theorem dX9_remaining_0 : decode cX9_remaining 0 = .ok (.aload_n 0, 1) := by decide +kernel
theorem dX9_remaining_1 : decode cX9_remaining 1 = .ok (.aload_n 0, 1) := by decide +kernel
theorem dX9_remaining_2 : decode cX9_remaining 2 = .ok (.iload_n 1, 1) := by decide +kernel
theorem dX9_remaining_3 : decode cX9_remaining 3 = .ok (.invokevirtual 125, 3) := by decide +kernel
theorem dX9_remaining_6 : decode cX9_remaining 6 = .ok (.ifCond .eq 7, 3) := by decide +kernel
theorem dX9_remaining_9 : decode cX9_remaining 9 = .ok (.iconst 0, 1) := by decide +kernel
theorem dX9_remaining_10 : decode cX9_remaining 10 = .ok (.goto 4, 3) := by decide +kernel
theorem dX9_remaining_13 : decode cX9_remaining 13 = .ok (.iconst 1, 1) := by decide +kernel
theorem dX9_remaining_14 : decode cX9_remaining 14 = .ok (.invokevirtual 77, 3) := by decide +kernel
theorem dX9_remaining_17 : decode cX9_remaining 17 = .ok (.ifCond .eq 5, 3) := by decide +kernel
theorem dX9_remaining_20 : decode cX9_remaining 20 = .ok (.iconst 0, 1) := by decide +kernel
theorem dX9_remaining_21 : decode cX9_remaining 21 = .ok (.ireturn, 1) := by decide +kernel
theorem dX9_remaining_22 : decode cX9_remaining 22 = .ok (.aload_n 0, 1) := by decide +kernel
theorem dX9_remaining_23 : decode cX9_remaining 23 = .ok (.getfield 16, 3) := by decide +kernel
theorem dX9_remaining_26 : decode cX9_remaining 26 = .ok (.iconst 0, 1) := by decide +kernel
theorem dX9_remaining_27 : decode cX9_remaining 27 = .ok (.iload_n 1, 1) := by decide +kernel
theorem dX9_remaining_28 : decode cX9_remaining 28 = .ok (.invokestatic 111, 3) := by decide +kernel
theorem dX9_remaining_31 : decode cX9_remaining 31 = .ok (.ireturn, 1) := by decide +kernel
set_option maxRecDepth 20000 in
theorem ggX9_sliceCount_X9_isPoint : GoodIn wsX9_sliceCount wsX9_isPoint := goodIn_r _ [6, 7, 8, 9, 5, 10, 11, 12, 13, 14, 15, 21, 22, 23, 24, 25, 26, 27, 28, 29, 30, 31, 32, 33, 34, 35, 36, 37, 38, 39, 40] (by decide +kernel) (by decide +kernel)
set_option maxRecDepth 20000 in
theorem gX9_sliceCount_X9_isPoint : GoodIn wsX9_sliceCount (wsV RX9 125 RX9 yX9_isPoint wsX9_isPoint) := goodIn_app (goodIn_of _ (by decide +kernel)) ggX9_sliceCount_X9_isPoint
set_option maxRecDepth 20000 in
theorem ggX9_sliceCount_X9_refused : GoodIn wsX9_sliceCount wsX9_refused := goodIn_r _ [19, 20, 21, 22, 23, 24, 25, 26, 27, 28, 29, 30, 31, 32, 33, 34, 35, 36, 37, 38, 39, 40] (by decide +kernel) (by decide +kernel)
set_option maxRecDepth 20000 in
theorem gX9_sliceCount_X9_refused : GoodIn wsX9_sliceCount (wsV RX9 77 RX9 yX9_refused wsX9_refused) := goodIn_app (goodIn_of _ (by decide +kernel)) ggX9_sliceCount_X9_refused
theorem dX9_sliceCount_0 : decode cX9_sliceCount 0 = .ok (.aload_n 0, 1) := by decide +kernel
theorem dX9_sliceCount_1 : decode cX9_sliceCount 1 = .ok (.aload_n 0, 1) := by decide +kernel
theorem dX9_sliceCount_2 : decode cX9_sliceCount 2 = .ok (.iload_n 1, 1) := by decide +kernel
theorem dX9_sliceCount_3 : decode cX9_sliceCount 3 = .ok (.invokevirtual 125, 3) := by decide +kernel
theorem dX9_sliceCount_6 : decode cX9_sliceCount 6 = .ok (.ifCond .eq 7, 3) := by decide +kernel
theorem dX9_sliceCount_9 : decode cX9_sliceCount 9 = .ok (.iconst 0, 1) := by decide +kernel
theorem dX9_sliceCount_10 : decode cX9_sliceCount 10 = .ok (.goto 4, 3) := by decide +kernel
theorem dX9_sliceCount_13 : decode cX9_sliceCount 13 = .ok (.iconst 1, 1) := by decide +kernel
theorem dX9_sliceCount_14 : decode cX9_sliceCount 14 = .ok (.invokevirtual 77, 3) := by decide +kernel
theorem dX9_sliceCount_17 : decode cX9_sliceCount 17 = .ok (.ifCond .eq 5, 3) := by decide +kernel
theorem dX9_sliceCount_20 : decode cX9_sliceCount 20 = .ok (.iconst 0, 1) := by decide +kernel
theorem dX9_sliceCount_21 : decode cX9_sliceCount 21 = .ok (.ireturn, 1) := by decide +kernel
theorem dX9_sliceCount_22 : decode cX9_sliceCount 22 = .ok (.aload_n 0, 1) := by decide +kernel
theorem dX9_sliceCount_23 : decode cX9_sliceCount 23 = .ok (.getfield 16, 3) := by decide +kernel
theorem dX9_sliceCount_26 : decode cX9_sliceCount 26 = .ok (.bipush 15, 2) := by decide +kernel
theorem dX9_sliceCount_28 : decode cX9_sliceCount 28 = .ok (.iload_n 1, 1) := by decide +kernel
theorem dX9_sliceCount_29 : decode cX9_sliceCount 29 = .ok (.imul, 1) := by decide +kernel
theorem dX9_sliceCount_30 : decode cX9_sliceCount 30 = .ok (.iconst 2, 1) := by decide +kernel
theorem dX9_sliceCount_31 : decode cX9_sliceCount 31 = .ok (.iadd, 1) := by decide +kernel
theorem dX9_sliceCount_32 : decode cX9_sliceCount 32 = .ok (.iaload, 1) := by decide +kernel
theorem dX9_sliceCount_33 : decode cX9_sliceCount 33 = .ok (.ireturn, 1) := by decide +kernel
set_option maxRecDepth 20000 in
theorem ggX9_gradeAhead_X9_isPoint : GoodIn wsX9_gradeAhead wsX9_isPoint := goodIn_r _ [7, 8, 9, 10, 6, 11, 12, 13, 14, 15, 16, 25, 26, 27, 28, 29, 30, 31, 32, 33, 34, 35, 36, 37, 38, 39, 40, 41, 42, 43, 44] (by decide +kernel) (by decide +kernel)
set_option maxRecDepth 20000 in
theorem gX9_gradeAhead_X9_isPoint : GoodIn wsX9_gradeAhead (wsV RX9 125 RX9 yX9_isPoint wsX9_isPoint) := goodIn_app (goodIn_of _ (by decide +kernel)) ggX9_gradeAhead_X9_isPoint
set_option maxRecDepth 20000 in
theorem ggX9_gradeAhead_X9_in : GoodIn wsX9_gradeAhead wsX9_in := goodIn_r _ [16] (by decide +kernel) (by decide +kernel)
set_option maxRecDepth 20000 in
theorem gX9_gradeAhead_X9_in : GoodIn wsX9_gradeAhead (va_wsS RX9 58 yX9_in wsX9_in) := goodIn_app (goodIn_of _ (by decide +kernel)) ggX9_gradeAhead_X9_in
set_option maxRecDepth 20000 in
theorem ggX9_gradeAhead_X9_refused : GoodIn wsX9_gradeAhead wsX9_refused := goodIn_r _ [20, 21, 25, 26, 27, 28, 29, 30, 31, 32, 33, 34, 35, 36, 37, 38, 39, 40, 41, 42, 43, 44] (by decide +kernel) (by decide +kernel)
set_option maxRecDepth 20000 in
theorem gX9_gradeAhead_X9_refused : GoodIn wsX9_gradeAhead (wsV RX9 77 RX9 yX9_refused wsX9_refused) := goodIn_app (goodIn_of _ (by decide +kernel)) ggX9_gradeAhead_X9_refused
set_option maxRecDepth 20000 in
theorem ggX9_gradeAhead_X9_gradeOf : GoodIn wsX9_gradeAhead wsX9_gradeOf := goodIn_r _ [24] (by decide +kernel) (by decide +kernel)
set_option maxRecDepth 20000 in
theorem gX9_gradeAhead_X9_gradeOf : GoodIn wsX9_gradeAhead (va_wsS RX9 121 yX9_gradeOf wsX9_gradeOf) := goodIn_app (goodIn_of _ (by decide +kernel)) ggX9_gradeAhead_X9_gradeOf
theorem dX9_gradeAhead_0 : decode cX9_gradeAhead 0 = .ok (.aload_n 0, 1) := by decide +kernel
theorem dX9_gradeAhead_1 : decode cX9_gradeAhead 1 = .ok (.aload_n 0, 1) := by decide +kernel
theorem dX9_gradeAhead_2 : decode cX9_gradeAhead 2 = .ok (.iload_n 1, 1) := by decide +kernel
theorem dX9_gradeAhead_3 : decode cX9_gradeAhead 3 = .ok (.invokevirtual 125, 3) := by decide +kernel
theorem dX9_gradeAhead_6 : decode cX9_gradeAhead 6 = .ok (.ifCond .ne 7, 3) := by decide +kernel
theorem dX9_gradeAhead_9 : decode cX9_gradeAhead 9 = .ok (.iconst 1, 1) := by decide +kernel
theorem dX9_gradeAhead_10 : decode cX9_gradeAhead 10 = .ok (.goto 20, 3) := by decide +kernel
theorem dX9_gradeAhead_13 : decode cX9_gradeAhead 13 = .ok (.iload_n 2, 1) := by decide +kernel
theorem dX9_gradeAhead_14 : decode cX9_gradeAhead 14 = .ok (.i2l, 1) := by decide +kernel
theorem dX9_gradeAhead_15 : decode cX9_gradeAhead 15 = .ok (.lconst 0, 1) := by decide +kernel
theorem dX9_gradeAhead_16 : decode cX9_gradeAhead 16 = .ok (.ldc2_w 128, 3) := by decide +kernel
theorem dX9_gradeAhead_19 : decode cX9_gradeAhead 19 = .ok (.invokestatic 58, 3) := by decide +kernel
theorem dX9_gradeAhead_22 : decode cX9_gradeAhead 22 = .ok (.ifCond .ne 7, 3) := by decide +kernel
theorem dX9_gradeAhead_25 : decode cX9_gradeAhead 25 = .ok (.iconst 2, 1) := by decide +kernel
theorem dX9_gradeAhead_26 : decode cX9_gradeAhead 26 = .ok (.goto 4, 3) := by decide +kernel
theorem dX9_gradeAhead_29 : decode cX9_gradeAhead 29 = .ok (.iconst 0, 1) := by decide +kernel
theorem dX9_gradeAhead_30 : decode cX9_gradeAhead 30 = .ok (.invokevirtual 77, 3) := by decide +kernel
theorem dX9_gradeAhead_33 : decode cX9_gradeAhead 33 = .ok (.ifCond .eq 5, 3) := by decide +kernel
theorem dX9_gradeAhead_36 : decode cX9_gradeAhead 36 = .ok (.iconst 0, 1) := by decide +kernel
theorem dX9_gradeAhead_37 : decode cX9_gradeAhead 37 = .ok (.ireturn, 1) := by decide +kernel
theorem dX9_gradeAhead_38 : decode cX9_gradeAhead 38 = .ok (.aload_n 0, 1) := by decide +kernel
theorem dX9_gradeAhead_39 : decode cX9_gradeAhead 39 = .ok (.getfield 16, 3) := by decide +kernel
theorem dX9_gradeAhead_42 : decode cX9_gradeAhead 42 = .ok (.iconst 0, 1) := by decide +kernel
theorem dX9_gradeAhead_43 : decode cX9_gradeAhead 43 = .ok (.iload_n 1, 1) := by decide +kernel
theorem dX9_gradeAhead_44 : decode cX9_gradeAhead 44 = .ok (.iload_n 2, 1) := by decide +kernel
theorem dX9_gradeAhead_45 : decode cX9_gradeAhead 45 = .ok (.invokestatic 121, 3) := by decide +kernel
theorem dX9_gradeAhead_48 : decode cX9_gradeAhead 48 = .ok (.ireturn, 1) := by decide +kernel
set_option maxRecDepth 20000 in
theorem ggX9_isHung_X9_isPoint : GoodIn wsX9_isHung wsX9_isPoint := goodIn_r _ [6, 7, 8, 9, 5, 10, 11, 12, 13, 14, 15, 21, 22, 23, 24, 25, 26, 27, 28, 29, 30, 31, 32, 33, 34, 35, 36, 37, 38, 39, 40] (by decide +kernel) (by decide +kernel)
set_option maxRecDepth 20000 in
theorem gX9_isHung_X9_isPoint : GoodIn wsX9_isHung (wsV RX9 125 RX9 yX9_isPoint wsX9_isPoint) := goodIn_app (goodIn_of _ (by decide +kernel)) ggX9_isHung_X9_isPoint
set_option maxRecDepth 20000 in
theorem ggX9_isHung_X9_refused : GoodIn wsX9_isHung wsX9_refused := goodIn_r _ [19, 20, 21, 22, 23, 24, 25, 26, 27, 28, 29, 30, 31, 32, 33, 34, 35, 36, 37, 38, 39, 40] (by decide +kernel) (by decide +kernel)
set_option maxRecDepth 20000 in
theorem gX9_isHung_X9_refused : GoodIn wsX9_isHung (wsV RX9 77 RX9 yX9_refused wsX9_refused) := goodIn_app (goodIn_of _ (by decide +kernel)) ggX9_isHung_X9_refused
theorem dX9_isHung_0 : decode cX9_isHung 0 = .ok (.aload_n 0, 1) := by decide +kernel
theorem dX9_isHung_1 : decode cX9_isHung 1 = .ok (.aload_n 0, 1) := by decide +kernel
theorem dX9_isHung_2 : decode cX9_isHung 2 = .ok (.iload_n 1, 1) := by decide +kernel
theorem dX9_isHung_3 : decode cX9_isHung 3 = .ok (.invokevirtual 125, 3) := by decide +kernel
theorem dX9_isHung_6 : decode cX9_isHung 6 = .ok (.ifCond .eq 7, 3) := by decide +kernel
theorem dX9_isHung_9 : decode cX9_isHung 9 = .ok (.iconst 0, 1) := by decide +kernel
theorem dX9_isHung_10 : decode cX9_isHung 10 = .ok (.goto 4, 3) := by decide +kernel
theorem dX9_isHung_13 : decode cX9_isHung 13 = .ok (.iconst 1, 1) := by decide +kernel
theorem dX9_isHung_14 : decode cX9_isHung 14 = .ok (.invokevirtual 77, 3) := by decide +kernel
theorem dX9_isHung_17 : decode cX9_isHung 17 = .ok (.ifCond .eq 5, 3) := by decide +kernel
theorem dX9_isHung_20 : decode cX9_isHung 20 = .ok (.iconst 0, 1) := by decide +kernel
theorem dX9_isHung_21 : decode cX9_isHung 21 = .ok (.ireturn, 1) := by decide +kernel
theorem dX9_isHung_22 : decode cX9_isHung 22 = .ok (.aload_n 0, 1) := by decide +kernel
theorem dX9_isHung_23 : decode cX9_isHung 23 = .ok (.getfield 16, 3) := by decide +kernel
theorem dX9_isHung_26 : decode cX9_isHung 26 = .ok (.bipush 15, 2) := by decide +kernel
theorem dX9_isHung_28 : decode cX9_isHung 28 = .ok (.iload_n 1, 1) := by decide +kernel
theorem dX9_isHung_29 : decode cX9_isHung 29 = .ok (.imul, 1) := by decide +kernel
theorem dX9_isHung_30 : decode cX9_isHung 30 = .ok (.iconst 1, 1) := by decide +kernel
theorem dX9_isHung_31 : decode cX9_isHung 31 = .ok (.iadd, 1) := by decide +kernel
theorem dX9_isHung_32 : decode cX9_isHung 32 = .ok (.iaload, 1) := by decide +kernel
theorem dX9_isHung_33 : decode cX9_isHung 33 = .ok (.iconst 1, 1) := by decide +kernel
theorem dX9_isHung_34 : decode cX9_isHung 34 = .ok (.if_icmp .ne 7, 3) := by decide +kernel
theorem dX9_isHung_37 : decode cX9_isHung 37 = .ok (.iconst 1, 1) := by decide +kernel
theorem dX9_isHung_38 : decode cX9_isHung 38 = .ok (.goto 4, 3) := by decide +kernel
theorem dX9_isHung_41 : decode cX9_isHung 41 = .ok (.iconst 0, 1) := by decide +kernel
theorem dX9_isHung_42 : decode cX9_isHung 42 = .ok (.ireturn, 1) := by decide +kernel
theorem dX9_totalBuckets_0 : decode cX9_totalBuckets 0 = .ok (.aload_n 0, 1) := by decide +kernel
theorem dX9_totalBuckets_1 : decode cX9_totalBuckets 1 = .ok (.iconst 0, 1) := by decide +kernel
theorem dX9_totalBuckets_2 : decode cX9_totalBuckets 2 = .ok (.putfield 51, 3) := by decide +kernel
theorem dX9_totalBuckets_5 : decode cX9_totalBuckets 5 = .ok (.aload_n 0, 1) := by decide +kernel
theorem dX9_totalBuckets_6 : decode cX9_totalBuckets 6 = .ok (.getfield 16, 3) := by decide +kernel
theorem dX9_totalBuckets_9 : decode cX9_totalBuckets 9 = .ok (.sipush 241, 3) := by decide +kernel
theorem dX9_totalBuckets_12 : decode cX9_totalBuckets 12 = .ok (.iaload, 1) := by decide +kernel
theorem dX9_totalBuckets_13 : decode cX9_totalBuckets 13 = .ok (.ireturn, 1) := by decide +kernel
theorem dX9_totalGrade_0 : decode cX9_totalGrade 0 = .ok (.aload_n 0, 1) := by decide +kernel
theorem dX9_totalGrade_1 : decode cX9_totalGrade 1 = .ok (.iconst 0, 1) := by decide +kernel
theorem dX9_totalGrade_2 : decode cX9_totalGrade 2 = .ok (.putfield 51, 3) := by decide +kernel
theorem dX9_totalGrade_5 : decode cX9_totalGrade 5 = .ok (.aload_n 0, 1) := by decide +kernel
theorem dX9_totalGrade_6 : decode cX9_totalGrade 6 = .ok (.getfield 16, 3) := by decide +kernel
theorem dX9_totalGrade_9 : decode cX9_totalGrade 9 = .ok (.sipush 242, 3) := by decide +kernel
theorem dX9_totalGrade_12 : decode cX9_totalGrade 12 = .ok (.iaload, 1) := by decide +kernel
theorem dX9_totalGrade_13 : decode cX9_totalGrade 13 = .ok (.ireturn, 1) := by decide +kernel
set_option maxRecDepth 20000 in
theorem ggX9_draw_X9_isPoint : GoodIn wsX9_draw wsX9_isPoint := goodIn_r _ [6, 7, 8, 9, 5, 10, 11, 12, 13, 14, 15, 54, 55, 56, 57, 58, 59, 60, 61, 62, 63, 64, 65, 66, 67, 68, 69, 70, 71, 72, 73] (by decide +kernel) (by decide +kernel)
set_option maxRecDepth 20000 in
theorem gX9_draw_X9_isPoint : GoodIn wsX9_draw (wsV RX9 125 RX9 yX9_isPoint wsX9_isPoint) := goodIn_app (goodIn_of _ (by decide +kernel)) ggX9_draw_X9_isPoint
set_option maxRecDepth 20000 in
theorem ggX9_draw_X9_isReadyIn : GoodIn wsX9_draw wsX9_isReadyIn := goodIn_r _ [19, 20, 21, 22, 5, 23, 24, 25, 26, 27, 28, 29, 30, 31, 7, 8, 9, 10, 11, 12, 32, 33, 34, 35, 54, 55, 56, 57, 58, 59, 60, 61, 62, 63, 64, 65, 66, 67, 68, 69, 70, 71, 72, 73] (by decide +kernel) (by decide +kernel)
set_option maxRecDepth 20000 in
theorem gX9_draw_X9_isReadyIn : GoodIn wsX9_draw (wsV RX9 130 RX9 yX9_isReadyIn wsX9_isReadyIn) := goodIn_app (goodIn_of _ (by decide +kernel)) ggX9_draw_X9_isReadyIn
set_option maxRecDepth 20000 in
theorem ggX9_draw_X9_refused : GoodIn wsX9_draw wsX9_refused := goodIn_r _ [39, 40, 54, 55, 56, 57, 58, 59, 60, 61, 62, 63, 64, 65, 66, 67, 68, 69, 70, 71, 72, 73] (by decide +kernel) (by decide +kernel)
set_option maxRecDepth 20000 in
theorem gX9_draw_X9_refused : GoodIn wsX9_draw (wsV RX9 77 RX9 yX9_refused wsX9_refused) := goodIn_app (goodIn_of _ (by decide +kernel)) ggX9_draw_X9_refused
set_option maxRecDepth 20000 in
theorem ggX9_draw_X9_note : GoodIn wsX9_draw wsX9_note := goodIn_r _ [44, 1, 45, 46, 47, 48, 49, 5, 50, 54, 55, 56, 57, 58, 59, 60, 61, 62, 63, 64, 65, 66, 67, 68, 69, 70, 71, 72, 73] (by decide +kernel) (by decide +kernel)
set_option maxRecDepth 20000 in
theorem gX9_draw_X9_note : GoodIn wsX9_draw (wsV RX9 134 RX9 yX9_note wsX9_note) := goodIn_app (goodIn_of _ (by decide +kernel)) ggX9_draw_X9_note
set_option maxRecDepth 20000 in
theorem ggX9_draw_X9_take : GoodIn wsX9_draw wsX9_take := goodIn_r _ [53] (by decide +kernel) (by decide +kernel)
set_option maxRecDepth 20000 in
theorem gX9_draw_X9_take : GoodIn wsX9_draw (va_wsS RX9 137 yX9_take wsX9_take) := goodIn_app (goodIn_of _ (by decide +kernel)) ggX9_draw_X9_take
theorem dX9_draw_0 : decode cX9_draw 0 = .ok (.aload_n 0, 1) := by decide +kernel
theorem dX9_draw_1 : decode cX9_draw 1 = .ok (.aload_n 0, 1) := by decide +kernel
theorem dX9_draw_2 : decode cX9_draw 2 = .ok (.iload_n 1, 1) := by decide +kernel
theorem dX9_draw_3 : decode cX9_draw 3 = .ok (.invokevirtual 125, 3) := by decide +kernel
theorem dX9_draw_6 : decode cX9_draw 6 = .ok (.ifCond .ne 7, 3) := by decide +kernel
theorem dX9_draw_9 : decode cX9_draw 9 = .ok (.iconst 1, 1) := by decide +kernel
theorem dX9_draw_10 : decode cX9_draw 10 = .ok (.goto 21, 3) := by decide +kernel
theorem dX9_draw_13 : decode cX9_draw 13 = .ok (.aload_n 0, 1) := by decide +kernel
theorem dX9_draw_14 : decode cX9_draw 14 = .ok (.aload_n 0, 1) := by decide +kernel
theorem dX9_draw_15 : decode cX9_draw 15 = .ok (.getfield 16, 3) := by decide +kernel
theorem dX9_draw_18 : decode cX9_draw 18 = .ok (.iconst 0, 1) := by decide +kernel
theorem dX9_draw_19 : decode cX9_draw 19 = .ok (.iload_n 1, 1) := by decide +kernel
theorem dX9_draw_20 : decode cX9_draw 20 = .ok (.invokevirtual 130, 3) := by decide +kernel
theorem dX9_draw_23 : decode cX9_draw 23 = .ok (.ifCond .ne 7, 3) := by decide +kernel
theorem dX9_draw_26 : decode cX9_draw 26 = .ok (.iconst 2, 1) := by decide +kernel
theorem dX9_draw_27 : decode cX9_draw 27 = .ok (.goto 4, 3) := by decide +kernel
theorem dX9_draw_30 : decode cX9_draw 30 = .ok (.iconst 0, 1) := by decide +kernel
theorem dX9_draw_31 : decode cX9_draw 31 = .ok (.invokevirtual 77, 3) := by decide +kernel
theorem dX9_draw_34 : decode cX9_draw 34 = .ok (.ifCond .eq 5, 3) := by decide +kernel
theorem dX9_draw_37 : decode cX9_draw 37 = .ok (.iconst 0, 1) := by decide +kernel
theorem dX9_draw_38 : decode cX9_draw 38 = .ok (.ireturn, 1) := by decide +kernel
theorem dX9_draw_39 : decode cX9_draw 39 = .ok (.aload_n 0, 1) := by decide +kernel
theorem dX9_draw_40 : decode cX9_draw 40 = .ok (.invokevirtual 134, 3) := by decide +kernel
theorem dX9_draw_43 : decode cX9_draw 43 = .ok (.aload_n 0, 1) := by decide +kernel
theorem dX9_draw_44 : decode cX9_draw 44 = .ok (.getfield 16, 3) := by decide +kernel
theorem dX9_draw_47 : decode cX9_draw 47 = .ok (.iconst 0, 1) := by decide +kernel
theorem dX9_draw_48 : decode cX9_draw 48 = .ok (.iload_n 1, 1) := by decide +kernel
theorem dX9_draw_49 : decode cX9_draw 49 = .ok (.invokestatic 137, 3) := by decide +kernel
theorem dX9_draw_52 : decode cX9_draw 52 = .ok (.ireturn, 1) := by decide +kernel
set_option maxRecDepth 20000 in
theorem ggX9_drawByOrder_X9_in : GoodIn wsX9_drawByOrder wsX9_in := goodIn_r _ [6] (by decide +kernel) (by decide +kernel)
set_option maxRecDepth 20000 in
theorem gX9_drawByOrder_X9_in : GoodIn wsX9_drawByOrder (va_wsS RX9 58 yX9_in wsX9_in) := goodIn_app (goodIn_of _ (by decide +kernel)) ggX9_drawByOrder_X9_in
set_option maxRecDepth 20000 in
theorem ggX9_drawByOrder_X9_refused : GoodIn wsX9_drawByOrder wsX9_refused := goodIn_r _ [10, 11, 58, 59, 60, 61, 62, 63, 64, 65, 66, 67, 68, 69, 70, 71, 72, 73, 74, 75, 76, 77] (by decide +kernel) (by decide +kernel)
set_option maxRecDepth 20000 in
theorem gX9_drawByOrder_X9_refused : GoodIn wsX9_drawByOrder (wsV RX9 77 RX9 yX9_refused wsX9_refused) := goodIn_app (goodIn_of _ (by decide +kernel)) ggX9_drawByOrder_X9_refused
set_option maxRecDepth 20000 in
theorem ggX9_drawByOrder_X9_note : GoodIn wsX9_drawByOrder wsX9_note := goodIn_r _ [15, 2, 16, 17, 18, 19, 20, 5, 21, 58, 59, 60, 61, 62, 63, 64, 65, 66, 67, 68, 69, 70, 71, 72, 73, 74, 75, 76, 77] (by decide +kernel) (by decide +kernel)
set_option maxRecDepth 20000 in
theorem gX9_drawByOrder_X9_note : GoodIn wsX9_drawByOrder (wsV RX9 134 RX9 yX9_note wsX9_note) := goodIn_app (goodIn_of _ (by decide +kernel)) ggX9_drawByOrder_X9_note
set_option maxRecDepth 20000 in
theorem ggX9_drawByOrder_X9_goByOrder : GoodIn wsX9_drawByOrder wsX9_goByOrder := goodIn_r _ [25, 26, 27, 28, 5, 29, 30, 31, 32, 33, 34, 35, 36, 37, 38, 39, 40, 41, 42, 43, 44, 45, 46, 47, 48, 49, 50, 51, 52, 53, 54, 55, 56, 57, 58, 59, 60, 61, 62, 63, 64, 65, 66, 67, 68, 69, 70, 71, 72, 73, 74, 75, 76, 77] (by decide +kernel) (by decide +kernel)
set_option maxRecDepth 20000 in
theorem gX9_drawByOrder_X9_goByOrder : GoodIn wsX9_drawByOrder (wsV RX9 140 RX9 yX9_goByOrder wsX9_goByOrder) := goodIn_app (goodIn_of _ (by decide +kernel)) ggX9_drawByOrder_X9_goByOrder
theorem dX9_drawByOrder_0 : decode cX9_drawByOrder 0 = .ok (.aload_n 0, 1) := by decide +kernel
theorem dX9_drawByOrder_1 : decode cX9_drawByOrder 1 = .ok (.iload_n 1, 1) := by decide +kernel
theorem dX9_drawByOrder_2 : decode cX9_drawByOrder 2 = .ok (.i2l, 1) := by decide +kernel
theorem dX9_drawByOrder_3 : decode cX9_drawByOrder 3 = .ok (.lconst 1, 1) := by decide +kernel
theorem dX9_drawByOrder_4 : decode cX9_drawByOrder 4 = .ok (.ldc2_w 128, 3) := by decide +kernel
theorem dX9_drawByOrder_7 : decode cX9_drawByOrder 7 = .ok (.invokestatic 58, 3) := by decide +kernel
theorem dX9_drawByOrder_10 : decode cX9_drawByOrder 10 = .ok (.ifCond .eq 7, 3) := by decide +kernel
theorem dX9_drawByOrder_13 : decode cX9_drawByOrder 13 = .ok (.iconst 0, 1) := by decide +kernel
theorem dX9_drawByOrder_14 : decode cX9_drawByOrder 14 = .ok (.goto 4, 3) := by decide +kernel
theorem dX9_drawByOrder_17 : decode cX9_drawByOrder 17 = .ok (.iconst 1, 1) := by decide +kernel
theorem dX9_drawByOrder_18 : decode cX9_drawByOrder 18 = .ok (.invokevirtual 77, 3) := by decide +kernel
theorem dX9_drawByOrder_21 : decode cX9_drawByOrder 21 = .ok (.ifCond .eq 5, 3) := by decide +kernel
theorem dX9_drawByOrder_24 : decode cX9_drawByOrder 24 = .ok (.iconst 0, 1) := by decide +kernel
theorem dX9_drawByOrder_25 : decode cX9_drawByOrder 25 = .ok (.ireturn, 1) := by decide +kernel
theorem dX9_drawByOrder_26 : decode cX9_drawByOrder 26 = .ok (.aload_n 0, 1) := by decide +kernel
theorem dX9_drawByOrder_27 : decode cX9_drawByOrder 27 = .ok (.invokevirtual 134, 3) := by decide +kernel
theorem dX9_drawByOrder_30 : decode cX9_drawByOrder 30 = .ok (.aload_n 0, 1) := by decide +kernel
theorem dX9_drawByOrder_31 : decode cX9_drawByOrder 31 = .ok (.aload_n 0, 1) := by decide +kernel
theorem dX9_drawByOrder_32 : decode cX9_drawByOrder 32 = .ok (.getfield 16, 3) := by decide +kernel
theorem dX9_drawByOrder_35 : decode cX9_drawByOrder 35 = .ok (.iload_n 1, 1) := by decide +kernel
theorem dX9_drawByOrder_36 : decode cX9_drawByOrder 36 = .ok (.invokevirtual 140, 3) := by decide +kernel
theorem dX9_drawByOrder_39 : decode cX9_drawByOrder 39 = .ok (.ireturn, 1) := by decide +kernel
set_option maxRecDepth 20000 in
theorem ggX9_goByOrder_X9_nextOf : GoodIn wsX9_goByOrder wsX9_nextOf := goodIn_r _ [5, 6, 7, 8, 4, 9, 10, 11, 12, 13, 14, 15, 16, 17, 18, 19, 20, 21, 22, 23, 24, 25, 26, 27, 28, 29, 30, 34, 35, 36, 37, 38, 39, 40, 41, 42, 43, 44, 45, 46, 47, 48, 49, 50, 51, 52, 53] (by decide +kernel) (by decide +kernel)
set_option maxRecDepth 20000 in
theorem gX9_goByOrder_X9_nextOf : GoodIn wsX9_goByOrder (wsV RX9 144 RX9 yX9_nextOf wsX9_nextOf) := goodIn_app (goodIn_of _ (by decide +kernel)) ggX9_goByOrder_X9_nextOf
set_option maxRecDepth 20000 in
theorem ggX9_goByOrder_X9_take : GoodIn wsX9_goByOrder wsX9_take := goodIn_r _ [33] (by decide +kernel) (by decide +kernel)
set_option maxRecDepth 20000 in
theorem gX9_goByOrder_X9_take : GoodIn wsX9_goByOrder (va_wsS RX9 137 yX9_take wsX9_take) := goodIn_app (goodIn_of _ (by decide +kernel)) ggX9_goByOrder_X9_take
theorem dX9_goByOrder_0 : decode cX9_goByOrder 0 = .ok (.iconst 0, 1) := by decide +kernel
theorem dX9_goByOrder_1 : decode cX9_goByOrder 1 = .ok (.istore_n 3, 1) := by decide +kernel
theorem dX9_goByOrder_2 : decode cX9_goByOrder 2 = .ok (.aload_n 0, 1) := by decide +kernel
theorem dX9_goByOrder_3 : decode cX9_goByOrder 3 = .ok (.aload_n 1, 1) := by decide +kernel
theorem dX9_goByOrder_4 : decode cX9_goByOrder 4 = .ok (.invokevirtual 144, 3) := by decide +kernel
theorem dX9_goByOrder_7 : decode cX9_goByOrder 7 = .ok (.istore 4, 2) := by decide +kernel
theorem dX9_goByOrder_9 : decode cX9_goByOrder 9 = .ok (.iload_n 3, 1) := by decide +kernel
theorem dX9_goByOrder_10 : decode cX9_goByOrder 10 = .ok (.iload_n 2, 1) := by decide +kernel
theorem dX9_goByOrder_11 : decode cX9_goByOrder 11 = .ok (.if_icmp .ge 31, 3) := by decide +kernel
theorem dX9_goByOrder_14 : decode cX9_goByOrder 14 = .ok (.iload 4, 2) := by decide +kernel
theorem dX9_goByOrder_16 : decode cX9_goByOrder 16 = .ok (.bipush (-9), 2) := by decide +kernel
theorem dX9_goByOrder_18 : decode cX9_goByOrder 18 = .ok (.if_icmp .eq 24, 3) := by decide +kernel
theorem dX9_goByOrder_21 : decode cX9_goByOrder 21 = .ok (.aload_n 1, 1) := by decide +kernel
theorem dX9_goByOrder_22 : decode cX9_goByOrder 22 = .ok (.iconst 0, 1) := by decide +kernel
theorem dX9_goByOrder_23 : decode cX9_goByOrder 23 = .ok (.iload 4, 2) := by decide +kernel
theorem dX9_goByOrder_25 : decode cX9_goByOrder 25 = .ok (.invokestatic 137, 3) := by decide +kernel
theorem dX9_goByOrder_28 : decode cX9_goByOrder 28 = .ok (.pop, 1) := by decide +kernel
theorem dX9_goByOrder_29 : decode cX9_goByOrder 29 = .ok (.iinc 3 1, 3) := by decide +kernel
theorem dX9_goByOrder_32 : decode cX9_goByOrder 32 = .ok (.aload_n 0, 1) := by decide +kernel
theorem dX9_goByOrder_33 : decode cX9_goByOrder 33 = .ok (.aload_n 1, 1) := by decide +kernel
theorem dX9_goByOrder_34 : decode cX9_goByOrder 34 = .ok (.invokevirtual 144, 3) := by decide +kernel
theorem dX9_goByOrder_37 : decode cX9_goByOrder 37 = .ok (.istore 4, 2) := by decide +kernel
theorem dX9_goByOrder_39 : decode cX9_goByOrder 39 = .ok (.goto (-30), 3) := by decide +kernel
theorem dX9_goByOrder_42 : decode cX9_goByOrder 42 = .ok (.iload_n 3, 1) := by decide +kernel
theorem dX9_goByOrder_43 : decode cX9_goByOrder 43 = .ok (.ireturn, 1) := by decide +kernel
set_option maxRecDepth 20000 in
theorem ggX9_hang_X9_isPoint : GoodIn wsX9_hang wsX9_isPoint := goodIn_r _ [6, 7, 8, 9, 5, 10, 11, 12, 13, 14, 15, 35, 36, 37, 38, 39, 40, 41, 42, 43, 44, 45, 46, 47, 48, 49, 50, 51, 52, 53, 54] (by decide +kernel) (by decide +kernel)
set_option maxRecDepth 20000 in
theorem gX9_hang_X9_isPoint : GoodIn wsX9_hang (wsV RX9 125 RX9 yX9_isPoint wsX9_isPoint) := goodIn_app (goodIn_of _ (by decide +kernel)) ggX9_hang_X9_isPoint
set_option maxRecDepth 20000 in
theorem ggX9_hang_X9_refused : GoodIn wsX9_hang wsX9_refused := goodIn_r _ [19, 20, 35, 36, 37, 38, 39, 40, 41, 42, 43, 44, 45, 46, 47, 48, 49, 50, 51, 52, 53, 54] (by decide +kernel) (by decide +kernel)
set_option maxRecDepth 20000 in
theorem gX9_hang_X9_refused : GoodIn wsX9_hang (wsV RX9 77 RX9 yX9_refused wsX9_refused) := goodIn_app (goodIn_of _ (by decide +kernel)) ggX9_hang_X9_refused
set_option maxRecDepth 20000 in
theorem ggX9_hang_X9_note : GoodIn wsX9_hang wsX9_note := goodIn_r _ [24, 1, 25, 26, 27, 28, 29, 5, 30, 35, 36, 37, 38, 39, 40, 41, 42, 43, 44, 45, 46, 47, 48, 49, 50, 51, 52, 53, 54] (by decide +kernel) (by decide +kernel)
set_option maxRecDepth 20000 in
theorem gX9_hang_X9_note : GoodIn wsX9_hang (wsV RX9 134 RX9 yX9_note wsX9_note) := goodIn_app (goodIn_of _ (by decide +kernel)) ggX9_hang_X9_note
set_option maxRecDepth 20000 in
theorem ggX9_hang_X9_hungOf : GoodIn wsX9_hang wsX9_hungOf := goodIn_r _ [34, 7, 8, 9, 5, 10, 11, 12, 35, 36, 37, 38, 39, 40, 41, 42, 43, 44, 45, 46, 47, 48, 49, 50, 51, 52, 53, 54] (by decide +kernel) (by decide +kernel)
set_option maxRecDepth 20000 in
theorem gX9_hang_X9_hungOf : GoodIn wsX9_hang (wsV RX9 148 RX9 yX9_hungOf wsX9_hungOf) := goodIn_app (goodIn_of _ (by decide +kernel)) ggX9_hang_X9_hungOf
theorem dX9_hang_0 : decode cX9_hang 0 = .ok (.aload_n 0, 1) := by decide +kernel
theorem dX9_hang_1 : decode cX9_hang 1 = .ok (.aload_n 0, 1) := by decide +kernel
theorem dX9_hang_2 : decode cX9_hang 2 = .ok (.iload_n 1, 1) := by decide +kernel
theorem dX9_hang_3 : decode cX9_hang 3 = .ok (.invokevirtual 125, 3) := by decide +kernel
theorem dX9_hang_6 : decode cX9_hang 6 = .ok (.ifCond .ne 7, 3) := by decide +kernel
theorem dX9_hang_9 : decode cX9_hang 9 = .ok (.iconst 1, 1) := by decide +kernel
theorem dX9_hang_10 : decode cX9_hang 10 = .ok (.goto 23, 3) := by decide +kernel
theorem dX9_hang_13 : decode cX9_hang 13 = .ok (.aload_n 0, 1) := by decide +kernel
theorem dX9_hang_14 : decode cX9_hang 14 = .ok (.getfield 16, 3) := by decide +kernel
theorem dX9_hang_17 : decode cX9_hang 17 = .ok (.bipush 15, 2) := by decide +kernel
theorem dX9_hang_19 : decode cX9_hang 19 = .ok (.iload_n 1, 1) := by decide +kernel
theorem dX9_hang_20 : decode cX9_hang 20 = .ok (.imul, 1) := by decide +kernel
theorem dX9_hang_21 : decode cX9_hang 21 = .ok (.iconst 1, 1) := by decide +kernel
theorem dX9_hang_22 : decode cX9_hang 22 = .ok (.iadd, 1) := by decide +kernel
theorem dX9_hang_23 : decode cX9_hang 23 = .ok (.iaload, 1) := by decide +kernel
theorem dX9_hang_24 : decode cX9_hang 24 = .ok (.iconst 1, 1) := by decide +kernel
theorem dX9_hang_25 : decode cX9_hang 25 = .ok (.if_icmp .ne 7, 3) := by decide +kernel
theorem dX9_hang_28 : decode cX9_hang 28 = .ok (.iconst 2, 1) := by decide +kernel
theorem dX9_hang_29 : decode cX9_hang 29 = .ok (.goto 4, 3) := by decide +kernel
theorem dX9_hang_32 : decode cX9_hang 32 = .ok (.iconst 0, 1) := by decide +kernel
theorem dX9_hang_33 : decode cX9_hang 33 = .ok (.invokevirtual 77, 3) := by decide +kernel
theorem dX9_hang_36 : decode cX9_hang 36 = .ok (.ifCond .eq 5, 3) := by decide +kernel
theorem dX9_hang_39 : decode cX9_hang 39 = .ok (.iconst 0, 1) := by decide +kernel
theorem dX9_hang_40 : decode cX9_hang 40 = .ok (.ireturn, 1) := by decide +kernel
theorem dX9_hang_41 : decode cX9_hang 41 = .ok (.aload_n 0, 1) := by decide +kernel
theorem dX9_hang_42 : decode cX9_hang 42 = .ok (.invokevirtual 134, 3) := by decide +kernel
theorem dX9_hang_45 : decode cX9_hang 45 = .ok (.aload_n 0, 1) := by decide +kernel
theorem dX9_hang_46 : decode cX9_hang 46 = .ok (.getfield 16, 3) := by decide +kernel
theorem dX9_hang_49 : decode cX9_hang 49 = .ok (.bipush 15, 2) := by decide +kernel
theorem dX9_hang_51 : decode cX9_hang 51 = .ok (.iload_n 1, 1) := by decide +kernel
theorem dX9_hang_52 : decode cX9_hang 52 = .ok (.imul, 1) := by decide +kernel
theorem dX9_hang_53 : decode cX9_hang 53 = .ok (.iconst 1, 1) := by decide +kernel
theorem dX9_hang_54 : decode cX9_hang 54 = .ok (.iadd, 1) := by decide +kernel
theorem dX9_hang_55 : decode cX9_hang 55 = .ok (.iconst 1, 1) := by decide +kernel
theorem dX9_hang_56 : decode cX9_hang 56 = .ok (.iastore, 1) := by decide +kernel
theorem dX9_hang_57 : decode cX9_hang 57 = .ok (.aload_n 0, 1) := by decide +kernel
theorem dX9_hang_58 : decode cX9_hang 58 = .ok (.aload_n 0, 1) := by decide +kernel
theorem dX9_hang_59 : decode cX9_hang 59 = .ok (.getfield 16, 3) := by decide +kernel
theorem dX9_hang_62 : decode cX9_hang 62 = .ok (.invokevirtual 148, 3) := by decide +kernel
theorem dX9_hang_65 : decode cX9_hang 65 = .ok (.ireturn, 1) := by decide +kernel
set_option maxRecDepth 20000 in
theorem ggX9_release_X9_isPoint : GoodIn wsX9_release wsX9_isPoint := goodIn_r _ [6, 7, 8, 9, 5, 10, 11, 12, 13, 14, 15, 35, 36, 37, 38, 39, 40, 41, 42, 43, 44, 45, 46, 47, 48, 49, 50, 51, 52, 53, 54] (by decide +kernel) (by decide +kernel)
set_option maxRecDepth 20000 in
theorem gX9_release_X9_isPoint : GoodIn wsX9_release (wsV RX9 125 RX9 yX9_isPoint wsX9_isPoint) := goodIn_app (goodIn_of _ (by decide +kernel)) ggX9_release_X9_isPoint
set_option maxRecDepth 20000 in
theorem ggX9_release_X9_refused : GoodIn wsX9_release wsX9_refused := goodIn_r _ [19, 20, 35, 36, 37, 38, 39, 40, 41, 42, 43, 44, 45, 46, 47, 48, 49, 50, 51, 52, 53, 54] (by decide +kernel) (by decide +kernel)
set_option maxRecDepth 20000 in
theorem gX9_release_X9_refused : GoodIn wsX9_release (wsV RX9 77 RX9 yX9_refused wsX9_refused) := goodIn_app (goodIn_of _ (by decide +kernel)) ggX9_release_X9_refused
set_option maxRecDepth 20000 in
theorem ggX9_release_X9_note : GoodIn wsX9_release wsX9_note := goodIn_r _ [24, 1, 25, 26, 27, 28, 29, 5, 30, 35, 36, 37, 38, 39, 40, 41, 42, 43, 44, 45, 46, 47, 48, 49, 50, 51, 52, 53, 54] (by decide +kernel) (by decide +kernel)
set_option maxRecDepth 20000 in
theorem gX9_release_X9_note : GoodIn wsX9_release (wsV RX9 134 RX9 yX9_note wsX9_note) := goodIn_app (goodIn_of _ (by decide +kernel)) ggX9_release_X9_note
set_option maxRecDepth 20000 in
theorem ggX9_release_X9_hungOf : GoodIn wsX9_release wsX9_hungOf := goodIn_r _ [34, 7, 8, 9, 5, 10, 11, 12, 35, 36, 37, 38, 39, 40, 41, 42, 43, 44, 45, 46, 47, 48, 49, 50, 51, 52, 53, 54] (by decide +kernel) (by decide +kernel)
set_option maxRecDepth 20000 in
theorem gX9_release_X9_hungOf : GoodIn wsX9_release (wsV RX9 148 RX9 yX9_hungOf wsX9_hungOf) := goodIn_app (goodIn_of _ (by decide +kernel)) ggX9_release_X9_hungOf
theorem dX9_release_0 : decode cX9_release 0 = .ok (.aload_n 0, 1) := by decide +kernel
theorem dX9_release_1 : decode cX9_release 1 = .ok (.aload_n 0, 1) := by decide +kernel
theorem dX9_release_2 : decode cX9_release 2 = .ok (.iload_n 1, 1) := by decide +kernel
theorem dX9_release_3 : decode cX9_release 3 = .ok (.invokevirtual 125, 3) := by decide +kernel
theorem dX9_release_6 : decode cX9_release 6 = .ok (.ifCond .ne 7, 3) := by decide +kernel
theorem dX9_release_9 : decode cX9_release 9 = .ok (.iconst 1, 1) := by decide +kernel
theorem dX9_release_10 : decode cX9_release 10 = .ok (.goto 22, 3) := by decide +kernel
theorem dX9_release_13 : decode cX9_release 13 = .ok (.aload_n 0, 1) := by decide +kernel
theorem dX9_release_14 : decode cX9_release 14 = .ok (.getfield 16, 3) := by decide +kernel
theorem dX9_release_17 : decode cX9_release 17 = .ok (.bipush 15, 2) := by decide +kernel
theorem dX9_release_19 : decode cX9_release 19 = .ok (.iload_n 1, 1) := by decide +kernel
theorem dX9_release_20 : decode cX9_release 20 = .ok (.imul, 1) := by decide +kernel
theorem dX9_release_21 : decode cX9_release 21 = .ok (.iconst 1, 1) := by decide +kernel
theorem dX9_release_22 : decode cX9_release 22 = .ok (.iadd, 1) := by decide +kernel
theorem dX9_release_23 : decode cX9_release 23 = .ok (.iaload, 1) := by decide +kernel
theorem dX9_release_24 : decode cX9_release 24 = .ok (.ifCond .ne 7, 3) := by decide +kernel
theorem dX9_release_27 : decode cX9_release 27 = .ok (.iconst 2, 1) := by decide +kernel
theorem dX9_release_28 : decode cX9_release 28 = .ok (.goto 4, 3) := by decide +kernel
theorem dX9_release_31 : decode cX9_release 31 = .ok (.iconst 0, 1) := by decide +kernel
theorem dX9_release_32 : decode cX9_release 32 = .ok (.invokevirtual 77, 3) := by decide +kernel
theorem dX9_release_35 : decode cX9_release 35 = .ok (.ifCond .eq 5, 3) := by decide +kernel
theorem dX9_release_38 : decode cX9_release 38 = .ok (.iconst 0, 1) := by decide +kernel
theorem dX9_release_39 : decode cX9_release 39 = .ok (.ireturn, 1) := by decide +kernel
theorem dX9_release_40 : decode cX9_release 40 = .ok (.aload_n 0, 1) := by decide +kernel
theorem dX9_release_41 : decode cX9_release 41 = .ok (.invokevirtual 134, 3) := by decide +kernel
theorem dX9_release_44 : decode cX9_release 44 = .ok (.aload_n 0, 1) := by decide +kernel
theorem dX9_release_45 : decode cX9_release 45 = .ok (.getfield 16, 3) := by decide +kernel
theorem dX9_release_48 : decode cX9_release 48 = .ok (.bipush 15, 2) := by decide +kernel
theorem dX9_release_50 : decode cX9_release 50 = .ok (.iload_n 1, 1) := by decide +kernel
theorem dX9_release_51 : decode cX9_release 51 = .ok (.imul, 1) := by decide +kernel
theorem dX9_release_52 : decode cX9_release 52 = .ok (.iconst 1, 1) := by decide +kernel
theorem dX9_release_53 : decode cX9_release 53 = .ok (.iadd, 1) := by decide +kernel
theorem dX9_release_54 : decode cX9_release 54 = .ok (.iconst 0, 1) := by decide +kernel
theorem dX9_release_55 : decode cX9_release 55 = .ok (.iastore, 1) := by decide +kernel
theorem dX9_release_56 : decode cX9_release 56 = .ok (.aload_n 0, 1) := by decide +kernel
theorem dX9_release_57 : decode cX9_release 57 = .ok (.aload_n 0, 1) := by decide +kernel
theorem dX9_release_58 : decode cX9_release 58 = .ok (.getfield 16, 3) := by decide +kernel
theorem dX9_release_61 : decode cX9_release 61 = .ok (.invokevirtual 148, 3) := by decide +kernel
theorem dX9_release_64 : decode cX9_release 64 = .ok (.ireturn, 1) := by decide +kernel
set_option maxRecDepth 20000 in
theorem ggX9_addSlice_X9_in : GoodIn wsX9_addSlice wsX9_in := goodIn_r _ [6] (by decide +kernel) (by decide +kernel)
set_option maxRecDepth 20000 in
theorem gX9_addSlice_X9_in : GoodIn wsX9_addSlice (va_wsS RX9 58 yX9_in wsX9_in) := goodIn_app (goodIn_of _ (by decide +kernel)) ggX9_addSlice_X9_in
set_option maxRecDepth 20000 in
theorem ggX9_addSlice_X9_isPoint : GoodIn wsX9_addSlice wsX9_isPoint := goodIn_r _ [10, 11, 12, 13, 5, 14, 15, 16, 3, 4, 6, 32, 33, 34, 35, 36, 37, 38, 39, 40, 41, 42, 43, 44, 45, 46, 47, 48, 49, 50, 51] (by decide +kernel) (by decide +kernel)
set_option maxRecDepth 20000 in
theorem gX9_addSlice_X9_isPoint : GoodIn wsX9_addSlice (wsV RX9 125 RX9 yX9_isPoint wsX9_isPoint) := goodIn_app (goodIn_of _ (by decide +kernel)) ggX9_addSlice_X9_isPoint
set_option maxRecDepth 20000 in
theorem ggX9_addSlice_X9_refused : GoodIn wsX9_addSlice wsX9_refused := goodIn_r _ [20, 21, 32, 33, 34, 35, 36, 37, 38, 39, 40, 41, 42, 43, 44, 45, 46, 47, 48, 49, 50, 51] (by decide +kernel) (by decide +kernel)
set_option maxRecDepth 20000 in
theorem gX9_addSlice_X9_refused : GoodIn wsX9_addSlice (wsV RX9 77 RX9 yX9_refused wsX9_refused) := goodIn_app (goodIn_of _ (by decide +kernel)) ggX9_addSlice_X9_refused
set_option maxRecDepth 20000 in
theorem ggX9_addSlice_X9_note : GoodIn wsX9_addSlice wsX9_note := goodIn_r _ [25, 2, 26, 27, 28, 29, 30, 5, 31, 32, 33, 34, 35, 36, 37, 38, 39, 40, 41, 42, 43, 44, 45, 46, 47, 48, 49, 50, 51] (by decide +kernel) (by decide +kernel)
set_option maxRecDepth 20000 in
theorem gX9_addSlice_X9_note : GoodIn wsX9_addSlice (wsV RX9 134 RX9 yX9_note wsX9_note) := goodIn_app (goodIn_of _ (by decide +kernel)) ggX9_addSlice_X9_note
theorem dX9_addSlice_0 : decode cX9_addSlice 0 = .ok (.iload_n 2, 1) := by decide +kernel
theorem dX9_addSlice_1 : decode cX9_addSlice 1 = .ok (.i2l, 1) := by decide +kernel
theorem dX9_addSlice_2 : decode cX9_addSlice 2 = .ok (.lconst 1, 1) := by decide +kernel
theorem dX9_addSlice_3 : decode cX9_addSlice 3 = .ok (.ldc2_w 151, 3) := by decide +kernel
theorem dX9_addSlice_6 : decode cX9_addSlice 6 = .ok (.invokestatic 58, 3) := by decide +kernel
theorem dX9_addSlice_9 : decode cX9_addSlice 9 = .ok (.ifCond .eq 19, 3) := by decide +kernel
theorem dX9_addSlice_12 : decode cX9_addSlice 12 = .ok (.iload_n 3, 1) := by decide +kernel
theorem dX9_addSlice_13 : decode cX9_addSlice 13 = .ok (.i2l, 1) := by decide +kernel
theorem dX9_addSlice_14 : decode cX9_addSlice 14 = .ok (.lconst 0, 1) := by decide +kernel
theorem dX9_addSlice_15 : decode cX9_addSlice 15 = .ok (.ldc2_w 151, 3) := by decide +kernel
theorem dX9_addSlice_18 : decode cX9_addSlice 18 = .ok (.invokestatic 58, 3) := by decide +kernel
theorem dX9_addSlice_21 : decode cX9_addSlice 21 = .ok (.ifCond .eq 7, 3) := by decide +kernel
theorem dX9_addSlice_24 : decode cX9_addSlice 24 = .ok (.iconst 1, 1) := by decide +kernel
theorem dX9_addSlice_25 : decode cX9_addSlice 25 = .ok (.goto 4, 3) := by decide +kernel
theorem dX9_addSlice_28 : decode cX9_addSlice 28 = .ok (.iconst 0, 1) := by decide +kernel
theorem dX9_addSlice_29 : decode cX9_addSlice 29 = .ok (.istore 4, 2) := by decide +kernel
theorem dX9_addSlice_31 : decode cX9_addSlice 31 = .ok (.aload_n 0, 1) := by decide +kernel
theorem dX9_addSlice_32 : decode cX9_addSlice 32 = .ok (.aload_n 0, 1) := by decide +kernel
theorem dX9_addSlice_33 : decode cX9_addSlice 33 = .ok (.iload_n 1, 1) := by decide +kernel
theorem dX9_addSlice_34 : decode cX9_addSlice 34 = .ok (.invokevirtual 125, 3) := by decide +kernel
theorem dX9_addSlice_37 : decode cX9_addSlice 37 = .ok (.ifCond .ne 7, 3) := by decide +kernel
theorem dX9_addSlice_40 : decode cX9_addSlice 40 = .ok (.iconst 1, 1) := by decide +kernel
theorem dX9_addSlice_41 : decode cX9_addSlice 41 = .ok (.goto 33, 3) := by decide +kernel
theorem dX9_addSlice_44 : decode cX9_addSlice 44 = .ok (.iload 4, 2) := by decide +kernel
theorem dX9_addSlice_46 : decode cX9_addSlice 46 = .ok (.ifCond .ne 7, 3) := by decide +kernel
theorem dX9_addSlice_49 : decode cX9_addSlice 49 = .ok (.iconst 2, 1) := by decide +kernel
theorem dX9_addSlice_50 : decode cX9_addSlice 50 = .ok (.goto 24, 3) := by decide +kernel
theorem dX9_addSlice_53 : decode cX9_addSlice 53 = .ok (.aload_n 0, 1) := by decide +kernel
theorem dX9_addSlice_54 : decode cX9_addSlice 54 = .ok (.getfield 16, 3) := by decide +kernel
theorem dX9_addSlice_57 : decode cX9_addSlice 57 = .ok (.bipush 15, 2) := by decide +kernel
theorem dX9_addSlice_59 : decode cX9_addSlice 59 = .ok (.iload_n 1, 1) := by decide +kernel
theorem dX9_addSlice_60 : decode cX9_addSlice 60 = .ok (.imul, 1) := by decide +kernel
theorem dX9_addSlice_61 : decode cX9_addSlice 61 = .ok (.iconst 2, 1) := by decide +kernel
theorem dX9_addSlice_62 : decode cX9_addSlice 62 = .ok (.iadd, 1) := by decide +kernel
theorem dX9_addSlice_63 : decode cX9_addSlice 63 = .ok (.iaload, 1) := by decide +kernel
theorem dX9_addSlice_64 : decode cX9_addSlice 64 = .ok (.bipush 6, 2) := by decide +kernel
theorem dX9_addSlice_66 : decode cX9_addSlice 66 = .ok (.if_icmp .ne 7, 3) := by decide +kernel
theorem dX9_addSlice_69 : decode cX9_addSlice 69 = .ok (.iconst 3, 1) := by decide +kernel
theorem dX9_addSlice_70 : decode cX9_addSlice 70 = .ok (.goto 4, 3) := by decide +kernel
theorem dX9_addSlice_73 : decode cX9_addSlice 73 = .ok (.iconst 0, 1) := by decide +kernel
theorem dX9_addSlice_74 : decode cX9_addSlice 74 = .ok (.invokevirtual 77, 3) := by decide +kernel
theorem dX9_addSlice_77 : decode cX9_addSlice 77 = .ok (.ifCond .eq 5, 3) := by decide +kernel
theorem dX9_addSlice_80 : decode cX9_addSlice 80 = .ok (.iconst 0, 1) := by decide +kernel
theorem dX9_addSlice_81 : decode cX9_addSlice 81 = .ok (.ireturn, 1) := by decide +kernel
theorem dX9_addSlice_82 : decode cX9_addSlice 82 = .ok (.aload_n 0, 1) := by decide +kernel
theorem dX9_addSlice_83 : decode cX9_addSlice 83 = .ok (.invokevirtual 134, 3) := by decide +kernel
theorem dX9_addSlice_86 : decode cX9_addSlice 86 = .ok (.bipush 15, 2) := by decide +kernel
theorem dX9_addSlice_88 : decode cX9_addSlice 88 = .ok (.iload_n 1, 1) := by decide +kernel
theorem dX9_addSlice_89 : decode cX9_addSlice 89 = .ok (.imul, 1) := by decide +kernel
theorem dX9_addSlice_90 : decode cX9_addSlice 90 = .ok (.iconst 3, 1) := by decide +kernel
theorem dX9_addSlice_91 : decode cX9_addSlice 91 = .ok (.iadd, 1) := by decide +kernel
theorem dX9_addSlice_92 : decode cX9_addSlice 92 = .ok (.iconst 2, 1) := by decide +kernel
theorem dX9_addSlice_93 : decode cX9_addSlice 93 = .ok (.aload_n 0, 1) := by decide +kernel
theorem dX9_addSlice_94 : decode cX9_addSlice 94 = .ok (.getfield 16, 3) := by decide +kernel
theorem dX9_addSlice_97 : decode cX9_addSlice 97 = .ok (.bipush 15, 2) := by decide +kernel
theorem dX9_addSlice_99 : decode cX9_addSlice 99 = .ok (.iload_n 1, 1) := by decide +kernel
theorem dX9_addSlice_100 : decode cX9_addSlice 100 = .ok (.imul, 1) := by decide +kernel
theorem dX9_addSlice_101 : decode cX9_addSlice 101 = .ok (.iconst 2, 1) := by decide +kernel
theorem dX9_addSlice_102 : decode cX9_addSlice 102 = .ok (.iadd, 1) := by decide +kernel
theorem dX9_addSlice_103 : decode cX9_addSlice 103 = .ok (.iaload, 1) := by decide +kernel
theorem dX9_addSlice_104 : decode cX9_addSlice 104 = .ok (.imul, 1) := by decide +kernel
theorem dX9_addSlice_105 : decode cX9_addSlice 105 = .ok (.iadd, 1) := by decide +kernel
theorem dX9_addSlice_106 : decode cX9_addSlice 106 = .ok (.istore 5, 2) := by decide +kernel
theorem dX9_addSlice_108 : decode cX9_addSlice 108 = .ok (.aload_n 0, 1) := by decide +kernel
theorem dX9_addSlice_109 : decode cX9_addSlice 109 = .ok (.getfield 16, 3) := by decide +kernel
theorem dX9_addSlice_112 : decode cX9_addSlice 112 = .ok (.iload 5, 2) := by decide +kernel
theorem dX9_addSlice_114 : decode cX9_addSlice 114 = .ok (.iload_n 2, 1) := by decide +kernel
theorem dX9_addSlice_115 : decode cX9_addSlice 115 = .ok (.iastore, 1) := by decide +kernel
theorem dX9_addSlice_116 : decode cX9_addSlice 116 = .ok (.aload_n 0, 1) := by decide +kernel
theorem dX9_addSlice_117 : decode cX9_addSlice 117 = .ok (.getfield 16, 3) := by decide +kernel
theorem dX9_addSlice_120 : decode cX9_addSlice 120 = .ok (.iload 5, 2) := by decide +kernel
theorem dX9_addSlice_122 : decode cX9_addSlice 122 = .ok (.iconst 1, 1) := by decide +kernel
theorem dX9_addSlice_123 : decode cX9_addSlice 123 = .ok (.iadd, 1) := by decide +kernel
theorem dX9_addSlice_124 : decode cX9_addSlice 124 = .ok (.iload_n 3, 1) := by decide +kernel
theorem dX9_addSlice_125 : decode cX9_addSlice 125 = .ok (.iastore, 1) := by decide +kernel
theorem dX9_addSlice_126 : decode cX9_addSlice 126 = .ok (.aload_n 0, 1) := by decide +kernel
theorem dX9_addSlice_127 : decode cX9_addSlice 127 = .ok (.getfield 16, 3) := by decide +kernel
theorem dX9_addSlice_130 : decode cX9_addSlice 130 = .ok (.bipush 15, 2) := by decide +kernel
theorem dX9_addSlice_132 : decode cX9_addSlice 132 = .ok (.iload_n 1, 1) := by decide +kernel
theorem dX9_addSlice_133 : decode cX9_addSlice 133 = .ok (.imul, 1) := by decide +kernel
theorem dX9_addSlice_134 : decode cX9_addSlice 134 = .ok (.iconst 2, 1) := by decide +kernel
theorem dX9_addSlice_135 : decode cX9_addSlice 135 = .ok (.iadd, 1) := by decide +kernel
theorem dX9_addSlice_136 : decode cX9_addSlice 136 = .ok (.dup2, 1) := by decide +kernel
theorem dX9_addSlice_137 : decode cX9_addSlice 137 = .ok (.iaload, 1) := by decide +kernel
theorem dX9_addSlice_138 : decode cX9_addSlice 138 = .ok (.iconst 1, 1) := by decide +kernel
theorem dX9_addSlice_139 : decode cX9_addSlice 139 = .ok (.iadd, 1) := by decide +kernel
theorem dX9_addSlice_140 : decode cX9_addSlice 140 = .ok (.iastore, 1) := by decide +kernel
theorem dX9_addSlice_141 : decode cX9_addSlice 141 = .ok (.aload_n 0, 1) := by decide +kernel
theorem dX9_addSlice_142 : decode cX9_addSlice 142 = .ok (.getfield 16, 3) := by decide +kernel
theorem dX9_addSlice_145 : decode cX9_addSlice 145 = .ok (.bipush 15, 2) := by decide +kernel
theorem dX9_addSlice_147 : decode cX9_addSlice 147 = .ok (.iload_n 1, 1) := by decide +kernel
theorem dX9_addSlice_148 : decode cX9_addSlice 148 = .ok (.imul, 1) := by decide +kernel
theorem dX9_addSlice_149 : decode cX9_addSlice 149 = .ok (.iconst 2, 1) := by decide +kernel
theorem dX9_addSlice_150 : decode cX9_addSlice 150 = .ok (.iadd, 1) := by decide +kernel
theorem dX9_addSlice_151 : decode cX9_addSlice 151 = .ok (.iaload, 1) := by decide +kernel
theorem dX9_addSlice_152 : decode cX9_addSlice 152 = .ok (.ireturn, 1) := by decide +kernel
set_option maxRecDepth 20000 in
theorem ggX9_isKeptBy_X9_points : GoodIn wsX9_isKeptBy wsX9_points := goodIn_r _ [6, 7, 8, 13, 14, 15, 16, 17, 18, 19, 20, 21, 22, 23, 24, 25, 26, 27, 28, 29, 30, 31, 32] (by decide +kernel) (by decide +kernel)
set_option maxRecDepth 20000 in
theorem gX9_isKeptBy_X9_points : GoodIn wsX9_isKeptBy (wsV RX9 54 RX9 yX9_points wsX9_points) := goodIn_app (goodIn_of _ (by decide +kernel)) ggX9_isKeptBy_X9_points
set_option maxRecDepth 20000 in
theorem ggX9_isKeptBy_X9_areBeside : GoodIn wsX9_isKeptBy wsX9_areBeside := goodIn_r _ [12, 8, 13, 14, 15, 16, 17, 18, 19, 20, 21, 22, 23, 24, 25, 26, 27, 28, 29, 30, 31, 32] (by decide +kernel) (by decide +kernel)
set_option maxRecDepth 20000 in
theorem gX9_isKeptBy_X9_areBeside : GoodIn wsX9_isKeptBy (wsV RX9 107 RX9 yX9_areBeside wsX9_areBeside) := goodIn_app (goodIn_of _ (by decide +kernel)) ggX9_isKeptBy_X9_areBeside
theorem dX9_isKeptBy_0 : decode cX9_isKeptBy 0 = .ok (.iconst 1, 1) := by decide +kernel

theorem dX9_findBest_42 : decode cX9_findBest 42 = .ok (.iload_n 1, 1) := by decide +kernel
theorem dX9_findBest_43 : decode cX9_findBest 43 = .ok (.iload_n 2, 1) := by decide +kernel
theorem dX9_findBest_44 : decode cX9_findBest 44 = .ok (.invokevirtual 161, 3) := by decide +kernel
theorem dX9_findBest_47 : decode cX9_findBest 47 = .ok (.iinc 2 (-1), 3) := by decide +kernel
theorem dX9_findBest_50 : decode cX9_findBest 50 = .ok (.goto (-20), 3) := by decide +kernel
theorem dX9_findBest_53 : decode cX9_findBest 53 = .ok (.aload_n 0, 1) := by decide +kernel
theorem dX9_findBest_54 : decode cX9_findBest 54 = .ok (.getfield 45, 3) := by decide +kernel
theorem dX9_findBest_57 : decode cX9_findBest 57 = .ok (.iload_n 2, 1) := by decide +kernel
theorem dX9_findBest_58 : decode cX9_findBest 58 = .ok (.dup2, 1) := by decide +kernel
theorem dX9_findBest_59 : decode cX9_findBest 59 = .ok (.iaload, 1) := by decide +kernel
theorem dX9_findBest_60 : decode cX9_findBest 60 = .ok (.iconst 1, 1) := by decide +kernel
theorem dX9_findBest_61 : decode cX9_findBest 61 = .ok (.iadd, 1) := by decide +kernel
theorem dX9_findBest_62 : decode cX9_findBest 62 = .ok (.iastore, 1) := by decide +kernel
theorem dX9_findBest_63 : decode cX9_findBest 63 = .ok (.aload_n 0, 1) := by decide +kernel
theorem dX9_findBest_64 : decode cX9_findBest 64 = .ok (.getfield 45, 3) := by decide +kernel
theorem dX9_findBest_67 : decode cX9_findBest 67 = .ok (.iload_n 2, 1) := by decide +kernel
theorem dX9_findBest_68 : decode cX9_findBest 68 = .ok (.iaload, 1) := by decide +kernel
theorem dX9_findBest_69 : decode cX9_findBest 69 = .ok (.aload_n 0, 1) := by decide +kernel
theorem dX9_findBest_70 : decode cX9_findBest 70 = .ok (.invokevirtual 54, 3) := by decide +kernel
theorem dX9_findBest_73 : decode cX9_findBest 73 = .ok (.if_icmp .ne 9, 3) := by decide +kernel
theorem dX9_findBest_76 : decode cX9_findBest 76 = .ok (.iinc 2 (-1), 3) := by decide +kernel
theorem dX9_findBest_79 : decode cX9_findBest 79 = .ok (.goto (-49), 3) := by decide +kernel
theorem dX9_findBest_82 : decode cX9_findBest 82 = .ok (.aload_n 0, 1) := by decide +kernel
theorem dX9_findBest_83 : decode cX9_findBest 83 = .ok (.aload_n 0, 1) := by decide +kernel
theorem dX9_findBest_84 : decode cX9_findBest 84 = .ok (.getfield 42, 3) := by decide +kernel
theorem dX9_findBest_87 : decode cX9_findBest 87 = .ok (.sipush 243, 3) := by decide +kernel
theorem dX9_findBest_90 : decode cX9_findBest 90 = .ok (.iload_n 2, 1) := by decide +kernel
theorem dX9_findBest_91 : decode cX9_findBest 91 = .ok (.imul, 1) := by decide +kernel
theorem dX9_findBest_92 : decode cX9_findBest 92 = .ok (.aload_n 0, 1) := by decide +kernel
theorem dX9_findBest_93 : decode cX9_findBest 93 = .ok (.getfield 45, 3) := by decide +kernel
theorem dX9_findBest_96 : decode cX9_findBest 96 = .ok (.iload_n 2, 1) := by decide +kernel
theorem dX9_findBest_97 : decode cX9_findBest 97 = .ok (.iaload, 1) := by decide +kernel
theorem dX9_findBest_98 : decode cX9_findBest 98 = .ok (.invokevirtual 130, 3) := by decide +kernel
theorem dX9_findBest_101 : decode cX9_findBest 101 = .ok (.ifCond .eq (-71), 3) := by decide +kernel
theorem dX9_findBest_104 : decode cX9_findBest 104 = .ok (.aload_n 0, 1) := by decide +kernel
theorem dX9_findBest_105 : decode cX9_findBest 105 = .ok (.getfield 42, 3) := by decide +kernel
theorem dX9_findBest_108 : decode cX9_findBest 108 = .ok (.sipush 243, 3) := by decide +kernel
theorem dX9_findBest_111 : decode cX9_findBest 111 = .ok (.iload_n 2, 1) := by decide +kernel
theorem dX9_findBest_112 : decode cX9_findBest 112 = .ok (.imul, 1) := by decide +kernel
theorem dX9_findBest_113 : decode cX9_findBest 113 = .ok (.aload_n 0, 1) := by decide +kernel
theorem dX9_findBest_114 : decode cX9_findBest 114 = .ok (.getfield 42, 3) := by decide +kernel
theorem dX9_findBest_117 : decode cX9_findBest 117 = .ok (.sipush 243, 3) := by decide +kernel
theorem dX9_findBest_120 : decode cX9_findBest 120 = .ok (.iload_n 2, 1) := by decide +kernel
theorem dX9_findBest_121 : decode cX9_findBest 121 = .ok (.imul, 1) := by decide +kernel
theorem dX9_findBest_122 : decode cX9_findBest 122 = .ok (.sipush 243, 3) := by decide +kernel
theorem dX9_findBest_125 : decode cX9_findBest 125 = .ok (.iadd, 1) := by decide +kernel
theorem dX9_findBest_126 : decode cX9_findBest 126 = .ok (.invokestatic 65, 3) := by decide +kernel
theorem dX9_findBest_129 : decode cX9_findBest 129 = .ok (.iinc 2 1, 3) := by decide +kernel
theorem dX9_findBest_132 : decode cX9_findBest 132 = .ok (.aload_n 0, 1) := by decide +kernel
theorem dX9_findBest_133 : decode cX9_findBest 133 = .ok (.getfield 42, 3) := by decide +kernel
theorem dX9_findBest_136 : decode cX9_findBest 136 = .ok (.sipush 243, 3) := by decide +kernel
theorem dX9_findBest_139 : decode cX9_findBest 139 = .ok (.iload_n 2, 1) := by decide +kernel
theorem dX9_findBest_140 : decode cX9_findBest 140 = .ok (.imul, 1) := by decide +kernel
theorem dX9_findBest_141 : decode cX9_findBest 141 = .ok (.aload_n 0, 1) := by decide +kernel
theorem dX9_findBest_142 : decode cX9_findBest 142 = .ok (.getfield 45, 3) := by decide +kernel
theorem dX9_findBest_145 : decode cX9_findBest 145 = .ok (.iload_n 2, 1) := by decide +kernel
theorem dX9_findBest_146 : decode cX9_findBest 146 = .ok (.iconst 1, 1) := by decide +kernel
theorem dX9_findBest_147 : decode cX9_findBest 147 = .ok (.isub, 1) := by decide +kernel
theorem dX9_findBest_148 : decode cX9_findBest 148 = .ok (.iaload, 1) := by decide +kernel
theorem dX9_findBest_149 : decode cX9_findBest 149 = .ok (.invokestatic 137, 3) := by decide +kernel
theorem dX9_findBest_152 : decode cX9_findBest 152 = .ok (.pop, 1) := by decide +kernel
theorem dX9_findBest_153 : decode cX9_findBest 153 = .ok (.aload_n 0, 1) := by decide +kernel
theorem dX9_findBest_154 : decode cX9_findBest 154 = .ok (.getfield 45, 3) := by decide +kernel
theorem dX9_findBest_157 : decode cX9_findBest 157 = .ok (.iload_n 2, 1) := by decide +kernel
theorem dX9_findBest_158 : decode cX9_findBest 158 = .ok (.iconst (-1), 1) := by decide +kernel
theorem dX9_findBest_159 : decode cX9_findBest 159 = .ok (.iastore, 1) := by decide +kernel
theorem dX9_findBest_160 : decode cX9_findBest 160 = .ok (.goto (-130), 3) := by decide +kernel
theorem dX9_findBest_163 : decode cX9_findBest 163 = .ok (.return_, 1) := by decide +kernel
set_option maxRecDepth 20000 in
theorem ggX9_bestSequence_X9_in : GoodIn wsX9_bestSequence wsX9_in := goodIn_r _ [6] (by decide +kernel) (by decide +kernel)
set_option maxRecDepth 20000 in
theorem gX9_bestSequence_X9_in : GoodIn wsX9_bestSequence (va_wsS RX9 58 yX9_in wsX9_in) := goodIn_app (goodIn_of _ (by decide +kernel)) ggX9_bestSequence_X9_in
set_option maxRecDepth 20000 in
theorem ggX9_bestSequence_X9_refused : GoodIn wsX9_bestSequence wsX9_refused := goodIn_r _ [10, 11, 58, 59, 60, 61, 62, 63, 64, 65, 66, 67, 68, 69, 70, 71, 72, 73, 74, 75, 76, 77] (by decide +kernel) (by decide +kernel)
set_option maxRecDepth 20000 in
theorem gX9_bestSequence_X9_refused : GoodIn wsX9_bestSequence (wsV RX9 77 RX9 yX9_refused wsX9_refused) := goodIn_app (goodIn_of _ (by decide +kernel)) ggX9_bestSequence_X9_refused
set_option maxRecDepth 20000 in
theorem ggX9_bestSequence_X9_findBest : GoodIn wsX9_bestSequence wsX9_findBest := goodIn_r _ [15, 2, 16, 17, 18, 19, 20, 5, 21, 22, 23, 24, 25, 26, 27, 28, 29, 30, 31, 32, 33, 34, 35, 36, 37, 38, 39, 40, 41, 42, 43, 44, 45, 46, 47, 48, 49, 50, 51, 52, 53, 54, 55, 56, 57, 58, 59, 60, 61, 62, 63, 64, 65, 66, 67, 68, 69, 70, 71, 72, 73, 74, 75, 76, 77] (by decide +kernel) (by decide +kernel)
set_option maxRecDepth 20000 in
theorem gX9_bestSequence_X9_findBest : GoodIn wsX9_bestSequence (wsV RX9 167 RX9 yX9_findBest wsX9_findBest) := goodIn_app (goodIn_of _ (by decide +kernel)) ggX9_bestSequence_X9_findBest
theorem dX9_bestSequence_0 : decode cX9_bestSequence 0 = .ok (.aload_n 0, 1) := by decide +kernel
theorem dX9_bestSequence_1 : decode cX9_bestSequence 1 = .ok (.iload_n 1, 1) := by decide +kernel
theorem dX9_bestSequence_2 : decode cX9_bestSequence 2 = .ok (.i2l, 1) := by decide +kernel
theorem dX9_bestSequence_3 : decode cX9_bestSequence 3 = .ok (.lconst 1, 1) := by decide +kernel
theorem dX9_bestSequence_4 : decode cX9_bestSequence 4 = .ok (.ldc2_w 165, 3) := by decide +kernel
theorem dX9_bestSequence_7 : decode cX9_bestSequence 7 = .ok (.invokestatic 58, 3) := by decide +kernel
theorem dX9_bestSequence_10 : decode cX9_bestSequence 10 = .ok (.ifCond .eq 18, 3) := by decide +kernel
theorem dX9_bestSequence_13 : decode cX9_bestSequence 13 = .ok (.iload_n 2, 1) := by decide +kernel
theorem dX9_bestSequence_14 : decode cX9_bestSequence 14 = .ok (.i2l, 1) := by decide +kernel
theorem dX9_bestSequence_15 : decode cX9_bestSequence 15 = .ok (.lconst 0, 1) := by decide +kernel
theorem dX9_bestSequence_16 : decode cX9_bestSequence 16 = .ok (.iload_n 1, 1) := by decide +kernel
theorem dX9_bestSequence_17 : decode cX9_bestSequence 17 = .ok (.i2l, 1) := by decide +kernel
theorem dX9_bestSequence_18 : decode cX9_bestSequence 18 = .ok (.invokestatic 58, 3) := by decide +kernel
theorem dX9_bestSequence_21 : decode cX9_bestSequence 21 = .ok (.ifCond .eq 7, 3) := by decide +kernel
theorem dX9_bestSequence_24 : decode cX9_bestSequence 24 = .ok (.iconst 0, 1) := by decide +kernel
theorem dX9_bestSequence_25 : decode cX9_bestSequence 25 = .ok (.goto 4, 3) := by decide +kernel
theorem dX9_bestSequence_28 : decode cX9_bestSequence 28 = .ok (.iconst 1, 1) := by decide +kernel
theorem dX9_bestSequence_29 : decode cX9_bestSequence 29 = .ok (.invokevirtual 77, 3) := by decide +kernel
theorem dX9_bestSequence_32 : decode cX9_bestSequence 32 = .ok (.ifCond .eq 5, 3) := by decide +kernel
theorem dX9_bestSequence_35 : decode cX9_bestSequence 35 = .ok (.iconst 0, 1) := by decide +kernel
theorem dX9_bestSequence_36 : decode cX9_bestSequence 36 = .ok (.ireturn, 1) := by decide +kernel
theorem dX9_bestSequence_37 : decode cX9_bestSequence 37 = .ok (.aload_n 0, 1) := by decide +kernel
theorem dX9_bestSequence_38 : decode cX9_bestSequence 38 = .ok (.iload_n 1, 1) := by decide +kernel
theorem dX9_bestSequence_39 : decode cX9_bestSequence 39 = .ok (.invokevirtual 167, 3) := by decide +kernel
theorem dX9_bestSequence_42 : decode cX9_bestSequence 42 = .ok (.aload_n 0, 1) := by decide +kernel
theorem dX9_bestSequence_43 : decode cX9_bestSequence 43 = .ok (.getfield 48, 3) := by decide +kernel
theorem dX9_bestSequence_46 : decode cX9_bestSequence 46 = .ok (.iconst 4, 1) := by decide +kernel
theorem dX9_bestSequence_47 : decode cX9_bestSequence 47 = .ok (.iaload, 1) := by decide +kernel
theorem dX9_bestSequence_48 : decode cX9_bestSequence 48 = .ok (.bipush (-9), 2) := by decide +kernel
theorem dX9_bestSequence_50 : decode cX9_bestSequence 50 = .ok (.if_icmp .ne 8, 3) := by decide +kernel
theorem dX9_bestSequence_53 : decode cX9_bestSequence 53 = .ok (.bipush (-9), 2) := by decide +kernel
theorem dX9_bestSequence_55 : decode cX9_bestSequence 55 = .ok (.goto 23, 3) := by decide +kernel
theorem dX9_bestSequence_58 : decode cX9_bestSequence 58 = .ok (.iload_n 2, 1) := by decide +kernel
theorem dX9_bestSequence_59 : decode cX9_bestSequence 59 = .ok (.iload_n 1, 1) := by decide +kernel
theorem dX9_bestSequence_60 : decode cX9_bestSequence 60 = .ok (.if_icmp .ne 12, 3) := by decide +kernel
theorem dX9_bestSequence_63 : decode cX9_bestSequence 63 = .ok (.aload_n 0, 1) := by decide +kernel
theorem dX9_bestSequence_64 : decode cX9_bestSequence 64 = .ok (.getfield 48, 3) := by decide +kernel
theorem dX9_bestSequence_67 : decode cX9_bestSequence 67 = .ok (.iconst 4, 1) := by decide +kernel
theorem dX9_bestSequence_68 : decode cX9_bestSequence 68 = .ok (.iaload, 1) := by decide +kernel
theorem dX9_bestSequence_69 : decode cX9_bestSequence 69 = .ok (.goto 9, 3) := by decide +kernel
theorem dX9_bestSequence_72 : decode cX9_bestSequence 72 = .ok (.aload_n 0, 1) := by decide +kernel
theorem dX9_bestSequence_73 : decode cX9_bestSequence 73 = .ok (.getfield 48, 3) := by decide +kernel
theorem dX9_bestSequence_76 : decode cX9_bestSequence 76 = .ok (.iload_n 2, 1) := by decide +kernel
theorem dX9_bestSequence_77 : decode cX9_bestSequence 77 = .ok (.iaload, 1) := by decide +kernel
theorem dX9_bestSequence_78 : decode cX9_bestSequence 78 = .ok (.ireturn, 1) := by decide +kernel
theorem dX9_tens_0 : decode cX9_tens 0 = .ok (.lconst 1, 1) := by decide +kernel
theorem dX9_tens_1 : decode cX9_tens 1 = .ok (.lstore_n 1, 1) := by decide +kernel
theorem dX9_tens_2 : decode cX9_tens 2 = .ok (.iconst 0, 1) := by decide +kernel
theorem dX9_tens_3 : decode cX9_tens 3 = .ok (.istore_n 3, 1) := by decide +kernel
theorem dX9_tens_4 : decode cX9_tens 4 = .ok (.iload_n 3, 1) := by decide +kernel
theorem dX9_tens_5 : decode cX9_tens 5 = .ok (.iload_n 0, 1) := by decide +kernel
theorem dX9_tens_6 : decode cX9_tens 6 = .ok (.if_icmp .ge 15, 3) := by decide +kernel
theorem dX9_tens_9 : decode cX9_tens 9 = .ok (.lload_n 1, 1) := by decide +kernel
theorem dX9_tens_10 : decode cX9_tens 10 = .ok (.ldc2_w 171, 3) := by decide +kernel
theorem dX9_tens_13 : decode cX9_tens 13 = .ok (.lmul, 1) := by decide +kernel
theorem dX9_tens_14 : decode cX9_tens 14 = .ok (.lstore_n 1, 1) := by decide +kernel
theorem dX9_tens_15 : decode cX9_tens 15 = .ok (.iinc 3 1, 3) := by decide +kernel
theorem dX9_tens_18 : decode cX9_tens 18 = .ok (.goto (-14), 3) := by decide +kernel
theorem dX9_tens_21 : decode cX9_tens 21 = .ok (.lload_n 1, 1) := by decide +kernel
theorem dX9_tens_22 : decode cX9_tens 22 = .ok (.lreturn, 1) := by decide +kernel
set_option maxRecDepth 20000 in
theorem ggX9_origins_X9_in : GoodIn wsX9_origins wsX9_in := goodIn_r _ [7] (by decide +kernel) (by decide +kernel)
set_option maxRecDepth 20000 in
theorem gX9_origins_X9_in : GoodIn wsX9_origins (va_wsS RX9 58 yX9_in wsX9_in) := goodIn_app (goodIn_of _ (by decide +kernel)) ggX9_origins_X9_in
set_option maxRecDepth 20000 in
theorem ggX9_origins_X9_tens : GoodIn wsX9_origins wsX9_tens := goodIn_r _ [10, 3] (by decide +kernel) (by decide +kernel)
set_option maxRecDepth 20000 in
theorem gX9_origins_X9_tens : GoodIn wsX9_origins (va_wsS RX9 173 yX9_tens wsX9_tens) := goodIn_app (goodIn_of _ (by decide +kernel)) ggX9_origins_X9_tens
set_option maxRecDepth 20000 in
theorem ggX9_origins_X9_refused : GoodIn wsX9_origins wsX9_refused := goodIn_r _ [14, 15, 25, 26, 27, 28, 29, 30, 31, 32, 33, 34, 35, 36, 37, 38, 39, 40, 41, 42, 43, 44] (by decide +kernel) (by decide +kernel)
set_option maxRecDepth 20000 in
theorem gX9_origins_X9_refused : GoodIn wsX9_origins (wsV RX9 77 RX9 yX9_refused wsX9_refused) := goodIn_app (goodIn_of _ (by decide +kernel)) ggX9_origins_X9_refused
set_option maxRecDepth 20000 in
theorem ggX9_origins_X9_points : GoodIn wsX9_origins wsX9_points := goodIn_r _ [19, 20, 21, 25, 26, 27, 28, 29, 30, 31, 32, 33, 34, 35, 36, 37, 38, 39, 40, 41, 42, 43, 44] (by decide +kernel) (by decide +kernel)
set_option maxRecDepth 20000 in
theorem gX9_origins_X9_points : GoodIn wsX9_origins (wsV RX9 54 RX9 yX9_points wsX9_points) := goodIn_app (goodIn_of _ (by decide +kernel)) ggX9_origins_X9_points
set_option maxRecDepth 20000 in
theorem ggX9_origins_X9_gradeOf : GoodIn wsX9_origins wsX9_gradeOf := goodIn_r _ [24] (by decide +kernel) (by decide +kernel)
set_option maxRecDepth 20000 in
theorem gX9_origins_X9_gradeOf : GoodIn wsX9_origins (va_wsS RX9 121 yX9_gradeOf wsX9_gradeOf) := goodIn_app (goodIn_of _ (by decide +kernel)) ggX9_origins_X9_gradeOf
theorem dX9_origins_0 : decode cX9_origins 0 = .ok (.aload_n 0, 1) := by decide +kernel
theorem dX9_origins_1 : decode cX9_origins 1 = .ok (.iload_n 1, 1) := by decide +kernel
theorem dX9_origins_2 : decode cX9_origins 2 = .ok (.i2l, 1) := by decide +kernel
theorem dX9_origins_3 : decode cX9_origins 3 = .ok (.lconst 1, 1) := by decide +kernel
theorem dX9_origins_4 : decode cX9_origins 4 = .ok (.ldc2_w 151, 3) := by decide +kernel
theorem dX9_origins_7 : decode cX9_origins 7 = .ok (.invokestatic 58, 3) := by decide +kernel
theorem dX9_origins_10 : decode cX9_origins 10 = .ok (.ifCond .eq 22, 3) := by decide +kernel
theorem dX9_origins_13 : decode cX9_origins 13 = .ok (.iload_n 2, 1) := by decide +kernel
theorem dX9_origins_14 : decode cX9_origins 14 = .ok (.i2l, 1) := by decide +kernel
theorem dX9_origins_15 : decode cX9_origins 15 = .ok (.lconst 0, 1) := by decide +kernel
theorem dX9_origins_16 : decode cX9_origins 16 = .ok (.iload_n 1, 1) := by decide +kernel
theorem dX9_origins_17 : decode cX9_origins 17 = .ok (.invokestatic 173, 3) := by decide +kernel
theorem dX9_origins_20 : decode cX9_origins 20 = .ok (.lconst 1, 1) := by decide +kernel
theorem dX9_origins_21 : decode cX9_origins 21 = .ok (.lsub, 1) := by decide +kernel
theorem dX9_origins_22 : decode cX9_origins 22 = .ok (.invokestatic 58, 3) := by decide +kernel
theorem dX9_origins_25 : decode cX9_origins 25 = .ok (.ifCond .eq 7, 3) := by decide +kernel
theorem dX9_origins_28 : decode cX9_origins 28 = .ok (.iconst 0, 1) := by decide +kernel
theorem dX9_origins_29 : decode cX9_origins 29 = .ok (.goto 4, 3) := by decide +kernel
theorem dX9_origins_32 : decode cX9_origins 32 = .ok (.iconst 1, 1) := by decide +kernel
theorem dX9_origins_33 : decode cX9_origins 33 = .ok (.invokevirtual 77, 3) := by decide +kernel
theorem dX9_origins_36 : decode cX9_origins 36 = .ok (.ifCond .eq 5, 3) := by decide +kernel
theorem dX9_origins_39 : decode cX9_origins 39 = .ok (.iconst 0, 1) := by decide +kernel
theorem dX9_origins_40 : decode cX9_origins 40 = .ok (.ireturn, 1) := by decide +kernel
theorem dX9_origins_41 : decode cX9_origins 41 = .ok (.iconst 0, 1) := by decide +kernel
theorem dX9_origins_42 : decode cX9_origins 42 = .ok (.istore_n 3, 1) := by decide +kernel
theorem dX9_origins_43 : decode cX9_origins 43 = .ok (.iconst 0, 1) := by decide +kernel
theorem dX9_origins_44 : decode cX9_origins 44 = .ok (.istore 4, 2) := by decide +kernel
theorem dX9_origins_46 : decode cX9_origins 46 = .ok (.iload 4, 2) := by decide +kernel
theorem dX9_origins_48 : decode cX9_origins 48 = .ok (.aload_n 0, 1) := by decide +kernel
theorem dX9_origins_49 : decode cX9_origins 49 = .ok (.invokevirtual 54, 3) := by decide +kernel
theorem dX9_origins_52 : decode cX9_origins 52 = .ok (.if_icmp .ge 88, 3) := by decide +kernel
theorem dX9_origins_55 : decode cX9_origins 55 = .ok (.iconst 1, 1) := by decide +kernel
theorem dX9_origins_56 : decode cX9_origins 56 = .ok (.istore 5, 2) := by decide +kernel
theorem dX9_origins_58 : decode cX9_origins 58 = .ok (.iconst 0, 1) := by decide +kernel
theorem dX9_origins_59 : decode cX9_origins 59 = .ok (.istore 6, 2) := by decide +kernel
theorem dX9_origins_61 : decode cX9_origins 61 = .ok (.iload 6, 2) := by decide +kernel
theorem dX9_origins_63 : decode cX9_origins 63 = .ok (.iload_n 1, 1) := by decide +kernel
theorem dX9_origins_64 : decode cX9_origins 64 = .ok (.if_icmp .ge 54, 3) := by decide +kernel
theorem dX9_origins_67 : decode cX9_origins 67 = .ok (.iload 5, 2) := by decide +kernel
theorem dX9_origins_69 : decode cX9_origins 69 = .ok (.ifCond .eq 40, 3) := by decide +kernel
theorem dX9_origins_72 : decode cX9_origins 72 = .ok (.aload_n 0, 1) := by decide +kernel
theorem dX9_origins_73 : decode cX9_origins 73 = .ok (.getfield 16, 3) := by decide +kernel
theorem dX9_origins_76 : decode cX9_origins 76 = .ok (.iconst 0, 1) := by decide +kernel
theorem dX9_origins_77 : decode cX9_origins 77 = .ok (.iload 4, 2) := by decide +kernel
theorem dX9_origins_79 : decode cX9_origins 79 = .ok (.iload 6, 2) := by decide +kernel
theorem dX9_origins_81 : decode cX9_origins 81 = .ok (.invokestatic 121, 3) := by decide +kernel
theorem dX9_origins_84 : decode cX9_origins 84 = .ok (.i2l, 1) := by decide +kernel
theorem dX9_origins_85 : decode cX9_origins 85 = .ok (.iload_n 2, 1) := by decide +kernel
theorem dX9_origins_86 : decode cX9_origins 86 = .ok (.i2l, 1) := by decide +kernel
theorem dX9_origins_87 : decode cX9_origins 87 = .ok (.iload_n 1, 1) := by decide +kernel
theorem dX9_origins_88 : decode cX9_origins 88 = .ok (.iconst 1, 1) := by decide +kernel
theorem dX9_origins_89 : decode cX9_origins 89 = .ok (.isub, 1) := by decide +kernel
theorem dX9_origins_90 : decode cX9_origins 90 = .ok (.iload 6, 2) := by decide +kernel
theorem dX9_origins_92 : decode cX9_origins 92 = .ok (.isub, 1) := by decide +kernel
theorem dX9_origins_93 : decode cX9_origins 93 = .ok (.invokestatic 173, 3) := by decide +kernel
theorem dX9_origins_96 : decode cX9_origins 96 = .ok (.ldiv, 1) := by decide +kernel
theorem dX9_origins_97 : decode cX9_origins 97 = .ok (.ldc2_w 171, 3) := by decide +kernel
theorem dX9_origins_100 : decode cX9_origins 100 = .ok (.lrem, 1) := by decide +kernel
theorem dX9_origins_101 : decode cX9_origins 101 = .ok (.lcmp, 1) := by decide +kernel
theorem dX9_origins_102 : decode cX9_origins 102 = .ok (.ifCond .ne 7, 3) := by decide +kernel
theorem dX9_origins_105 : decode cX9_origins 105 = .ok (.iconst 1, 1) := by decide +kernel
theorem dX9_origins_106 : decode cX9_origins 106 = .ok (.goto 4, 3) := by decide +kernel
theorem dX9_origins_109 : decode cX9_origins 109 = .ok (.iconst 0, 1) := by decide +kernel
theorem dX9_origins_110 : decode cX9_origins 110 = .ok (.istore 5, 2) := by decide +kernel
theorem dX9_origins_112 : decode cX9_origins 112 = .ok (.iinc 6 1, 3) := by decide +kernel
theorem dX9_origins_115 : decode cX9_origins 115 = .ok (.goto (-54), 3) := by decide +kernel
theorem dX9_origins_118 : decode cX9_origins 118 = .ok (.iload_n 3, 1) := by decide +kernel
theorem dX9_origins_119 : decode cX9_origins 119 = .ok (.iload 5, 2) := by decide +kernel
theorem dX9_origins_121 : decode cX9_origins 121 = .ok (.ifCond .eq 10, 3) := by decide +kernel
theorem dX9_origins_124 : decode cX9_origins 124 = .ok (.iconst 1, 1) := by decide +kernel
theorem dX9_origins_125 : decode cX9_origins 125 = .ok (.iload 4, 2) := by decide +kernel
theorem dX9_origins_127 : decode cX9_origins 127 = .ok (.ishl, 1) := by decide +kernel
theorem dX9_origins_128 : decode cX9_origins 128 = .ok (.goto 4, 3) := by decide +kernel
theorem dX9_origins_131 : decode cX9_origins 131 = .ok (.iconst 0, 1) := by decide +kernel
theorem dX9_origins_132 : decode cX9_origins 132 = .ok (.ior, 1) := by decide +kernel
theorem dX9_origins_133 : decode cX9_origins 133 = .ok (.istore_n 3, 1) := by decide +kernel
theorem dX9_origins_134 : decode cX9_origins 134 = .ok (.iinc 4 1, 3) := by decide +kernel
theorem dX9_origins_137 : decode cX9_origins 137 = .ok (.goto (-91), 3) := by decide +kernel
theorem dX9_origins_140 : decode cX9_origins 140 = .ok (.iload_n 3, 1) := by decide +kernel
theorem dX9_origins_141 : decode cX9_origins 141 = .ok (.ireturn, 1) := by decide +kernel
set_option maxRecDepth 20000 in
theorem ggX9_drawMany_X9_isReadyIn : GoodIn wsX9_drawMany wsX9_isReadyIn := goodIn_r _ [6, 7, 8, 9, 5, 10, 11, 12, 13, 14, 15, 16, 17, 18, 19, 20, 21, 22, 23, 24, 25, 26, 27, 28, 32, 33, 34, 35, 36, 37, 38, 39, 40, 41, 42, 43, 44, 45, 46, 47, 48, 49, 50, 51] (by decide +kernel) (by decide +kernel)
set_option maxRecDepth 20000 in
theorem gX9_drawMany_X9_isReadyIn : GoodIn wsX9_drawMany (wsV RX9 130 RX9 yX9_isReadyIn wsX9_isReadyIn) := goodIn_app (goodIn_of _ (by decide +kernel)) ggX9_drawMany_X9_isReadyIn
set_option maxRecDepth 20000 in
theorem ggX9_drawMany_X9_take : GoodIn wsX9_drawMany wsX9_take := goodIn_r _ [31] (by decide +kernel) (by decide +kernel)
set_option maxRecDepth 20000 in
theorem gX9_drawMany_X9_take : GoodIn wsX9_drawMany (va_wsS RX9 137 yX9_take wsX9_take) := goodIn_app (goodIn_of _ (by decide +kernel)) ggX9_drawMany_X9_take
theorem dX9_drawMany_0 : decode cX9_drawMany 0 = .ok (.iconst 0, 1) := by decide +kernel
theorem dX9_drawMany_1 : decode cX9_drawMany 1 = .ok (.istore_n 3, 1) := by decide +kernel
theorem dX9_drawMany_2 : decode cX9_drawMany 2 = .ok (.iload_n 3, 1) := by decide +kernel
theorem dX9_drawMany_3 : decode cX9_drawMany 3 = .ok (.iload_n 2, 1) := by decide +kernel
theorem dX9_drawMany_4 : decode cX9_drawMany 4 = .ok (.if_icmp .ge 34, 3) := by decide +kernel
theorem dX9_drawMany_7 : decode cX9_drawMany 7 = .ok (.aload_n 0, 1) := by decide +kernel
theorem dX9_drawMany_8 : decode cX9_drawMany 8 = .ok (.aload_n 0, 1) := by decide +kernel
theorem dX9_drawMany_9 : decode cX9_drawMany 9 = .ok (.getfield 20, 3) := by decide +kernel
theorem dX9_drawMany_12 : decode cX9_drawMany 12 = .ok (.iconst 0, 1) := by decide +kernel
theorem dX9_drawMany_13 : decode cX9_drawMany 13 = .ok (.iload_n 1, 1) := by decide +kernel
theorem dX9_drawMany_14 : decode cX9_drawMany 14 = .ok (.invokevirtual 130, 3) := by decide +kernel
theorem dX9_drawMany_17 : decode cX9_drawMany 17 = .ok (.ifCond .ne 5, 3) := by decide +kernel
theorem dX9_drawMany_20 : decode cX9_drawMany 20 = .ok (.iconst 0, 1) := by decide +kernel
theorem dX9_drawMany_21 : decode cX9_drawMany 21 = .ok (.ireturn, 1) := by decide +kernel
theorem dX9_drawMany_22 : decode cX9_drawMany 22 = .ok (.aload_n 0, 1) := by decide +kernel
theorem dX9_drawMany_23 : decode cX9_drawMany 23 = .ok (.getfield 20, 3) := by decide +kernel
theorem dX9_drawMany_26 : decode cX9_drawMany 26 = .ok (.iconst 0, 1) := by decide +kernel
theorem dX9_drawMany_27 : decode cX9_drawMany 27 = .ok (.iload_n 1, 1) := by decide +kernel
theorem dX9_drawMany_28 : decode cX9_drawMany 28 = .ok (.invokestatic 137, 3) := by decide +kernel
theorem dX9_drawMany_31 : decode cX9_drawMany 31 = .ok (.pop, 1) := by decide +kernel
theorem dX9_drawMany_32 : decode cX9_drawMany 32 = .ok (.iinc 3 1, 3) := by decide +kernel
theorem dX9_drawMany_35 : decode cX9_drawMany 35 = .ok (.goto (-33), 3) := by decide +kernel
theorem dX9_drawMany_38 : decode cX9_drawMany 38 = .ok (.iload_n 2, 1) := by decide +kernel
theorem dX9_drawMany_39 : decode cX9_drawMany 39 = .ok (.ifCond .le 7, 3) := by decide +kernel
theorem dX9_drawMany_42 : decode cX9_drawMany 42 = .ok (.iconst 1, 1) := by decide +kernel
theorem dX9_drawMany_43 : decode cX9_drawMany 43 = .ok (.goto 4, 3) := by decide +kernel
theorem dX9_drawMany_46 : decode cX9_drawMany 46 = .ok (.iconst 0, 1) := by decide +kernel
theorem dX9_drawMany_47 : decode cX9_drawMany 47 = .ok (.ireturn, 1) := by decide +kernel
theorem dX9_turn_0 : decode cX9_turn 0 = .ok (.aload_n 0, 1) := by decide +kernel
theorem dX9_turn_1 : decode cX9_turn 1 = .ok (.getfield 20, 3) := by decide +kernel
theorem dX9_turn_4 : decode cX9_turn 4 = .ok (.bipush 15, 2) := by decide +kernel
theorem dX9_turn_6 : decode cX9_turn 6 = .ok (.iload_n 1, 1) := by decide +kernel
theorem dX9_turn_7 : decode cX9_turn 7 = .ok (.imul, 1) := by decide +kernel
theorem dX9_turn_8 : decode cX9_turn 8 = .ok (.iconst 1, 1) := by decide +kernel
theorem dX9_turn_9 : decode cX9_turn 9 = .ok (.iadd, 1) := by decide +kernel
theorem dX9_turn_10 : decode cX9_turn 10 = .ok (.iaload, 1) := by decide +kernel
theorem dX9_turn_11 : decode cX9_turn 11 = .ok (.iload_n 2, 1) := by decide +kernel
theorem dX9_turn_12 : decode cX9_turn 12 = .ok (.if_icmp .eq 7, 3) := by decide +kernel
theorem dX9_turn_15 : decode cX9_turn 15 = .ok (.iconst 1, 1) := by decide +kernel
theorem dX9_turn_16 : decode cX9_turn 16 = .ok (.goto 4, 3) := by decide +kernel
theorem dX9_turn_19 : decode cX9_turn 19 = .ok (.iconst 0, 1) := by decide +kernel
theorem dX9_turn_20 : decode cX9_turn 20 = .ok (.istore_n 3, 1) := by decide +kernel
theorem dX9_turn_21 : decode cX9_turn 21 = .ok (.aload_n 0, 1) := by decide +kernel
theorem dX9_turn_22 : decode cX9_turn 22 = .ok (.getfield 20, 3) := by decide +kernel
theorem dX9_turn_25 : decode cX9_turn 25 = .ok (.bipush 15, 2) := by decide +kernel
theorem dX9_turn_27 : decode cX9_turn 27 = .ok (.iload_n 1, 1) := by decide +kernel
theorem dX9_turn_28 : decode cX9_turn 28 = .ok (.imul, 1) := by decide +kernel
theorem dX9_turn_29 : decode cX9_turn 29 = .ok (.iconst 1, 1) := by decide +kernel
theorem dX9_turn_30 : decode cX9_turn 30 = .ok (.iadd, 1) := by decide +kernel
theorem dX9_turn_31 : decode cX9_turn 31 = .ok (.iload_n 2, 1) := by decide +kernel
theorem dX9_turn_32 : decode cX9_turn 32 = .ok (.iastore, 1) := by decide +kernel
theorem dX9_turn_33 : decode cX9_turn 33 = .ok (.iload_n 3, 1) := by decide +kernel
theorem dX9_turn_34 : decode cX9_turn 34 = .ok (.ireturn, 1) := by decide +kernel
set_option maxRecDepth 20000 in
theorem ggX9_command_X9_goByOrder : GoodIn wsX9_command wsX9_goByOrder := goodIn_r _ [6, 7, 8, 9, 5, 10, 11, 12, 13, 14, 15, 16, 17, 18, 19, 20, 21, 22, 23, 24, 25, 26, 27, 28, 29, 30, 31, 32, 33, 34, 35, 36, 37, 38, 58, 59, 60, 61, 62, 63, 64, 65, 66, 67, 68, 69, 70, 71, 72, 73, 74, 75, 76, 77] (by decide +kernel) (by decide +kernel)
set_option maxRecDepth 20000 in
theorem gX9_command_X9_goByOrder : GoodIn wsX9_command (wsV RX9 140 RX9 yX9_goByOrder wsX9_goByOrder) := goodIn_app (goodIn_of _ (by decide +kernel)) ggX9_command_X9_goByOrder
set_option maxRecDepth 20000 in
theorem ggX9_command_X9_isPoint : GoodIn wsX9_command wsX9_isPoint := goodIn_r _ [42, 11, 12, 13, 5, 14, 15, 16, 43, 44, 45, 58, 59, 60, 61, 62, 63, 64, 65, 66, 67, 68, 69, 70, 71, 72, 73, 74, 75, 76, 77] (by decide +kernel) (by decide +kernel)
set_option maxRecDepth 20000 in
theorem gX9_command_X9_isPoint : GoodIn wsX9_command (wsV RX9 125 RX9 yX9_isPoint wsX9_isPoint) := goodIn_app (goodIn_of _ (by decide +kernel)) ggX9_command_X9_isPoint
set_option maxRecDepth 20000 in
theorem ggX9_command_X9_drawMany : GoodIn wsX9_command wsX9_drawMany := goodIn_r _ [49, 1, 50, 51, 52, 5, 53, 17, 18, 19, 20, 21, 22, 23, 24, 25, 26, 27, 28, 11, 12, 13, 14, 15, 16, 29, 30, 31, 32, 36, 37, 38, 58, 59, 60, 61, 62, 63, 64, 65, 66, 67, 68, 69, 70, 71, 72, 73, 74, 75, 76, 77] (by decide +kernel) (by decide +kernel)
set_option maxRecDepth 20000 in
theorem gX9_command_X9_drawMany : GoodIn wsX9_command (wsV RX9 177 RX9 yX9_drawMany wsX9_drawMany) := goodIn_app (goodIn_of _ (by decide +kernel)) ggX9_command_X9_drawMany
set_option maxRecDepth 20000 in
theorem ggX9_command_X9_turn : GoodIn wsX9_command wsX9_turn := goodIn_r _ [57, 1, 58, 59, 60, 61, 62, 63, 64, 65, 66, 67, 68, 69, 70, 71, 72, 73, 74, 75, 76, 77] (by decide +kernel) (by decide +kernel)
set_option maxRecDepth 20000 in
theorem gX9_command_X9_turn : GoodIn wsX9_command (wsV RX9 180 RX9 yX9_turn wsX9_turn) := goodIn_app (goodIn_of _ (by decide +kernel)) ggX9_command_X9_turn
set_option maxRecDepth 20000 in
theorem ggX9_command_X9_slackOf : GoodIn wsX9_command wsX9_slackOf := goodIn_r _ [20, 21, 22, 5, 23, 24, 25, 26, 27, 28, 11, 12, 13, 14, 15, 16, 29, 30, 31, 32, 58, 59, 60, 61, 62, 63, 64, 65, 66, 67, 68, 69, 70, 71, 72, 73, 74, 75, 76, 77] (by decide +kernel) (by decide +kernel)
set_option maxRecDepth 20000 in
theorem gX9_command_X9_slackOf : GoodIn wsX9_command (wsV RX9 118 RX9 yX9_slackOf wsX9_slackOf) := goodIn_app (goodIn_of _ (by decide +kernel)) ggX9_command_X9_slackOf
set_option maxRecDepth 20000 in
theorem ggX9_command_X9_gradeOf : GoodIn wsX9_command wsX9_gradeOf := goodIn_r _ [35] (by decide +kernel) (by decide +kernel)
set_option maxRecDepth 20000 in
theorem gX9_command_X9_gradeOf : GoodIn wsX9_command (va_wsS RX9 121 yX9_gradeOf wsX9_gradeOf) := goodIn_app (goodIn_of _ (by decide +kernel)) ggX9_command_X9_gradeOf
theorem dX9_command_0 : decode cX9_command 0 = .ok (.iload_n 1, 1) := by decide +kernel
theorem dX9_command_1 : decode cX9_command 1 = .ok (.sipush 1000, 3) := by decide +kernel
theorem dX9_command_4 : decode cX9_command 4 = .ok (.idiv, 1) := by decide +kernel
theorem dX9_command_5 : decode cX9_command 5 = .ok (.istore_n 2, 1) := by decide +kernel
theorem dX9_command_6 : decode cX9_command 6 = .ok (.iload_n 1, 1) := by decide +kernel
theorem dX9_command_7 : decode cX9_command 7 = .ok (.bipush 10, 2) := by decide +kernel
theorem dX9_command_9 : decode cX9_command 9 = .ok (.idiv, 1) := by decide +kernel
theorem dX9_command_10 : decode cX9_command 10 = .ok (.bipush 100, 2) := by decide +kernel
theorem dX9_command_12 : decode cX9_command 12 = .ok (.irem, 1) := by decide +kernel
theorem dX9_command_13 : decode cX9_command 13 = .ok (.istore_n 3, 1) := by decide +kernel
theorem dX9_command_14 : decode cX9_command 14 = .ok (.iload_n 1, 1) := by decide +kernel
theorem dX9_command_15 : decode cX9_command 15 = .ok (.bipush 10, 2) := by decide +kernel
theorem dX9_command_17 : decode cX9_command 17 = .ok (.irem, 1) := by decide +kernel
theorem dX9_command_18 : decode cX9_command 18 = .ok (.istore 4, 2) := by decide +kernel
theorem dX9_command_20 : decode cX9_command 20 = .ok (.iload_n 2, 1) := by decide +kernel
theorem dX9_command_21 : decode cX9_command 21 = .ok (.bipush 6, 2) := by decide +kernel
theorem dX9_command_23 : decode cX9_command 23 = .ok (.if_icmp .ne 45, 3) := by decide +kernel
theorem dX9_command_26 : decode cX9_command 26 = .ok (.iload_n 1, 1) := by decide +kernel
theorem dX9_command_27 : decode cX9_command 27 = .ok (.bipush 100, 2) := by decide +kernel
theorem dX9_command_29 : decode cX9_command 29 = .ok (.irem, 1) := by decide +kernel
theorem dX9_command_30 : decode cX9_command 30 = .ok (.istore 5, 2) := by decide +kernel
theorem dX9_command_32 : decode cX9_command 32 = .ok (.iload_n 1, 1) := by decide +kernel
theorem dX9_command_33 : decode cX9_command 33 = .ok (.bipush 100, 2) := by decide +kernel
theorem dX9_command_35 : decode cX9_command 35 = .ok (.idiv, 1) := by decide +kernel
theorem dX9_command_36 : decode cX9_command 36 = .ok (.bipush 10, 2) := by decide +kernel
theorem dX9_command_38 : decode cX9_command 38 = .ok (.irem, 1) := by decide +kernel
theorem dX9_command_39 : decode cX9_command 39 = .ok (.ifCond .ne 27, 3) := by decide +kernel
theorem dX9_command_42 : decode cX9_command 42 = .ok (.iload 5, 2) := by decide +kernel
theorem dX9_command_44 : decode cX9_command 44 = .ok (.ifCond .le 22, 3) := by decide +kernel
theorem dX9_command_47 : decode cX9_command 47 = .ok (.aload_n 0, 1) := by decide +kernel
theorem dX9_command_48 : decode cX9_command 48 = .ok (.aload_n 0, 1) := by decide +kernel
theorem dX9_command_49 : decode cX9_command 49 = .ok (.getfield 20, 3) := by decide +kernel
theorem dX9_command_52 : decode cX9_command 52 = .ok (.iload 5, 2) := by decide +kernel
theorem dX9_command_54 : decode cX9_command 54 = .ok (.invokevirtual 140, 3) := by decide +kernel
theorem dX9_command_57 : decode cX9_command 57 = .ok (.iload 5, 2) := by decide +kernel
theorem dX9_command_59 : decode cX9_command 59 = .ok (.if_icmp .ne 7, 3) := by decide +kernel
theorem dX9_command_62 : decode cX9_command 62 = .ok (.iconst 1, 1) := by decide +kernel
theorem dX9_command_63 : decode cX9_command 63 = .ok (.goto 4, 3) := by decide +kernel
theorem dX9_command_66 : decode cX9_command 66 = .ok (.iconst 0, 1) := by decide +kernel
theorem dX9_command_67 : decode cX9_command 67 = .ok (.ireturn, 1) := by decide +kernel
theorem dX9_command_68 : decode cX9_command 68 = .ok (.aload_n 0, 1) := by decide +kernel
theorem dX9_command_69 : decode cX9_command 69 = .ok (.iload_n 3, 1) := by decide +kernel
theorem dX9_command_70 : decode cX9_command 70 = .ok (.invokevirtual 125, 3) := by decide +kernel
theorem dX9_command_73 : decode cX9_command 73 = .ok (.ifCond .ne 5, 3) := by decide +kernel
theorem dX9_command_76 : decode cX9_command 76 = .ok (.iconst 0, 1) := by decide +kernel
theorem dX9_command_77 : decode cX9_command 77 = .ok (.ireturn, 1) := by decide +kernel
theorem dX9_command_78 : decode cX9_command 78 = .ok (.iload_n 2, 1) := by decide +kernel
theorem dX9_command_79 : decode cX9_command 79 = .ok (.tableswitch 137 1 5 #[33, 41, 61, 81, 102], 33) := by decide +kernel
theorem dX9_command_112 : decode cX9_command 112 = .ok (.aload_n 0, 1) := by decide +kernel
theorem dX9_command_113 : decode cX9_command 113 = .ok (.iload_n 3, 1) := by decide +kernel
theorem dX9_command_114 : decode cX9_command 114 = .ok (.iload 4, 2) := by decide +kernel
theorem dX9_command_116 : decode cX9_command 116 = .ok (.invokevirtual 177, 3) := by decide +kernel
theorem dX9_command_119 : decode cX9_command 119 = .ok (.ireturn, 1) := by decide +kernel
theorem dX9_command_120 : decode cX9_command 120 = .ok (.iload 4, 2) := by decide +kernel
theorem dX9_command_122 : decode cX9_command 122 = .ok (.ifCond .ne 16, 3) := by decide +kernel
theorem dX9_command_125 : decode cX9_command 125 = .ok (.aload_n 0, 1) := by decide +kernel
theorem dX9_command_126 : decode cX9_command 126 = .ok (.iload_n 3, 1) := by decide +kernel
theorem dX9_command_127 : decode cX9_command 127 = .ok (.iconst 1, 1) := by decide +kernel
theorem dX9_command_128 : decode cX9_command 128 = .ok (.invokevirtual 180, 3) := by decide +kernel
theorem dX9_command_131 : decode cX9_command 131 = .ok (.ifCond .eq 7, 3) := by decide +kernel
theorem dX9_command_134 : decode cX9_command 134 = .ok (.iconst 1, 1) := by decide +kernel
theorem dX9_command_135 : decode cX9_command 135 = .ok (.goto 4, 3) := by decide +kernel
theorem dX9_command_138 : decode cX9_command 138 = .ok (.iconst 0, 1) := by decide +kernel
theorem dX9_command_139 : decode cX9_command 139 = .ok (.ireturn, 1) := by decide +kernel
theorem dX9_command_140 : decode cX9_command 140 = .ok (.iload 4, 2) := by decide +kernel
theorem dX9_command_142 : decode cX9_command 142 = .ok (.ifCond .ne 16, 3) := by decide +kernel
theorem dX9_command_145 : decode cX9_command 145 = .ok (.aload_n 0, 1) := by decide +kernel
theorem dX9_command_146 : decode cX9_command 146 = .ok (.iload_n 3, 1) := by decide +kernel
theorem dX9_command_147 : decode cX9_command 147 = .ok (.iconst 0, 1) := by decide +kernel
theorem dX9_command_148 : decode cX9_command 148 = .ok (.invokevirtual 180, 3) := by decide +kernel
theorem dX9_command_151 : decode cX9_command 151 = .ok (.ifCond .eq 7, 3) := by decide +kernel
theorem dX9_command_154 : decode cX9_command 154 = .ok (.iconst 1, 1) := by decide +kernel
theorem dX9_command_155 : decode cX9_command 155 = .ok (.goto 4, 3) := by decide +kernel
theorem dX9_command_158 : decode cX9_command 158 = .ok (.iconst 0, 1) := by decide +kernel
theorem dX9_command_159 : decode cX9_command 159 = .ok (.ireturn, 1) := by decide +kernel
theorem dX9_command_160 : decode cX9_command 160 = .ok (.aload_n 0, 1) := by decide +kernel
theorem dX9_command_161 : decode cX9_command 161 = .ok (.aload_n 0, 1) := by decide +kernel
theorem dX9_command_162 : decode cX9_command 162 = .ok (.getfield 20, 3) := by decide +kernel
theorem dX9_command_165 : decode cX9_command 165 = .ok (.iconst 0, 1) := by decide +kernel
theorem dX9_command_166 : decode cX9_command 166 = .ok (.iload_n 3, 1) := by decide +kernel
theorem dX9_command_167 : decode cX9_command 167 = .ok (.invokevirtual 118, 3) := by decide +kernel
theorem dX9_command_170 : decode cX9_command 170 = .ok (.iload 4, 2) := by decide +kernel
theorem dX9_command_172 : decode cX9_command 172 = .ok (.if_icmp .ne 7, 3) := by decide +kernel
theorem dX9_command_175 : decode cX9_command 175 = .ok (.iconst 1, 1) := by decide +kernel
theorem dX9_command_176 : decode cX9_command 176 = .ok (.goto 4, 3) := by decide +kernel
theorem dX9_command_179 : decode cX9_command 179 = .ok (.iconst 0, 1) := by decide +kernel
theorem dX9_command_180 : decode cX9_command 180 = .ok (.ireturn, 1) := by decide +kernel
theorem dX9_command_181 : decode cX9_command 181 = .ok (.aload_n 0, 1) := by decide +kernel
theorem dX9_command_182 : decode cX9_command 182 = .ok (.getfield 20, 3) := by decide +kernel
theorem dX9_command_185 : decode cX9_command 185 = .ok (.bipush 15, 2) := by decide +kernel
theorem dX9_command_187 : decode cX9_command 187 = .ok (.iload_n 3, 1) := by decide +kernel
theorem dX9_command_188 : decode cX9_command 188 = .ok (.imul, 1) := by decide +kernel
theorem dX9_command_189 : decode cX9_command 189 = .ok (.iconst 2, 1) := by decide +kernel
theorem dX9_command_190 : decode cX9_command 190 = .ok (.iadd, 1) := by decide +kernel
theorem dX9_command_191 : decode cX9_command 191 = .ok (.iaload, 1) := by decide +kernel
theorem dX9_command_192 : decode cX9_command 192 = .ok (.ifCond .le 22, 3) := by decide +kernel
theorem dX9_command_195 : decode cX9_command 195 = .ok (.aload_n 0, 1) := by decide +kernel
theorem dX9_command_196 : decode cX9_command 196 = .ok (.getfield 20, 3) := by decide +kernel
theorem dX9_command_199 : decode cX9_command 199 = .ok (.iconst 0, 1) := by decide +kernel
theorem dX9_command_200 : decode cX9_command 200 = .ok (.iload_n 3, 1) := by decide +kernel
theorem dX9_command_201 : decode cX9_command 201 = .ok (.iconst 0, 1) := by decide +kernel
theorem dX9_command_202 : decode cX9_command 202 = .ok (.invokestatic 121, 3) := by decide +kernel
theorem dX9_command_205 : decode cX9_command 205 = .ok (.iload 4, 2) := by decide +kernel
theorem dX9_command_207 : decode cX9_command 207 = .ok (.if_icmp .lt 7, 3) := by decide +kernel
theorem dX9_command_210 : decode cX9_command 210 = .ok (.iconst 1, 1) := by decide +kernel
theorem dX9_command_211 : decode cX9_command 211 = .ok (.goto 4, 3) := by decide +kernel
theorem dX9_command_214 : decode cX9_command 214 = .ok (.iconst 0, 1) := by decide +kernel
theorem dX9_command_215 : decode cX9_command 215 = .ok (.ireturn, 1) := by decide +kernel
theorem dX9_command_216 : decode cX9_command 216 = .ok (.iconst 0, 1) := by decide +kernel
theorem dX9_command_217 : decode cX9_command 217 = .ok (.ireturn, 1) := by decide +kernel
set_option maxRecDepth 20000 in
theorem ggX9_runScript_X9_in : GoodIn wsX9_runScript wsX9_in := goodIn_r _ [8] (by decide +kernel) (by decide +kernel)
set_option maxRecDepth 20000 in
theorem gX9_runScript_X9_in : GoodIn wsX9_runScript (va_wsS RX9 58 yX9_in wsX9_in) := goodIn_app (goodIn_of _ (by decide +kernel)) ggX9_runScript_X9_in
set_option maxRecDepth 20000 in
theorem ggX9_runScript_X9_tens : GoodIn wsX9_runScript wsX9_tens := goodIn_r _ [11, 12] (by decide +kernel) (by decide +kernel)
set_option maxRecDepth 20000 in
theorem gX9_runScript_X9_tens : GoodIn wsX9_runScript (va_wsS RX9 173 yX9_tens wsX9_tens) := goodIn_app (goodIn_of _ (by decide +kernel)) ggX9_runScript_X9_tens
set_option maxRecDepth 20000 in
theorem ggX9_runScript_X9_refused : GoodIn wsX9_runScript wsX9_refused := goodIn_r _ [16, 17, 77, 78, 79, 80, 81, 82, 83, 84, 85, 86, 87, 88, 89, 90, 91, 92, 93, 94, 95, 96] (by decide +kernel) (by decide +kernel)
set_option maxRecDepth 20000 in
theorem gX9_runScript_X9_refused : GoodIn wsX9_runScript (wsV RX9 77 RX9 yX9_refused wsX9_refused) := goodIn_app (goodIn_of _ (by decide +kernel)) ggX9_runScript_X9_refused
set_option maxRecDepth 20000 in
theorem ggX9_runScript_X9_copy : GoodIn wsX9_runScript wsX9_copy := goodIn_r _ [20] (by decide +kernel) (by decide +kernel)
set_option maxRecDepth 20000 in
theorem gX9_runScript_X9_copy : GoodIn wsX9_runScript (va_wsS RX9 65 yX9_copy wsX9_copy) := goodIn_app (goodIn_of _ (by decide +kernel)) ggX9_runScript_X9_copy
set_option maxRecDepth 20000 in
theorem ggX9_runScript_X9_command : GoodIn wsX9_runScript wsX9_command := goodIn_r _ [24, 3, 25, 26, 27, 7, 28, 29, 30, 31, 32, 33, 34, 35, 36, 37, 38, 39, 40, 41, 42, 43, 44, 45, 46, 47, 48, 49, 50, 51, 52, 53, 54, 55, 56, 57, 58, 59, 60, 61, 62, 63, 64, 5, 6, 8, 65, 66, 67, 68, 69, 70, 71, 72, 73, 74, 75, 76, 77, 78, 79, 80, 81, 82, 83, 84, 85, 86, 87, 88, 89, 90, 91, 92, 93, 94, 95, 96] (by decide +kernel) (by decide +kernel)
set_option maxRecDepth 20000 in
theorem gX9_runScript_X9_command : GoodIn wsX9_runScript (wsV RX9 185 RX9 yX9_command wsX9_command) := goodIn_app (goodIn_of _ (by decide +kernel)) ggX9_runScript_X9_command
theorem dX9_runScript_0 : decode cX9_runScript 0 = .ok (.aload_n 0, 1) := by decide +kernel
theorem dX9_runScript_1 : decode cX9_runScript 1 = .ok (.iload_n 1, 1) := by decide +kernel
theorem dX9_runScript_2 : decode cX9_runScript 2 = .ok (.i2l, 1) := by decide +kernel
theorem dX9_runScript_3 : decode cX9_runScript 3 = .ok (.lconst 1, 1) := by decide +kernel
theorem dX9_runScript_4 : decode cX9_runScript 4 = .ok (.ldc2_w 165, 3) := by decide +kernel
theorem dX9_runScript_7 : decode cX9_runScript 7 = .ok (.invokestatic 58, 3) := by decide +kernel
theorem dX9_runScript_10 : decode cX9_runScript 10 = .ok (.ifCond .eq 23, 3) := by decide +kernel
theorem dX9_runScript_13 : decode cX9_runScript 13 = .ok (.lload_n 2, 1) := by decide +kernel
theorem dX9_runScript_14 : decode cX9_runScript 14 = .ok (.lconst 0, 1) := by decide +kernel
theorem dX9_runScript_15 : decode cX9_runScript 15 = .ok (.iconst 4, 1) := by decide +kernel
theorem dX9_runScript_16 : decode cX9_runScript 16 = .ok (.iload_n 1, 1) := by decide +kernel
theorem dX9_runScript_17 : decode cX9_runScript 17 = .ok (.imul, 1) := by decide +kernel
theorem dX9_runScript_18 : decode cX9_runScript 18 = .ok (.invokestatic 173, 3) := by decide +kernel
theorem dX9_runScript_21 : decode cX9_runScript 21 = .ok (.lconst 1, 1) := by decide +kernel
theorem dX9_runScript_22 : decode cX9_runScript 22 = .ok (.lsub, 1) := by decide +kernel
theorem dX9_runScript_23 : decode cX9_runScript 23 = .ok (.invokestatic 58, 3) := by decide +kernel
theorem dX9_runScript_26 : decode cX9_runScript 26 = .ok (.ifCond .eq 7, 3) := by decide +kernel
theorem dX9_runScript_29 : decode cX9_runScript 29 = .ok (.iconst 0, 1) := by decide +kernel
theorem dX9_runScript_30 : decode cX9_runScript 30 = .ok (.goto 4, 3) := by decide +kernel
theorem dX9_runScript_33 : decode cX9_runScript 33 = .ok (.iconst 1, 1) := by decide +kernel
theorem dX9_runScript_34 : decode cX9_runScript 34 = .ok (.invokevirtual 77, 3) := by decide +kernel
theorem dX9_runScript_37 : decode cX9_runScript 37 = .ok (.ifCond .eq 5, 3) := by decide +kernel
theorem dX9_runScript_40 : decode cX9_runScript 40 = .ok (.iconst 0, 1) := by decide +kernel
theorem dX9_runScript_41 : decode cX9_runScript 41 = .ok (.ireturn, 1) := by decide +kernel
theorem dX9_runScript_42 : decode cX9_runScript 42 = .ok (.aload_n 0, 1) := by decide +kernel
theorem dX9_runScript_43 : decode cX9_runScript 43 = .ok (.getfield 16, 3) := by decide +kernel
theorem dX9_runScript_46 : decode cX9_runScript 46 = .ok (.iconst 0, 1) := by decide +kernel
theorem dX9_runScript_47 : decode cX9_runScript 47 = .ok (.aload_n 0, 1) := by decide +kernel
theorem dX9_runScript_48 : decode cX9_runScript 48 = .ok (.getfield 20, 3) := by decide +kernel
theorem dX9_runScript_51 : decode cX9_runScript 51 = .ok (.iconst 0, 1) := by decide +kernel
theorem dX9_runScript_52 : decode cX9_runScript 52 = .ok (.invokestatic 65, 3) := by decide +kernel
theorem dX9_runScript_55 : decode cX9_runScript 55 = .ok (.iconst 0, 1) := by decide +kernel
theorem dX9_runScript_56 : decode cX9_runScript 56 = .ok (.istore 4, 2) := by decide +kernel
theorem dX9_runScript_58 : decode cX9_runScript 58 = .ok (.iload 4, 2) := by decide +kernel
theorem dX9_runScript_60 : decode cX9_runScript 60 = .ok (.iload_n 1, 1) := by decide +kernel
theorem dX9_runScript_61 : decode cX9_runScript 61 = .ok (.if_icmp .ge 37, 3) := by decide +kernel
theorem dX9_runScript_64 : decode cX9_runScript 64 = .ok (.aload_n 0, 1) := by decide +kernel
theorem dX9_runScript_65 : decode cX9_runScript 65 = .ok (.lload_n 2, 1) := by decide +kernel
theorem dX9_runScript_66 : decode cX9_runScript 66 = .ok (.iconst 4, 1) := by decide +kernel
theorem dX9_runScript_67 : decode cX9_runScript 67 = .ok (.iload_n 1, 1) := by decide +kernel
theorem dX9_runScript_68 : decode cX9_runScript 68 = .ok (.iconst 1, 1) := by decide +kernel
theorem dX9_runScript_69 : decode cX9_runScript 69 = .ok (.isub, 1) := by decide +kernel
theorem dX9_runScript_70 : decode cX9_runScript 70 = .ok (.iload 4, 2) := by decide +kernel
theorem dX9_runScript_72 : decode cX9_runScript 72 = .ok (.isub, 1) := by decide +kernel
theorem dX9_runScript_73 : decode cX9_runScript 73 = .ok (.imul, 1) := by decide +kernel
theorem dX9_runScript_74 : decode cX9_runScript 74 = .ok (.invokestatic 173, 3) := by decide +kernel
theorem dX9_runScript_77 : decode cX9_runScript 77 = .ok (.ldiv, 1) := by decide +kernel
theorem dX9_runScript_78 : decode cX9_runScript 78 = .ok (.ldc2_w 183, 3) := by decide +kernel
theorem dX9_runScript_81 : decode cX9_runScript 81 = .ok (.lrem, 1) := by decide +kernel
theorem dX9_runScript_82 : decode cX9_runScript 82 = .ok (.l2i, 1) := by decide +kernel
theorem dX9_runScript_83 : decode cX9_runScript 83 = .ok (.invokevirtual 185, 3) := by decide +kernel
theorem dX9_runScript_86 : decode cX9_runScript 86 = .ok (.ifCond .ne 6, 3) := by decide +kernel
theorem dX9_runScript_89 : decode cX9_runScript 89 = .ok (.iload 4, 2) := by decide +kernel
theorem dX9_runScript_91 : decode cX9_runScript 91 = .ok (.ireturn, 1) := by decide +kernel
theorem dX9_runScript_92 : decode cX9_runScript 92 = .ok (.iinc 4 1, 3) := by decide +kernel
theorem dX9_runScript_95 : decode cX9_runScript 95 = .ok (.goto (-37), 3) := by decide +kernel
theorem dX9_runScript_98 : decode cX9_runScript 98 = .ok (.bipush (-9), 2) := by decide +kernel
theorem dX9_runScript_100 : decode cX9_runScript 100 = .ok (.ireturn, 1) := by decide +kernel
set_option maxRecDepth 20000 in
theorem ggX9_simulate_X9_in : GoodIn wsX9_simulate wsX9_in := goodIn_r _ [9] (by decide +kernel) (by decide +kernel)
set_option maxRecDepth 20000 in
theorem gX9_simulate_X9_in : GoodIn wsX9_simulate (va_wsS RX9 58 yX9_in wsX9_in) := goodIn_app (goodIn_of _ (by decide +kernel)) ggX9_simulate_X9_in
set_option maxRecDepth 20000 in
theorem ggX9_simulate_X9_refused : GoodIn wsX9_simulate wsX9_refused := goodIn_r _ [13, 14, 54, 55, 56, 57, 58, 59, 60, 61, 62, 63, 64, 65, 66, 67, 68, 69, 70, 71, 72, 73] (by decide +kernel) (by decide +kernel)
set_option maxRecDepth 20000 in
theorem gX9_simulate_X9_refused : GoodIn wsX9_simulate (wsV RX9 77 RX9 yX9_refused wsX9_refused) := goodIn_app (goodIn_of _ (by decide +kernel)) ggX9_simulate_X9_refused
set_option maxRecDepth 20000 in
theorem ggX9_simulate_X9_copy : GoodIn wsX9_simulate wsX9_copy := goodIn_r _ [17] (by decide +kernel) (by decide +kernel)
set_option maxRecDepth 20000 in
theorem gX9_simulate_X9_copy : GoodIn wsX9_simulate (va_wsS RX9 65 yX9_copy wsX9_copy) := goodIn_app (goodIn_of _ (by decide +kernel)) ggX9_simulate_X9_copy
set_option maxRecDepth 20000 in
theorem ggX9_simulate_X9_points : GoodIn wsX9_simulate wsX9_points := goodIn_r _ [21, 22, 23, 54, 55, 56, 57, 58, 59, 60, 61, 62, 63, 64, 65, 66, 67, 68, 69, 70, 71, 72, 73] (by decide +kernel) (by decide +kernel)
set_option maxRecDepth 20000 in
theorem gX9_simulate_X9_points : GoodIn wsX9_simulate (wsV RX9 54 RX9 yX9_points wsX9_points) := goodIn_app (goodIn_of _ (by decide +kernel)) ggX9_simulate_X9_points
set_option maxRecDepth 20000 in
theorem ggX9_simulate_X9_goByOrder : GoodIn wsX9_simulate wsX9_goByOrder := goodIn_r _ [27, 28, 29, 30, 8, 31, 18, 19, 20, 21, 22, 23, 32, 33, 34, 35, 36, 37, 38, 39, 40, 41, 42, 43, 44, 45, 46, 47, 48, 49, 50, 51, 52, 53, 54, 55, 56, 57, 58, 59, 60, 61, 62, 63, 64, 65, 66, 67, 68, 69, 70, 71, 72, 73] (by decide +kernel) (by decide +kernel)
set_option maxRecDepth 20000 in
theorem gX9_simulate_X9_goByOrder : GoodIn wsX9_simulate (wsV RX9 140 RX9 yX9_goByOrder wsX9_goByOrder) := goodIn_app (goodIn_of _ (by decide +kernel)) ggX9_simulate_X9_goByOrder
theorem dX9_simulate_0 : decode cX9_simulate 0 = .ok (.aload_n 0, 1) := by decide +kernel
theorem dX9_simulate_1 : decode cX9_simulate 1 = .ok (.iload_n 3, 1) := by decide +kernel
theorem dX9_simulate_2 : decode cX9_simulate 2 = .ok (.i2l, 1) := by decide +kernel
theorem dX9_simulate_3 : decode cX9_simulate 3 = .ok (.lconst 1, 1) := by decide +kernel
theorem dX9_simulate_4 : decode cX9_simulate 4 = .ok (.ldc2_w 188, 3) := by decide +kernel
theorem dX9_simulate_7 : decode cX9_simulate 7 = .ok (.invokestatic 58, 3) := by decide +kernel
theorem dX9_simulate_10 : decode cX9_simulate 10 = .ok (.ifCond .eq 7, 3) := by decide +kernel
theorem dX9_simulate_13 : decode cX9_simulate 13 = .ok (.iconst 0, 1) := by decide +kernel
theorem dX9_simulate_14 : decode cX9_simulate 14 = .ok (.goto 4, 3) := by decide +kernel
theorem dX9_simulate_17 : decode cX9_simulate 17 = .ok (.iconst 1, 1) := by decide +kernel
theorem dX9_simulate_18 : decode cX9_simulate 18 = .ok (.invokevirtual 77, 3) := by decide +kernel
theorem dX9_simulate_21 : decode cX9_simulate 21 = .ok (.ifCond .eq 5, 3) := by decide +kernel
theorem dX9_simulate_24 : decode cX9_simulate 24 = .ok (.iconst 0, 1) := by decide +kernel
theorem dX9_simulate_25 : decode cX9_simulate 25 = .ok (.ireturn, 1) := by decide +kernel
theorem dX9_simulate_26 : decode cX9_simulate 26 = .ok (.aload_n 0, 1) := by decide +kernel
theorem dX9_simulate_27 : decode cX9_simulate 27 = .ok (.getfield 16, 3) := by decide +kernel
theorem dX9_simulate_30 : decode cX9_simulate 30 = .ok (.iconst 0, 1) := by decide +kernel
theorem dX9_simulate_31 : decode cX9_simulate 31 = .ok (.aload_n 0, 1) := by decide +kernel
theorem dX9_simulate_32 : decode cX9_simulate 32 = .ok (.getfield 20, 3) := by decide +kernel
theorem dX9_simulate_35 : decode cX9_simulate 35 = .ok (.iconst 0, 1) := by decide +kernel
theorem dX9_simulate_36 : decode cX9_simulate 36 = .ok (.invokestatic 65, 3) := by decide +kernel
theorem dX9_simulate_39 : decode cX9_simulate 39 = .ok (.lload_n 1, 1) := by decide +kernel
theorem dX9_simulate_40 : decode cX9_simulate 40 = .ok (.lstore 4, 2) := by decide +kernel
theorem dX9_simulate_42 : decode cX9_simulate 42 = .ok (.iconst 0, 1) := by decide +kernel
theorem dX9_simulate_43 : decode cX9_simulate 43 = .ok (.istore 6, 2) := by decide +kernel
theorem dX9_simulate_45 : decode cX9_simulate 45 = .ok (.iload 6, 2) := by decide +kernel
theorem dX9_simulate_47 : decode cX9_simulate 47 = .ok (.iload_n 3, 1) := by decide +kernel
theorem dX9_simulate_48 : decode cX9_simulate 48 = .ok (.if_icmp .ge 83, 3) := by decide +kernel
theorem dX9_simulate_51 : decode cX9_simulate 51 = .ok (.lload 4, 2) := by decide +kernel
theorem dX9_simulate_53 : decode cX9_simulate 53 = .ok (.ldc2_w 190, 3) := by decide +kernel
theorem dX9_simulate_56 : decode cX9_simulate 56 = .ok (.lmul, 1) := by decide +kernel
theorem dX9_simulate_57 : decode cX9_simulate 57 = .ok (.ldc2_w 192, 3) := by decide +kernel
theorem dX9_simulate_60 : decode cX9_simulate 60 = .ok (.ladd, 1) := by decide +kernel
theorem dX9_simulate_61 : decode cX9_simulate 61 = .ok (.lstore 4, 2) := by decide +kernel
theorem dX9_simulate_63 : decode cX9_simulate 63 = .ok (.lload 4, 2) := by decide +kernel
theorem dX9_simulate_65 : decode cX9_simulate 65 = .ok (.bipush 33, 2) := by decide +kernel
theorem dX9_simulate_67 : decode cX9_simulate 67 = .ok (.lushr, 1) := by decide +kernel
theorem dX9_simulate_68 : decode cX9_simulate 68 = .ok (.l2i, 1) := by decide +kernel
theorem dX9_simulate_69 : decode cX9_simulate 69 = .ok (.istore 7, 2) := by decide +kernel
theorem dX9_simulate_71 : decode cX9_simulate 71 = .ok (.iload 7, 2) := by decide +kernel
theorem dX9_simulate_73 : decode cX9_simulate 73 = .ok (.iconst 4, 1) := by decide +kernel
theorem dX9_simulate_74 : decode cX9_simulate 74 = .ok (.irem, 1) := by decide +kernel
theorem dX9_simulate_75 : decode cX9_simulate 75 = .ok (.ifCond .ne 40, 3) := by decide +kernel
theorem dX9_simulate_78 : decode cX9_simulate 78 = .ok (.iload 7, 2) := by decide +kernel
theorem dX9_simulate_80 : decode cX9_simulate 80 = .ok (.iconst 4, 1) := by decide +kernel
theorem dX9_simulate_81 : decode cX9_simulate 81 = .ok (.idiv, 1) := by decide +kernel
theorem dX9_simulate_82 : decode cX9_simulate 82 = .ok (.aload_n 0, 1) := by decide +kernel
theorem dX9_simulate_83 : decode cX9_simulate 83 = .ok (.invokevirtual 54, 3) := by decide +kernel
theorem dX9_simulate_86 : decode cX9_simulate 86 = .ok (.irem, 1) := by decide +kernel
theorem dX9_simulate_87 : decode cX9_simulate 87 = .ok (.istore 8, 2) := by decide +kernel
theorem dX9_simulate_89 : decode cX9_simulate 89 = .ok (.aload_n 0, 1) := by decide +kernel
theorem dX9_simulate_90 : decode cX9_simulate 90 = .ok (.getfield 20, 3) := by decide +kernel
theorem dX9_simulate_93 : decode cX9_simulate 93 = .ok (.bipush 15, 2) := by decide +kernel
theorem dX9_simulate_95 : decode cX9_simulate 95 = .ok (.iload 8, 2) := by decide +kernel
theorem dX9_simulate_97 : decode cX9_simulate 97 = .ok (.imul, 1) := by decide +kernel
theorem dX9_simulate_98 : decode cX9_simulate 98 = .ok (.iconst 1, 1) := by decide +kernel
theorem dX9_simulate_99 : decode cX9_simulate 99 = .ok (.iadd, 1) := by decide +kernel
theorem dX9_simulate_100 : decode cX9_simulate 100 = .ok (.iconst 1, 1) := by decide +kernel
theorem dX9_simulate_101 : decode cX9_simulate 101 = .ok (.aload_n 0, 1) := by decide +kernel
theorem dX9_simulate_102 : decode cX9_simulate 102 = .ok (.getfield 20, 3) := by decide +kernel
theorem dX9_simulate_105 : decode cX9_simulate 105 = .ok (.bipush 15, 2) := by decide +kernel
theorem dX9_simulate_107 : decode cX9_simulate 107 = .ok (.iload 8, 2) := by decide +kernel
theorem dX9_simulate_109 : decode cX9_simulate 109 = .ok (.imul, 1) := by decide +kernel
theorem dX9_simulate_110 : decode cX9_simulate 110 = .ok (.iconst 1, 1) := by decide +kernel
theorem dX9_simulate_111 : decode cX9_simulate 111 = .ok (.iadd, 1) := by decide +kernel
theorem dX9_simulate_112 : decode cX9_simulate 112 = .ok (.iaload, 1) := by decide +kernel
theorem dX9_simulate_113 : decode cX9_simulate 113 = .ok (.isub, 1) := by decide +kernel
theorem dX9_simulate_114 : decode cX9_simulate 114 = .ok (.iastore, 1) := by decide +kernel
theorem dX9_simulate_115 : decode cX9_simulate 115 = .ok (.aload_n 0, 1) := by decide +kernel
theorem dX9_simulate_116 : decode cX9_simulate 116 = .ok (.aload_n 0, 1) := by decide +kernel
theorem dX9_simulate_117 : decode cX9_simulate 117 = .ok (.getfield 20, 3) := by decide +kernel
theorem dX9_simulate_120 : decode cX9_simulate 120 = .ok (.iconst 1, 1) := by decide +kernel
theorem dX9_simulate_121 : decode cX9_simulate 121 = .ok (.invokevirtual 140, 3) := by decide +kernel
theorem dX9_simulate_124 : decode cX9_simulate 124 = .ok (.pop, 1) := by decide +kernel
theorem dX9_simulate_125 : decode cX9_simulate 125 = .ok (.iinc 6 1, 3) := by decide +kernel
theorem dX9_simulate_128 : decode cX9_simulate 128 = .ok (.goto (-83), 3) := by decide +kernel
theorem dX9_simulate_131 : decode cX9_simulate 131 = .ok (.aload_n 0, 1) := by decide +kernel
theorem dX9_simulate_132 : decode cX9_simulate 132 = .ok (.getfield 20, 3) := by decide +kernel
theorem dX9_simulate_135 : decode cX9_simulate 135 = .ok (.sipush 242, 3) := by decide +kernel
theorem dX9_simulate_138 : decode cX9_simulate 138 = .ok (.iaload, 1) := by decide +kernel
theorem dX9_simulate_139 : decode cX9_simulate 139 = .ok (.aload_n 0, 1) := by decide +kernel
theorem dX9_simulate_140 : decode cX9_simulate 140 = .ok (.getfield 16, 3) := by decide +kernel
theorem dX9_simulate_143 : decode cX9_simulate 143 = .ok (.sipush 242, 3) := by decide +kernel
theorem dX9_simulate_146 : decode cX9_simulate 146 = .ok (.iaload, 1) := by decide +kernel
theorem dX9_simulate_147 : decode cX9_simulate 147 = .ok (.isub, 1) := by decide +kernel
theorem dX9_simulate_148 : decode cX9_simulate 148 = .ok (.ireturn, 1) := by decide +kernel
set_option maxRecDepth 20000 in
theorem ggX9_save_X9_in : GoodIn wsX9_save wsX9_in := goodIn_r _ [7] (by decide +kernel) (by decide +kernel)
set_option maxRecDepth 20000 in
theorem gX9_save_X9_in : GoodIn wsX9_save (va_wsS RX9 58 yX9_in wsX9_in) := goodIn_app (goodIn_of _ (by decide +kernel)) ggX9_save_X9_in
set_option maxRecDepth 20000 in
theorem ggX9_save_X9_refused : GoodIn wsX9_save wsX9_refused := goodIn_r _ [11, 12, 16, 17, 18, 19, 20, 21, 22, 23, 24, 25, 26, 27, 28, 29, 30, 31, 32, 33, 34, 35] (by decide +kernel) (by decide +kernel)
set_option maxRecDepth 20000 in
theorem gX9_save_X9_refused : GoodIn wsX9_save (wsV RX9 77 RX9 yX9_refused wsX9_refused) := goodIn_app (goodIn_of _ (by decide +kernel)) ggX9_save_X9_refused
set_option maxRecDepth 20000 in
theorem ggX9_save_X9_copy : GoodIn wsX9_save wsX9_copy := goodIn_r _ [15] (by decide +kernel) (by decide +kernel)
set_option maxRecDepth 20000 in
theorem gX9_save_X9_copy : GoodIn wsX9_save (va_wsS RX9 65 yX9_copy wsX9_copy) := goodIn_app (goodIn_of _ (by decide +kernel)) ggX9_save_X9_copy
theorem dX9_save_0 : decode cX9_save 0 = .ok (.aload_n 0, 1) := by decide +kernel
theorem dX9_save_1 : decode cX9_save 1 = .ok (.iload_n 1, 1) := by decide +kernel
theorem dX9_save_2 : decode cX9_save 2 = .ok (.i2l, 1) := by decide +kernel
theorem dX9_save_3 : decode cX9_save 3 = .ok (.lconst 0, 1) := by decide +kernel
theorem dX9_save_4 : decode cX9_save 4 = .ok (.lconst 1, 1) := by decide +kernel
theorem dX9_save_5 : decode cX9_save 5 = .ok (.invokestatic 58, 3) := by decide +kernel
theorem dX9_save_8 : decode cX9_save 8 = .ok (.ifCond .eq 7, 3) := by decide +kernel
theorem dX9_save_11 : decode cX9_save 11 = .ok (.iconst 0, 1) := by decide +kernel
theorem dX9_save_12 : decode cX9_save 12 = .ok (.goto 4, 3) := by decide +kernel
theorem dX9_save_15 : decode cX9_save 15 = .ok (.iconst 1, 1) := by decide +kernel
theorem dX9_save_16 : decode cX9_save 16 = .ok (.invokevirtual 77, 3) := by decide +kernel
theorem dX9_save_19 : decode cX9_save 19 = .ok (.ifCond .eq 5, 3) := by decide +kernel
theorem dX9_save_22 : decode cX9_save 22 = .ok (.iconst 0, 1) := by decide +kernel
theorem dX9_save_23 : decode cX9_save 23 = .ok (.ireturn, 1) := by decide +kernel
theorem dX9_save_24 : decode cX9_save 24 = .ok (.aload_n 0, 1) := by decide +kernel
theorem dX9_save_25 : decode cX9_save 25 = .ok (.getfield 29, 3) := by decide +kernel
theorem dX9_save_28 : decode cX9_save 28 = .ok (.iload_n 1, 1) := by decide +kernel
theorem dX9_save_29 : decode cX9_save 29 = .ok (.iconst 1, 1) := by decide +kernel
theorem dX9_save_30 : decode cX9_save 30 = .ok (.bastore, 1) := by decide +kernel
theorem dX9_save_31 : decode cX9_save 31 = .ok (.aload_n 0, 1) := by decide +kernel
theorem dX9_save_32 : decode cX9_save 32 = .ok (.getfield 16, 3) := by decide +kernel
theorem dX9_save_35 : decode cX9_save 35 = .ok (.iconst 0, 1) := by decide +kernel
theorem dX9_save_36 : decode cX9_save 36 = .ok (.aload_n 0, 1) := by decide +kernel
theorem dX9_save_37 : decode cX9_save 37 = .ok (.getfield 26, 3) := by decide +kernel
theorem dX9_save_40 : decode cX9_save 40 = .ok (.sipush 243, 3) := by decide +kernel
theorem dX9_save_43 : decode cX9_save 43 = .ok (.iload_n 1, 1) := by decide +kernel
theorem dX9_save_44 : decode cX9_save 44 = .ok (.imul, 1) := by decide +kernel
theorem dX9_save_45 : decode cX9_save 45 = .ok (.invokestatic 65, 3) := by decide +kernel
theorem dX9_save_48 : decode cX9_save 48 = .ok (.aload_n 0, 1) := by decide +kernel
theorem dX9_save_49 : decode cX9_save 49 = .ok (.getfield 16, 3) := by decide +kernel
theorem dX9_save_52 : decode cX9_save 52 = .ok (.sipush 241, 3) := by decide +kernel
theorem dX9_save_55 : decode cX9_save 55 = .ok (.iaload, 1) := by decide +kernel
theorem dX9_save_56 : decode cX9_save 56 = .ok (.ireturn, 1) := by decide +kernel
set_option maxRecDepth 20000 in
theorem ggX9_restore_X9_in : GoodIn wsX9_restore wsX9_in := goodIn_r _ [8] (by decide +kernel) (by decide +kernel)
set_option maxRecDepth 20000 in
theorem gX9_restore_X9_in : GoodIn wsX9_restore (va_wsS RX9 58 yX9_in wsX9_in) := goodIn_app (goodIn_of _ (by decide +kernel)) ggX9_restore_X9_in
set_option maxRecDepth 20000 in
theorem ggX9_restore_X9_refused : GoodIn wsX9_restore wsX9_refused := goodIn_r _ [12, 13, 17, 18, 19, 20, 21, 22, 23, 24, 25, 26, 27, 28, 29, 30, 31, 32, 33, 34, 35, 36] (by decide +kernel) (by decide +kernel)
set_option maxRecDepth 20000 in
theorem gX9_restore_X9_refused : GoodIn wsX9_restore (wsV RX9 77 RX9 yX9_refused wsX9_refused) := goodIn_app (goodIn_of _ (by decide +kernel)) ggX9_restore_X9_refused
set_option maxRecDepth 20000 in
theorem ggX9_restore_X9_copy : GoodIn wsX9_restore wsX9_copy := goodIn_r _ [16] (by decide +kernel) (by decide +kernel)
set_option maxRecDepth 20000 in
theorem gX9_restore_X9_copy : GoodIn wsX9_restore (va_wsS RX9 65 yX9_copy wsX9_copy) := goodIn_app (goodIn_of _ (by decide +kernel)) ggX9_restore_X9_copy
theorem dX9_restore_0 : decode cX9_restore 0 = .ok (.aload_n 0, 1) := by decide +kernel
theorem dX9_restore_1 : decode cX9_restore 1 = .ok (.iload_n 1, 1) := by decide +kernel
theorem dX9_restore_2 : decode cX9_restore 2 = .ok (.i2l, 1) := by decide +kernel
theorem dX9_restore_3 : decode cX9_restore 3 = .ok (.lconst 0, 1) := by decide +kernel
theorem dX9_restore_4 : decode cX9_restore 4 = .ok (.lconst 1, 1) := by decide +kernel
theorem dX9_restore_5 : decode cX9_restore 5 = .ok (.invokestatic 58, 3) := by decide +kernel
theorem dX9_restore_8 : decode cX9_restore 8 = .ok (.ifCond .ne 7, 3) := by decide +kernel
theorem dX9_restore_11 : decode cX9_restore 11 = .ok (.iconst 1, 1) := by decide +kernel
theorem dX9_restore_12 : decode cX9_restore 12 = .ok (.goto 17, 3) := by decide +kernel
theorem dX9_restore_15 : decode cX9_restore 15 = .ok (.aload_n 0, 1) := by decide +kernel
theorem dX9_restore_16 : decode cX9_restore 16 = .ok (.getfield 29, 3) := by decide +kernel
theorem dX9_restore_19 : decode cX9_restore 19 = .ok (.iload_n 1, 1) := by decide +kernel
theorem dX9_restore_20 : decode cX9_restore 20 = .ok (.baload, 1) := by decide +kernel
theorem dX9_restore_21 : decode cX9_restore 21 = .ok (.ifCond .ne 7, 3) := by decide +kernel
theorem dX9_restore_24 : decode cX9_restore 24 = .ok (.iconst 2, 1) := by decide +kernel
theorem dX9_restore_25 : decode cX9_restore 25 = .ok (.goto 4, 3) := by decide +kernel
theorem dX9_restore_28 : decode cX9_restore 28 = .ok (.iconst 0, 1) := by decide +kernel
theorem dX9_restore_29 : decode cX9_restore 29 = .ok (.invokevirtual 77, 3) := by decide +kernel
theorem dX9_restore_32 : decode cX9_restore 32 = .ok (.ifCond .eq 5, 3) := by decide +kernel
theorem dX9_restore_35 : decode cX9_restore 35 = .ok (.iconst 0, 1) := by decide +kernel
theorem dX9_restore_36 : decode cX9_restore 36 = .ok (.ireturn, 1) := by decide +kernel
theorem dX9_restore_37 : decode cX9_restore 37 = .ok (.aload_n 0, 1) := by decide +kernel
theorem dX9_restore_38 : decode cX9_restore 38 = .ok (.getfield 26, 3) := by decide +kernel
theorem dX9_restore_41 : decode cX9_restore 41 = .ok (.sipush 243, 3) := by decide +kernel
theorem dX9_restore_44 : decode cX9_restore 44 = .ok (.iload_n 1, 1) := by decide +kernel
theorem dX9_restore_45 : decode cX9_restore 45 = .ok (.imul, 1) := by decide +kernel
theorem dX9_restore_46 : decode cX9_restore 46 = .ok (.aload_n 0, 1) := by decide +kernel
theorem dX9_restore_47 : decode cX9_restore 47 = .ok (.getfield 16, 3) := by decide +kernel
theorem dX9_restore_50 : decode cX9_restore 50 = .ok (.iconst 0, 1) := by decide +kernel
theorem dX9_restore_51 : decode cX9_restore 51 = .ok (.invokestatic 65, 3) := by decide +kernel
theorem dX9_restore_54 : decode cX9_restore 54 = .ok (.aload_n 0, 1) := by decide +kernel
theorem dX9_restore_55 : decode cX9_restore 55 = .ok (.iconst 0, 1) := by decide +kernel
theorem dX9_restore_56 : decode cX9_restore 56 = .ok (.putfield 69, 3) := by decide +kernel
theorem dX9_restore_59 : decode cX9_restore 59 = .ok (.aload_n 0, 1) := by decide +kernel
theorem dX9_restore_60 : decode cX9_restore 60 = .ok (.getfield 16, 3) := by decide +kernel
theorem dX9_restore_63 : decode cX9_restore 63 = .ok (.sipush 241, 3) := by decide +kernel
theorem dX9_restore_66 : decode cX9_restore 66 = .ok (.iaload, 1) := by decide +kernel
theorem dX9_restore_67 : decode cX9_restore 67 = .ok (.ireturn, 1) := by decide +kernel

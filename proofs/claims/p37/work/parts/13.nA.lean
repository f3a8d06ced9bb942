theorem dX5_firstFailure_31 : decode cX5_firstFailure 31 = .ok (.bipush (-9), 2) := by decide +kernel
theorem dX5_firstFailure_33 : decode cX5_firstFailure 33 = .ok (.ireturn, 1) := by decide +kernel
set_option maxRecDepth 20000 in
theorem ggX5_succeeds_X0_takeByOrder : GoodIn wsX5_succeeds wsX0_takeByOrder := goodIn_r _ [5, 6, 7, 8, 4, 9, 10, 11, 12, 13, 14, 15, 16, 17, 18, 19, 20, 21, 22, 23, 24, 25, 26, 27, 28, 29, 30, 31, 32, 33, 34, 35, 36, 37, 38, 39, 40, 41, 42, 43, 44, 45, 46, 47, 48, 49, 50, 51, 52, 53, 54, 55, 56, 57, 58, 59, 60, 61, 62, 63, 64, 65, 89, 90, 91, 92, 93, 94, 95, 96, 97, 98, 99, 100, 101] (by decide +kernel) (by decide +kernel)
set_option maxRecDepth 20000 in
theorem gX5_succeeds_X0_takeByOrder : GoodIn wsX5_succeeds (wsV RX5 25 RX0 yX0_takeByOrder wsX0_takeByOrder) := goodIn_app (goodIn_of _ (by decide +kernel)) ggX5_succeeds_X0_takeByOrder
set_option maxRecDepth 20000 in
theorem ggX5_succeeds_X2_has : GoodIn wsX5_succeeds wsX2_has := goodIn_r _ [69, 15, 89, 90, 91, 92, 93] (by decide +kernel) (by decide +kernel)
set_option maxRecDepth 20000 in
theorem gX5_succeeds_X2_has : GoodIn wsX5_succeeds (wsV RX5 31 RX2 yX2_has wsX2_has) := goodIn_app (goodIn_of _ (by decide +kernel)) ggX5_succeeds_X2_has
set_option maxRecDepth 20000 in
theorem ggX5_succeeds_X5_drawsAll : GoodIn wsX5_succeeds wsX5_drawsAll := goodIn_r _ [73, 74, 75, 76, 4, 77, 16, 17, 18, 19, 20, 21, 22, 23, 24, 25, 26, 27, 28, 29, 30, 31, 32, 33, 34, 35, 36, 37, 38, 39, 40, 41, 42, 13, 43, 44, 45, 46, 78, 53, 54, 55, 51, 56, 57, 58, 59, 60, 61, 62, 63, 64, 65, 94, 95, 96, 97, 98, 99, 100, 101, 89, 90, 91, 92, 93] (by decide +kernel) (by decide +kernel)
set_option maxRecDepth 20000 in
theorem gX5_succeeds_X5_drawsAll : GoodIn wsX5_succeeds (va_wsS RX5 37 yX5_drawsAll wsX5_drawsAll) := goodIn_app (goodIn_of _ (by decide +kernel)) ggX5_succeeds_X5_drawsAll
set_option maxRecDepth 20000 in
theorem ggX5_succeeds_X5_turns : GoodIn wsX5_succeeds wsX5_turns := goodIn_r _ [81, 82, 30, 31, 4, 32, 33, 83, 84, 85, 86, 94, 95, 96, 97, 98, 99, 100, 101] (by decide +kernel) (by decide +kernel)
set_option maxRecDepth 20000 in
theorem gX5_succeeds_X5_turns : GoodIn wsX5_succeeds (va_wsS RX5 41 yX5_turns wsX5_turns) := goodIn_app (goodIn_of _ (by decide +kernel)) ggX5_succeeds_X5_turns
set_option maxRecDepth 20000 in
theorem ggX5_succeeds_X0_slackOf : GoodIn wsX5_succeeds wsX0_slackOf := goodIn_r _ [19, 20, 21, 22, 23, 24, 25, 26, 27, 28, 29, 30, 31, 4, 32, 33, 34, 35, 36, 37, 38, 39, 40, 41, 42, 13, 43, 44, 45, 46, 94, 95, 96, 97, 98, 99, 100, 101, 89, 90, 91, 92, 93] (by decide +kernel) (by decide +kernel)
set_option maxRecDepth 20000 in
theorem gX5_succeeds_X0_slackOf : GoodIn wsX5_succeeds (wsV RX5 45 RX0 yX0_slackOf wsX0_slackOf) := goodIn_app (goodIn_of _ (by decide +kernel)) ggX5_succeeds_X0_slackOf
set_option maxRecDepth 20000 in
theorem ggX5_succeeds_X0_gradeOf : GoodIn wsX5_succeeds wsX0_gradeOf := goodIn_r _ [50, 38, 39, 51, 94, 95, 96, 97, 98, 99, 100, 101] (by decide +kernel) (by decide +kernel)
set_option maxRecDepth 20000 in
theorem gX5_succeeds_X0_gradeOf : GoodIn wsX5_succeeds (wsV RX5 48 RX0 yX0_gradeOf wsX0_gradeOf) := goodIn_app (goodIn_of _ (by decide +kernel)) ggX5_succeeds_X0_gradeOf
theorem dX5_succeeds_0 : decode cX5_succeeds 0 = .ok (.iload_n 2, 1) := by decide +kernel
theorem dX5_succeeds_1 : decode cX5_succeeds 1 = .ok (.sipush 1000, 3) := by decide +kernel
theorem dX5_succeeds_4 : decode cX5_succeeds 4 = .ok (.idiv, 1) := by decide +kernel
theorem dX5_succeeds_5 : decode cX5_succeeds 5 = .ok (.istore_n 3, 1) := by decide +kernel
theorem dX5_succeeds_6 : decode cX5_succeeds 6 = .ok (.iload_n 3, 1) := by decide +kernel
theorem dX5_succeeds_7 : decode cX5_succeeds 7 = .ok (.bipush 6, 2) := by decide +kernel
theorem dX5_succeeds_9 : decode cX5_succeeds 9 = .ok (.if_icmp .ne 41, 3) := by decide +kernel
theorem dX5_succeeds_12 : decode cX5_succeeds 12 = .ok (.iload_n 2, 1) := by decide +kernel
theorem dX5_succeeds_13 : decode cX5_succeeds 13 = .ok (.sipush 1000, 3) := by decide +kernel
theorem dX5_succeeds_16 : decode cX5_succeeds 16 = .ok (.irem, 1) := by decide +kernel
theorem dX5_succeeds_17 : decode cX5_succeeds 17 = .ok (.istore 4, 2) := by decide +kernel
theorem dX5_succeeds_19 : decode cX5_succeeds 19 = .ok (.iload 4, 2) := by decide +kernel
theorem dX5_succeeds_21 : decode cX5_succeeds 21 = .ok (.iconst 1, 1) := by decide +kernel
theorem dX5_succeeds_22 : decode cX5_succeeds 22 = .ok (.if_icmp .lt 26, 3) := by decide +kernel
theorem dX5_succeeds_25 : decode cX5_succeeds 25 = .ok (.iload 4, 2) := by decide +kernel
theorem dX5_succeeds_27 : decode cX5_succeeds 27 = .ok (.bipush 99, 2) := by decide +kernel
theorem dX5_succeeds_29 : decode cX5_succeeds 29 = .ok (.if_icmp .gt 19, 3) := by decide +kernel
theorem dX5_succeeds_32 : decode cX5_succeeds 32 = .ok (.aload_n 1, 1) := by decide +kernel
theorem dX5_succeeds_33 : decode cX5_succeeds 33 = .ok (.aload_n 0, 1) := by decide +kernel
theorem dX5_succeeds_34 : decode cX5_succeeds 34 = .ok (.iload 4, 2) := by decide +kernel
theorem dX5_succeeds_36 : decode cX5_succeeds 36 = .ok (.invokevirtual 25, 3) := by decide +kernel
theorem dX5_succeeds_39 : decode cX5_succeeds 39 = .ok (.iload 4, 2) := by decide +kernel
theorem dX5_succeeds_41 : decode cX5_succeeds 41 = .ok (.if_icmp .ne 7, 3) := by decide +kernel
theorem dX5_succeeds_44 : decode cX5_succeeds 44 = .ok (.iconst 1, 1) := by decide +kernel
theorem dX5_succeeds_45 : decode cX5_succeeds 45 = .ok (.goto 4, 3) := by decide +kernel
theorem dX5_succeeds_48 : decode cX5_succeeds 48 = .ok (.iconst 0, 1) := by decide +kernel
theorem dX5_succeeds_49 : decode cX5_succeeds 49 = .ok (.ireturn, 1) := by decide +kernel
theorem dX5_succeeds_50 : decode cX5_succeeds 50 = .ok (.iload_n 2, 1) := by decide +kernel
theorem dX5_succeeds_51 : decode cX5_succeeds 51 = .ok (.bipush 10, 2) := by decide +kernel
theorem dX5_succeeds_53 : decode cX5_succeeds 53 = .ok (.idiv, 1) := by decide +kernel
theorem dX5_succeeds_54 : decode cX5_succeeds 54 = .ok (.bipush 100, 2) := by decide +kernel
theorem dX5_succeeds_56 : decode cX5_succeeds 56 = .ok (.irem, 1) := by decide +kernel
theorem dX5_succeeds_57 : decode cX5_succeeds 57 = .ok (.istore 4, 2) := by decide +kernel
theorem dX5_succeeds_59 : decode cX5_succeeds 59 = .ok (.iload_n 2, 1) := by decide +kernel
theorem dX5_succeeds_60 : decode cX5_succeeds 60 = .ok (.bipush 10, 2) := by decide +kernel
theorem dX5_succeeds_62 : decode cX5_succeeds 62 = .ok (.irem, 1) := by decide +kernel
theorem dX5_succeeds_63 : decode cX5_succeeds 63 = .ok (.istore 5, 2) := by decide +kernel
theorem dX5_succeeds_65 : decode cX5_succeeds 65 = .ok (.aload_n 0, 1) := by decide +kernel
theorem dX5_succeeds_66 : decode cX5_succeeds 66 = .ok (.iload 4, 2) := by decide +kernel
theorem dX5_succeeds_68 : decode cX5_succeeds 68 = .ok (.invokevirtual 31, 3) := by decide +kernel
theorem dX5_succeeds_71 : decode cX5_succeeds 71 = .ok (.ifCond .ne 5, 3) := by decide +kernel
theorem dX5_succeeds_74 : decode cX5_succeeds 74 = .ok (.iconst 0, 1) := by decide +kernel
theorem dX5_succeeds_75 : decode cX5_succeeds 75 = .ok (.ireturn, 1) := by decide +kernel
theorem dX5_succeeds_76 : decode cX5_succeeds 76 = .ok (.iload_n 3, 1) := by decide +kernel
theorem dX5_succeeds_77 : decode cX5_succeeds 77 = .ok (.tableswitch 123 1 5 #[35, 45, 66, 87, 105], 35) := by decide +kernel
theorem dX5_succeeds_112 : decode cX5_succeeds 112 = .ok (.aload_n 0, 1) := by decide +kernel
theorem dX5_succeeds_113 : decode cX5_succeeds 113 = .ok (.aload_n 1, 1) := by decide +kernel
theorem dX5_succeeds_114 : decode cX5_succeeds 114 = .ok (.iload 4, 2) := by decide +kernel
theorem dX5_succeeds_116 : decode cX5_succeeds 116 = .ok (.iload 5, 2) := by decide +kernel
theorem dX5_succeeds_118 : decode cX5_succeeds 118 = .ok (.invokestatic 37, 3) := by decide +kernel
theorem dX5_succeeds_121 : decode cX5_succeeds 121 = .ok (.ireturn, 1) := by decide +kernel
theorem dX5_succeeds_122 : decode cX5_succeeds 122 = .ok (.iload 5, 2) := by decide +kernel
theorem dX5_succeeds_124 : decode cX5_succeeds 124 = .ok (.ifCond .ne 17, 3) := by decide +kernel
theorem dX5_succeeds_127 : decode cX5_succeeds 127 = .ok (.aload_n 1, 1) := by decide +kernel
theorem dX5_succeeds_128 : decode cX5_succeeds 128 = .ok (.iload 4, 2) := by decide +kernel
theorem dX5_succeeds_130 : decode cX5_succeeds 130 = .ok (.iconst 0, 1) := by decide +kernel
theorem dX5_succeeds_131 : decode cX5_succeeds 131 = .ok (.invokestatic 41, 3) := by decide +kernel
theorem dX5_succeeds_134 : decode cX5_succeeds 134 = .ok (.ifCond .eq 7, 3) := by decide +kernel
theorem dX5_succeeds_137 : decode cX5_succeeds 137 = .ok (.iconst 1, 1) := by decide +kernel
theorem dX5_succeeds_138 : decode cX5_succeeds 138 = .ok (.goto 4, 3) := by decide +kernel
theorem dX5_succeeds_141 : decode cX5_succeeds 141 = .ok (.iconst 0, 1) := by decide +kernel
theorem dX5_succeeds_142 : decode cX5_succeeds 142 = .ok (.ireturn, 1) := by decide +kernel
theorem dX5_succeeds_143 : decode cX5_succeeds 143 = .ok (.iload 5, 2) := by decide +kernel
theorem dX5_succeeds_145 : decode cX5_succeeds 145 = .ok (.ifCond .ne 17, 3) := by decide +kernel
theorem dX5_succeeds_148 : decode cX5_succeeds 148 = .ok (.aload_n 1, 1) := by decide +kernel
theorem dX5_succeeds_149 : decode cX5_succeeds 149 = .ok (.iload 4, 2) := by decide +kernel
theorem dX5_succeeds_151 : decode cX5_succeeds 151 = .ok (.iconst 1, 1) := by decide +kernel
theorem dX5_succeeds_152 : decode cX5_succeeds 152 = .ok (.invokestatic 41, 3) := by decide +kernel
theorem dX5_succeeds_155 : decode cX5_succeeds 155 = .ok (.ifCond .eq 7, 3) := by decide +kernel
theorem dX5_succeeds_158 : decode cX5_succeeds 158 = .ok (.iconst 1, 1) := by decide +kernel
theorem dX5_succeeds_159 : decode cX5_succeeds 159 = .ok (.goto 4, 3) := by decide +kernel
theorem dX5_succeeds_162 : decode cX5_succeeds 162 = .ok (.iconst 0, 1) := by decide +kernel
theorem dX5_succeeds_163 : decode cX5_succeeds 163 = .ok (.ireturn, 1) := by decide +kernel
theorem dX5_succeeds_164 : decode cX5_succeeds 164 = .ok (.aload_n 1, 1) := by decide +kernel
theorem dX5_succeeds_165 : decode cX5_succeeds 165 = .ok (.aload_n 0, 1) := by decide +kernel
theorem dX5_succeeds_166 : decode cX5_succeeds 166 = .ok (.iload 4, 2) := by decide +kernel
theorem dX5_succeeds_168 : decode cX5_succeeds 168 = .ok (.invokevirtual 45, 3) := by decide +kernel
theorem dX5_succeeds_171 : decode cX5_succeeds 171 = .ok (.iload 5, 2) := by decide +kernel
theorem dX5_succeeds_173 : decode cX5_succeeds 173 = .ok (.if_icmp .ne 7, 3) := by decide +kernel
theorem dX5_succeeds_176 : decode cX5_succeeds 176 = .ok (.iconst 1, 1) := by decide +kernel
theorem dX5_succeeds_177 : decode cX5_succeeds 177 = .ok (.goto 4, 3) := by decide +kernel
theorem dX5_succeeds_180 : decode cX5_succeeds 180 = .ok (.iconst 0, 1) := by decide +kernel
theorem dX5_succeeds_181 : decode cX5_succeeds 181 = .ok (.ireturn, 1) := by decide +kernel
theorem dX5_succeeds_182 : decode cX5_succeeds 182 = .ok (.aload_n 1, 1) := by decide +kernel
theorem dX5_succeeds_183 : decode cX5_succeeds 183 = .ok (.iload 4, 2) := by decide +kernel
theorem dX5_succeeds_185 : decode cX5_succeeds 185 = .ok (.iconst 0, 1) := by decide +kernel
theorem dX5_succeeds_186 : decode cX5_succeeds 186 = .ok (.invokevirtual 48, 3) := by decide +kernel
theorem dX5_succeeds_189 : decode cX5_succeeds 189 = .ok (.iload 5, 2) := by decide +kernel
theorem dX5_succeeds_191 : decode cX5_succeeds 191 = .ok (.if_icmp .lt 7, 3) := by decide +kernel
theorem dX5_succeeds_194 : decode cX5_succeeds 194 = .ok (.iconst 1, 1) := by decide +kernel
theorem dX5_succeeds_195 : decode cX5_succeeds 195 = .ok (.goto 4, 3) := by decide +kernel
theorem dX5_succeeds_198 : decode cX5_succeeds 198 = .ok (.iconst 0, 1) := by decide +kernel
theorem dX5_succeeds_199 : decode cX5_succeeds 199 = .ok (.ireturn, 1) := by decide +kernel
theorem dX5_succeeds_200 : decode cX5_succeeds 200 = .ok (.iconst 0, 1) := by decide +kernel
theorem dX5_succeeds_201 : decode cX5_succeeds 201 = .ok (.ireturn, 1) := by decide +kernel
set_option maxRecDepth 20000 in
theorem ggX5_drawsAll_X0_ready : GoodIn wsX5_drawsAll wsX0_ready := goodIn_r _ [5, 6, 7, 8, 4, 9, 10, 11, 12, 13, 14, 15, 16, 17, 18, 19, 20, 21, 22, 23, 24, 25, 26, 27, 28, 29, 30, 31, 32, 33, 34, 35, 36, 37, 53, 54, 55, 56, 57, 58, 59, 60, 61, 62, 63, 64, 65] (by decide +kernel) (by decide +kernel)
set_option maxRecDepth 20000 in
theorem gX5_drawsAll_X0_ready : GoodIn wsX5_drawsAll (wsV RX5 52 RX0 yX0_ready wsX0_ready) := goodIn_app (goodIn_of _ (by decide +kernel)) ggX5_drawsAll_X0_ready
set_option maxRecDepth 20000 in
theorem ggX5_drawsAll_X0_take : GoodIn wsX5_drawsAll wsX0_take := goodIn_r _ [41, 28, 42, 29, 10, 43, 44, 45, 46, 47, 4, 48, 49, 50, 51, 52, 53, 54, 55, 56, 57, 58, 59, 60] (by decide +kernel) (by decide +kernel)
set_option maxRecDepth 20000 in
theorem gX5_drawsAll_X0_take : GoodIn wsX5_drawsAll (wsV RX5 56 RX0 yX0_take wsX0_take) := goodIn_app (goodIn_of _ (by decide +kernel)) ggX5_drawsAll_X0_take
theorem dX5_drawsAll_0 : decode cX5_drawsAll 0 = .ok (.iconst 0, 1) := by decide +kernel
theorem dX5_drawsAll_1 : decode cX5_drawsAll 1 = .ok (.istore 4, 2) := by decide +kernel
theorem dX5_drawsAll_3 : decode cX5_drawsAll 3 = .ok (.iload 4, 2) := by decide +kernel
theorem dX5_drawsAll_5 : decode cX5_drawsAll 5 = .ok (.iload_n 3, 1) := by decide +kernel
theorem dX5_drawsAll_6 : decode cX5_drawsAll 6 = .ok (.if_icmp .ge 26, 3) := by decide +kernel
theorem dX5_drawsAll_9 : decode cX5_drawsAll 9 = .ok (.aload_n 1, 1) := by decide +kernel
theorem dX5_drawsAll_10 : decode cX5_drawsAll 10 = .ok (.aload_n 0, 1) := by decide +kernel
theorem dX5_drawsAll_11 : decode cX5_drawsAll 11 = .ok (.iload_n 2, 1) := by decide +kernel
theorem dX5_drawsAll_12 : decode cX5_drawsAll 12 = .ok (.invokevirtual 52, 3) := by decide +kernel
theorem dX5_drawsAll_15 : decode cX5_drawsAll 15 = .ok (.ifCond .ne 5, 3) := by decide +kernel
theorem dX5_drawsAll_18 : decode cX5_drawsAll 18 = .ok (.iconst 0, 1) := by decide +kernel
theorem dX5_drawsAll_19 : decode cX5_drawsAll 19 = .ok (.ireturn, 1) := by decide +kernel
theorem dX5_drawsAll_20 : decode cX5_drawsAll 20 = .ok (.aload_n 1, 1) := by decide +kernel
theorem dX5_drawsAll_21 : decode cX5_drawsAll 21 = .ok (.iload_n 2, 1) := by decide +kernel
theorem dX5_drawsAll_22 : decode cX5_drawsAll 22 = .ok (.invokevirtual 56, 3) := by decide +kernel
theorem dX5_drawsAll_25 : decode cX5_drawsAll 25 = .ok (.pop, 1) := by decide +kernel
theorem dX5_drawsAll_26 : decode cX5_drawsAll 26 = .ok (.iinc 4 1, 3) := by decide +kernel
theorem dX5_drawsAll_29 : decode cX5_drawsAll 29 = .ok (.goto (-26), 3) := by decide +kernel
theorem dX5_drawsAll_32 : decode cX5_drawsAll 32 = .ok (.iload_n 3, 1) := by decide +kernel
theorem dX5_drawsAll_33 : decode cX5_drawsAll 33 = .ok (.ifCond .le 7, 3) := by decide +kernel
theorem dX5_drawsAll_36 : decode cX5_drawsAll 36 = .ok (.iconst 1, 1) := by decide +kernel
theorem dX5_drawsAll_37 : decode cX5_drawsAll 37 = .ok (.goto 4, 3) := by decide +kernel
theorem dX5_drawsAll_40 : decode cX5_drawsAll 40 = .ok (.iconst 0, 1) := by decide +kernel
theorem dX5_drawsAll_41 : decode cX5_drawsAll 41 = .ok (.ireturn, 1) := by decide +kernel
set_option maxRecDepth 20000 in
theorem ggX5_turns_X0_hangs : GoodIn wsX5_turns wsX0_hangs := goodIn_r _ [5, 6, 11, 12, 13, 14, 15, 16, 17, 18] (by decide +kernel) (by decide +kernel)
set_option maxRecDepth 20000 in
theorem gX5_turns_X0_hangs : GoodIn wsX5_turns (wsV RX5 59 RX0 yX0_hangs wsX0_hangs) := goodIn_app (goodIn_of _ (by decide +kernel)) ggX5_turns_X0_hangs
set_option maxRecDepth 20000 in
theorem ggX5_turns_X0_turnHung : GoodIn wsX5_turns wsX0_turnHung := goodIn_r _ [10, 6, 11, 12, 13, 14, 15, 16, 17, 18] (by decide +kernel) (by decide +kernel)
set_option maxRecDepth 20000 in
theorem gX5_turns_X0_turnHung : GoodIn wsX5_turns (wsV RX5 62 RX0 yX0_turnHung wsX0_turnHung) := goodIn_app (goodIn_of _ (by decide +kernel)) ggX5_turns_X0_turnHung
theorem dX5_turns_0 : decode cX5_turns 0 = .ok (.aload_n 0, 1) := by decide +kernel
theorem dX5_turns_1 : decode cX5_turns 1 = .ok (.iload_n 1, 1) := by decide +kernel
theorem dX5_turns_2 : decode cX5_turns 2 = .ok (.invokevirtual 59, 3) := by decide +kernel
theorem dX5_turns_5 : decode cX5_turns 5 = .ok (.iload_n 2, 1) := by decide +kernel
theorem dX5_turns_6 : decode cX5_turns 6 = .ok (.if_icmp .eq 5, 3) := by decide +kernel
theorem dX5_turns_9 : decode cX5_turns 9 = .ok (.iconst 0, 1) := by decide +kernel
theorem dX5_turns_10 : decode cX5_turns 10 = .ok (.ireturn, 1) := by decide +kernel
theorem dX5_turns_11 : decode cX5_turns 11 = .ok (.aload_n 0, 1) := by decide +kernel
theorem dX5_turns_12 : decode cX5_turns 12 = .ok (.iload_n 1, 1) := by decide +kernel
theorem dX5_turns_13 : decode cX5_turns 13 = .ok (.invokevirtual 62, 3) := by decide +kernel
theorem dX5_turns_16 : decode cX5_turns 16 = .ok (.iconst 1, 1) := by decide +kernel
theorem dX5_turns_17 : decode cX5_turns 17 = .ok (.ireturn, 1) := by decide +kernel
theorem dX6_init_0 : decode cX6_init 0 = .ok (.aload_n 0, 1) := by decide +kernel
theorem dX6_init_1 : decode cX6_init 1 = .ok (.invokespecial 3, 3) := by decide +kernel
theorem dX6_init_4 : decode cX6_init 4 = .ok (.aload_n 0, 1) := by decide +kernel
theorem dX6_init_5 : decode cX6_init 5 = .ok (.bipush 64, 2) := by decide +kernel
theorem dX6_init_7 : decode cX6_init 7 = .ok (.newarray .int, 2) := by decide +kernel
theorem dX6_init_9 : decode cX6_init 9 = .ok (.putfield 9, 3) := by decide +kernel
theorem dX6_init_12 : decode cX6_init 12 = .ok (.aload_n 0, 1) := by decide +kernel
theorem dX6_init_13 : decode cX6_init 13 = .ok (.bipush 16, 2) := by decide +kernel
theorem dX6_init_15 : decode cX6_init 15 = .ok (.newarray .int, 2) := by decide +kernel
theorem dX6_init_17 : decode cX6_init 17 = .ok (.putfield 15, 3) := by decide +kernel
theorem dX6_init_20 : decode cX6_init 20 = .ok (.aload_n 0, 1) := by decide +kernel
theorem dX6_init_21 : decode cX6_init 21 = .ok (.bipush 16, 2) := by decide +kernel
theorem dX6_init_23 : decode cX6_init 23 = .ok (.newarray .int, 2) := by decide +kernel
theorem dX6_init_25 : decode cX6_init 25 = .ok (.putfield 18, 3) := by decide +kernel
theorem dX6_init_28 : decode cX6_init 28 = .ok (.aload_n 0, 1) := by decide +kernel
theorem dX6_init_29 : decode cX6_init 29 = .ok (.iconst 4, 1) := by decide +kernel
theorem dX6_init_30 : decode cX6_init 30 = .ok (.newarray .int, 2) := by decide +kernel
theorem dX6_init_32 : decode cX6_init 32 = .ok (.putfield 21, 3) := by decide +kernel
theorem dX6_init_35 : decode cX6_init 35 = .ok (.aload_n 0, 1) := by decide +kernel
theorem dX6_init_36 : decode cX6_init 36 = .ok (.iconst 4, 1) := by decide +kernel
theorem dX6_init_37 : decode cX6_init 37 = .ok (.newarray .int, 2) := by decide +kernel
theorem dX6_init_39 : decode cX6_init 39 = .ok (.putfield 24, 3) := by decide +kernel
theorem dX6_init_42 : decode cX6_init 42 = .ok (.aload_n 0, 1) := by decide +kernel
theorem dX6_init_43 : decode cX6_init 43 = .ok (.iconst 4, 1) := by decide +kernel
theorem dX6_init_44 : decode cX6_init 44 = .ok (.newarray .int, 2) := by decide +kernel
theorem dX6_init_46 : decode cX6_init 46 = .ok (.putfield 27, 3) := by decide +kernel
theorem dX6_init_49 : decode cX6_init 49 = .ok (.return_, 1) := by decide +kernel
set_option maxRecDepth 20000 in
theorem ggX6_run_X0_limit : GoodIn wsX6_run wsX0_limit := goodIn_r _ [13, 14, 95, 96, 97, 98, 99, 100, 101, 102] (by decide +kernel) (by decide +kernel)
set_option maxRecDepth 20000 in
theorem gX6_run_X0_limit : GoodIn wsX6_run (wsV RX6 40 RX0 yX0_limit wsX0_limit) := goodIn_app (goodIn_of _ (by decide +kernel)) ggX6_run_X0_limit
set_option maxRecDepth 20000 in
theorem ggX6_run_J7_fill_53178 : GoodIn wsX6_run wsJ7_fill_53178 := goodIn_r _ [18] (by decide +kernel) (by decide +kernel)
set_option maxRecDepth 20000 in
theorem gX6_run_J7_fill_53178 : GoodIn wsX6_run (va_wsS RX6 51 yJ7_fill_53178 wsJ7_fill_53178) := goodIn_app (goodIn_of _ (by decide +kernel)) ggX6_run_J7_fill_53178
set_option maxRecDepth 20000 in
theorem ggX6_run_X2_size : GoodIn wsX6_run wsX2_size := goodIn_r _ [23, 24, 103, 104, 105, 106, 107] (by decide +kernel) (by decide +kernel)
set_option maxRecDepth 20000 in
theorem gX6_run_X2_size : GoodIn wsX6_run (wsV RX6 57 RX2 yX2_size wsX2_size) := goodIn_app (goodIn_of _ (by decide +kernel)) ggX6_run_X2_size
set_option maxRecDepth 20000 in
theorem ggX6_run_X6_lookAhead : GoodIn wsX6_run wsX6_lookAhead := goodIn_r _ [29, 30, 31, 32, 33, 34, 35, 12, 36, 37, 38, 39, 40, 41, 42, 43, 44, 45, 46, 47, 48, 49, 86, 87, 88, 89, 90, 91, 92, 93, 94, 95, 96, 97, 98, 99, 100, 101, 102] (by decide +kernel) (by decide +kernel)
set_option maxRecDepth 20000 in
theorem gX6_run_X6_lookAhead : GoodIn wsX6_run (wsV RX6 62 RX6 yX6_lookAhead wsX6_lookAhead) := goodIn_app (goodIn_of _ (by decide +kernel)) ggX6_run_X6_lookAhead
set_option maxRecDepth 20000 in
theorem ggX6_run_X6_boundSteps : GoodIn wsX6_run wsX6_boundSteps := goodIn_r _ [53, 54, 5, 32, 55, 56, 3, 57, 15, 16, 17, 18, 19, 20, 21, 22, 23, 24, 86, 87, 88, 89, 90, 91, 92, 93, 94, 103, 104, 105, 106, 107] (by decide +kernel) (by decide +kernel)
set_option maxRecDepth 20000 in
theorem gX6_run_X6_boundSteps : GoodIn wsX6_run (wsV RX6 66 RX6 yX6_boundSteps wsX6_boundSteps) := goodIn_app (goodIn_of _ (by decide +kernel)) ggX6_run_X6_boundSteps
set_option maxRecDepth 20000 in
theorem ggX6_run_X6_extend : GoodIn wsX6_run wsX6_extend := goodIn_r _ [61, 5, 54, 7, 62, 63, 64, 28, 65, 66, 8, 67, 68, 69, 70, 19, 20, 21, 22, 23, 24, 71, 72, 73, 74, 30, 6, 31, 75, 76, 77, 78, 32, 79, 80, 81, 82, 83, 84, 85, 2, 3, 4, 58, 59, 60, 86, 87, 88, 89, 90, 91, 92, 93, 94, 103, 104, 105, 106, 107] (by decide +kernel) (by decide +kernel)
set_option maxRecDepth 20000 in
theorem gX6_run_X6_extend : GoodIn wsX6_run (wsV RX6 70 RX6 yX6_extend wsX6_extend) := goodIn_app (goodIn_of _ (by decide +kernel)) ggX6_run_X6_extend
theorem dX6_run_0 : decode cX6_run 0 = .ok (.aload_n 0, 1) := by decide +kernel
theorem dX6_run_1 : decode cX6_run 1 = .ok (.iload_n 3, 1) := by decide +kernel
theorem dX6_run_2 : decode cX6_run 2 = .ok (.iconst 4, 1) := by decide +kernel
theorem dX6_run_3 : decode cX6_run 3 = .ok (.invokestatic 30, 3) := by decide +kernel
theorem dX6_run_6 : decode cX6_run 6 = .ok (.putfield 36, 3) := by decide +kernel
theorem dX6_run_9 : decode cX6_run 9 = .ok (.aload_n 0, 1) := by decide +kernel
theorem dX6_run_10 : decode cX6_run 10 = .ok (.aload_n 2, 1) := by decide +kernel
theorem dX6_run_11 : decode cX6_run 11 = .ok (.invokevirtual 40, 3) := by decide +kernel
theorem dX6_run_14 : decode cX6_run 14 = .ok (.putfield 46, 3) := by decide +kernel
theorem dX6_run_17 : decode cX6_run 17 = .ok (.aload_n 0, 1) := by decide +kernel
theorem dX6_run_18 : decode cX6_run 18 = .ok (.bipush (-9), 2) := by decide +kernel
theorem dX6_run_20 : decode cX6_run 20 = .ok (.putfield 48, 3) := by decide +kernel
theorem dX6_run_23 : decode cX6_run 23 = .ok (.aload_n 0, 1) := by decide +kernel
theorem dX6_run_24 : decode cX6_run 24 = .ok (.getfield 27, 3) := by decide +kernel
theorem dX6_run_27 : decode cX6_run 27 = .ok (.bipush (-9), 2) := by decide +kernel
theorem dX6_run_29 : decode cX6_run 29 = .ok (.invokestatic 51, 3) := by decide +kernel
theorem dX6_run_32 : decode cX6_run 32 = .ok (.iconst 0, 1) := by decide +kernel
theorem dX6_run_33 : decode cX6_run 33 = .ok (.istore 4, 2) := by decide +kernel
theorem dX6_run_35 : decode cX6_run 35 = .ok (.iload 4, 2) := by decide +kernel
theorem dX6_run_37 : decode cX6_run 37 = .ok (.aload_n 1, 1) := by decide +kernel
theorem dX6_run_38 : decode cX6_run 38 = .ok (.invokevirtual 57, 3) := by decide +kernel
theorem dX6_run_41 : decode cX6_run 41 = .ok (.if_icmp .ge 16, 3) := by decide +kernel
theorem dX6_run_44 : decode cX6_run 44 = .ok (.aload_n 0, 1) := by decide +kernel
theorem dX6_run_45 : decode cX6_run 45 = .ok (.aload_n 2, 1) := by decide +kernel
theorem dX6_run_46 : decode cX6_run 46 = .ok (.iload 4, 2) := by decide +kernel
theorem dX6_run_48 : decode cX6_run 48 = .ok (.invokevirtual 62, 3) := by decide +kernel
theorem dX6_run_51 : decode cX6_run 51 = .ok (.iinc 4 1, 3) := by decide +kernel
theorem dX6_run_54 : decode cX6_run 54 = .ok (.goto (-19), 3) := by decide +kernel
theorem dX6_run_57 : decode cX6_run 57 = .ok (.aload_n 0, 1) := by decide +kernel
theorem dX6_run_58 : decode cX6_run 58 = .ok (.aload_n 1, 1) := by decide +kernel
theorem dX6_run_59 : decode cX6_run 59 = .ok (.invokevirtual 66, 3) := by decide +kernel
theorem dX6_run_62 : decode cX6_run 62 = .ok (.aload_n 0, 1) := by decide +kernel
theorem dX6_run_63 : decode cX6_run 63 = .ok (.aload_n 1, 1) := by decide +kernel
theorem dX6_run_64 : decode cX6_run 64 = .ok (.iconst 0, 1) := by decide +kernel
theorem dX6_run_65 : decode cX6_run 65 = .ok (.iconst 0, 1) := by decide +kernel
theorem dX6_run_66 : decode cX6_run 66 = .ok (.invokevirtual 70, 3) := by decide +kernel
theorem dX6_run_69 : decode cX6_run 69 = .ok (.return_, 1) := by decide +kernel
theorem dX6_sum_0 : decode cX6_sum 0 = .ok (.aload_n 0, 1) := by decide +kernel
theorem dX6_sum_1 : decode cX6_sum 1 = .ok (.getfield 48, 3) := by decide +kernel
theorem dX6_sum_4 : decode cX6_sum 4 = .ok (.ireturn, 1) := by decide +kernel
theorem dX6_point_0 : decode cX6_point 0 = .ok (.iload_n 1, 1) := by decide +kernel
theorem dX6_point_1 : decode cX6_point 1 = .ok (.ifCond .lt 20, 3) := by decide +kernel
theorem dX6_point_4 : decode cX6_point 4 = .ok (.iload_n 1, 1) := by decide +kernel
theorem dX6_point_5 : decode cX6_point 5 = .ok (.aload_n 0, 1) := by decide +kernel
theorem dX6_point_6 : decode cX6_point 6 = .ok (.getfield 36, 3) := by decide +kernel
theorem dX6_point_9 : decode cX6_point 9 = .ok (.if_icmp .ge 12, 3) := by decide +kernel
theorem dX6_point_12 : decode cX6_point 12 = .ok (.aload_n 0, 1) := by decide +kernel
theorem dX6_point_13 : decode cX6_point 13 = .ok (.getfield 27, 3) := by decide +kernel
theorem dX6_point_16 : decode cX6_point 16 = .ok (.iload_n 1, 1) := by decide +kernel
theorem dX6_point_17 : decode cX6_point 17 = .ok (.iaload, 1) := by decide +kernel
theorem dX6_point_18 : decode cX6_point 18 = .ok (.goto 5, 3) := by decide +kernel
theorem dX6_point_21 : decode cX6_point 21 = .ok (.bipush (-9), 2) := by decide +kernel
theorem dX6_point_23 : decode cX6_point 23 = .ok (.ireturn, 1) := by decide +kernel
set_option maxRecDepth 20000 in
theorem ggX6_lookAhead_X0_drawnFrom : GoodIn wsX6_lookAhead wsX0_drawnFrom := goodIn_r _ [8, 9, 31, 32, 33, 34, 35, 36, 37, 38] (by decide +kernel) (by decide +kernel)
set_option maxRecDepth 20000 in
theorem gX6_lookAhead_X0_drawnFrom : GoodIn wsX6_lookAhead (wsV RX6 74 RX0 yX0_drawnFrom wsX0_drawnFrom) := goodIn_app (goodIn_of _ (by decide +kernel)) ggX6_lookAhead_X0_drawnFrom
set_option maxRecDepth 20000 in
theorem ggX6_lookAhead_X0_hangs : GoodIn wsX6_lookAhead wsX0_hangs := goodIn_r _ [13, 14, 31, 32, 33, 34, 35, 36, 37, 38] (by decide +kernel) (by decide +kernel)
set_option maxRecDepth 20000 in
theorem gX6_lookAhead_X0_hangs : GoodIn wsX6_lookAhead (wsV RX6 78 RX0 yX0_hangs wsX0_hangs) := goodIn_app (goodIn_of _ (by decide +kernel)) ggX6_lookAhead_X0_hangs
set_option maxRecDepth 20000 in
theorem ggX6_lookAhead_X0_gradeOf : GoodIn wsX6_lookAhead wsX0_gradeOf := goodIn_r _ [18, 19, 20, 21, 31, 32, 33, 34, 35, 36, 37, 38] (by decide +kernel) (by decide +kernel)
set_option maxRecDepth 20000 in
theorem gX6_lookAhead_X0_gradeOf : GoodIn wsX6_lookAhead (wsV RX6 82 RX0 yX0_gradeOf wsX0_gradeOf) := goodIn_app (goodIn_of _ (by decide +kernel)) ggX6_lookAhead_X0_gradeOf
theorem dX6_lookAhead_0 : decode cX6_lookAhead 0 = .ok (.aload_n 0, 1) := by decide +kernel
theorem dX6_lookAhead_1 : decode cX6_lookAhead 1 = .ok (.getfield 15, 3) := by decide +kernel
theorem dX6_lookAhead_4 : decode cX6_lookAhead 4 = .ok (.iload_n 2, 1) := by decide +kernel
theorem dX6_lookAhead_5 : decode cX6_lookAhead 5 = .ok (.aload_n 1, 1) := by decide +kernel
theorem dX6_lookAhead_6 : decode cX6_lookAhead 6 = .ok (.iload_n 2, 1) := by decide +kernel
theorem dX6_lookAhead_7 : decode cX6_lookAhead 7 = .ok (.invokevirtual 74, 3) := by decide +kernel
theorem dX6_lookAhead_10 : decode cX6_lookAhead 10 = .ok (.iastore, 1) := by decide +kernel
theorem dX6_lookAhead_11 : decode cX6_lookAhead 11 = .ok (.aload_n 0, 1) := by decide +kernel
theorem dX6_lookAhead_12 : decode cX6_lookAhead 12 = .ok (.getfield 18, 3) := by decide +kernel
theorem dX6_lookAhead_15 : decode cX6_lookAhead 15 = .ok (.iload_n 2, 1) := by decide +kernel
theorem dX6_lookAhead_16 : decode cX6_lookAhead 16 = .ok (.iconst 0, 1) := by decide +kernel
theorem dX6_lookAhead_17 : decode cX6_lookAhead 17 = .ok (.iastore, 1) := by decide +kernel
theorem dX6_lookAhead_18 : decode cX6_lookAhead 18 = .ok (.iconst 0, 1) := by decide +kernel
theorem dX6_lookAhead_19 : decode cX6_lookAhead 19 = .ok (.istore_n 3, 1) := by decide +kernel
theorem dX6_lookAhead_20 : decode cX6_lookAhead 20 = .ok (.iload_n 3, 1) := by decide +kernel
theorem dX6_lookAhead_21 : decode cX6_lookAhead 21 = .ok (.iconst 4, 1) := by decide +kernel
theorem dX6_lookAhead_22 : decode cX6_lookAhead 22 = .ok (.if_icmp .ge 38, 3) := by decide +kernel
theorem dX6_lookAhead_25 : decode cX6_lookAhead 25 = .ok (.aload_n 0, 1) := by decide +kernel
theorem dX6_lookAhead_26 : decode cX6_lookAhead 26 = .ok (.getfield 9, 3) := by decide +kernel
theorem dX6_lookAhead_29 : decode cX6_lookAhead 29 = .ok (.iload_n 2, 1) := by decide +kernel
theorem dX6_lookAhead_30 : decode cX6_lookAhead 30 = .ok (.iconst 4, 1) := by decide +kernel
theorem dX6_lookAhead_31 : decode cX6_lookAhead 31 = .ok (.imul, 1) := by decide +kernel
theorem dX6_lookAhead_32 : decode cX6_lookAhead 32 = .ok (.iload_n 3, 1) := by decide +kernel
theorem dX6_lookAhead_33 : decode cX6_lookAhead 33 = .ok (.iadd, 1) := by decide +kernel
theorem dX6_lookAhead_34 : decode cX6_lookAhead 34 = .ok (.aload_n 1, 1) := by decide +kernel
theorem dX6_lookAhead_35 : decode cX6_lookAhead 35 = .ok (.iload_n 2, 1) := by decide +kernel
theorem dX6_lookAhead_36 : decode cX6_lookAhead 36 = .ok (.invokevirtual 78, 3) := by decide +kernel
theorem dX6_lookAhead_39 : decode cX6_lookAhead 39 = .ok (.ifCond .eq 8, 3) := by decide +kernel
theorem dX6_lookAhead_42 : decode cX6_lookAhead 42 = .ok (.bipush (-9), 2) := by decide +kernel
theorem dX6_lookAhead_44 : decode cX6_lookAhead 44 = .ok (.goto 9, 3) := by decide +kernel
theorem dX6_lookAhead_47 : decode cX6_lookAhead 47 = .ok (.aload_n 1, 1) := by decide +kernel
theorem dX6_lookAhead_48 : decode cX6_lookAhead 48 = .ok (.iload_n 2, 1) := by decide +kernel
theorem dX6_lookAhead_49 : decode cX6_lookAhead 49 = .ok (.iload_n 3, 1) := by decide +kernel
theorem dX6_lookAhead_50 : decode cX6_lookAhead 50 = .ok (.invokevirtual 82, 3) := by decide +kernel
theorem dX6_lookAhead_53 : decode cX6_lookAhead 53 = .ok (.iastore, 1) := by decide +kernel
theorem dX6_lookAhead_54 : decode cX6_lookAhead 54 = .ok (.iinc 3 1, 3) := by decide +kernel
theorem dX6_lookAhead_57 : decode cX6_lookAhead 57 = .ok (.goto (-37), 3) := by decide +kernel
theorem dX6_lookAhead_60 : decode cX6_lookAhead 60 = .ok (.return_, 1) := by decide +kernel
set_option maxRecDepth 20000 in
theorem ggX6_boundSteps_J7_fill_53178 : GoodIn wsX6_boundSteps wsJ7_fill_53178 := goodIn_r _ [11] (by decide +kernel) (by decide +kernel)
set_option maxRecDepth 20000 in
theorem gX6_boundSteps_J7_fill_53178 : GoodIn wsX6_boundSteps (va_wsS RX6 51 yJ7_fill_53178 wsJ7_fill_53178) := goodIn_app (goodIn_of _ (by decide +kernel)) ggX6_boundSteps_J7_fill_53178
set_option maxRecDepth 20000 in
theorem ggX6_boundSteps_X2_size : GoodIn wsX6_boundSteps wsX2_size := goodIn_r _ [16, 17, 27, 28, 29, 30, 31] (by decide +kernel) (by decide +kernel)
set_option maxRecDepth 20000 in
theorem gX6_boundSteps_X2_size : GoodIn wsX6_boundSteps (wsV RX6 57 RX2 yX2_size wsX2_size) := goodIn_app (goodIn_of _ (by decide +kernel)) ggX6_boundSteps_X2_size
theorem dX6_boundSteps_0 : decode cX6_boundSteps 0 = .ok (.aload_n 0, 1) := by decide +kernel
theorem dX6_boundSteps_1 : decode cX6_boundSteps 1 = .ok (.getfield 21, 3) := by decide +kernel
theorem dX6_boundSteps_4 : decode cX6_boundSteps 4 = .ok (.iconst 0, 1) := by decide +kernel
theorem dX6_boundSteps_5 : decode cX6_boundSteps 5 = .ok (.invokestatic 51, 3) := by decide +kernel
theorem dX6_boundSteps_8 : decode cX6_boundSteps 8 = .ok (.iconst 0, 1) := by decide +kernel
theorem dX6_boundSteps_9 : decode cX6_boundSteps 9 = .ok (.istore_n 2, 1) := by decide +kernel
theorem dX6_boundSteps_10 : decode cX6_boundSteps 10 = .ok (.iconst 0, 1) := by decide +kernel
theorem dX6_boundSteps_11 : decode cX6_boundSteps 11 = .ok (.istore_n 3, 1) := by decide +kernel
theorem dX6_boundSteps_12 : decode cX6_boundSteps 12 = .ok (.iload_n 3, 1) := by decide +kernel
theorem dX6_boundSteps_13 : decode cX6_boundSteps 13 = .ok (.aload_n 0, 1) := by decide +kernel
theorem dX6_boundSteps_14 : decode cX6_boundSteps 14 = .ok (.getfield 36, 3) := by decide +kernel
theorem dX6_boundSteps_17 : decode cX6_boundSteps 17 = .ok (.if_icmp .ge 69, 3) := by decide +kernel
theorem dX6_boundSteps_20 : decode cX6_boundSteps 20 = .ok (.iconst 0, 1) := by decide +kernel
theorem dX6_boundSteps_21 : decode cX6_boundSteps 21 = .ok (.istore 4, 2) := by decide +kernel
theorem dX6_boundSteps_23 : decode cX6_boundSteps 23 = .ok (.iload 4, 2) := by decide +kernel
theorem dX6_boundSteps_25 : decode cX6_boundSteps 25 = .ok (.aload_n 1, 1) := by decide +kernel
theorem dX6_boundSteps_26 : decode cX6_boundSteps 26 = .ok (.invokevirtual 57, 3) := by decide +kernel
theorem dX6_boundSteps_29 : decode cX6_boundSteps 29 = .ok (.if_icmp .ge 25, 3) := by decide +kernel
theorem dX6_boundSteps_32 : decode cX6_boundSteps 32 = .ok (.iload_n 2, 1) := by decide +kernel
theorem dX6_boundSteps_33 : decode cX6_boundSteps 33 = .ok (.aload_n 0, 1) := by decide +kernel
theorem dX6_boundSteps_34 : decode cX6_boundSteps 34 = .ok (.getfield 9, 3) := by decide +kernel
theorem dX6_boundSteps_37 : decode cX6_boundSteps 37 = .ok (.iload 4, 2) := by decide +kernel
theorem dX6_boundSteps_39 : decode cX6_boundSteps 39 = .ok (.iconst 4, 1) := by decide +kernel
theorem dX6_boundSteps_40 : decode cX6_boundSteps 40 = .ok (.imul, 1) := by decide +kernel
theorem dX6_boundSteps_41 : decode cX6_boundSteps 41 = .ok (.iload_n 3, 1) := by decide +kernel
theorem dX6_boundSteps_42 : decode cX6_boundSteps 42 = .ok (.iadd, 1) := by decide +kernel
theorem dX6_boundSteps_43 : decode cX6_boundSteps 43 = .ok (.iaload, 1) := by decide +kernel
theorem dX6_boundSteps_44 : decode cX6_boundSteps 44 = .ok (.invokestatic 85, 3) := by decide +kernel
theorem dX6_boundSteps_47 : decode cX6_boundSteps 47 = .ok (.istore_n 2, 1) := by decide +kernel
theorem dX6_boundSteps_48 : decode cX6_boundSteps 48 = .ok (.iinc 4 1, 3) := by decide +kernel
theorem dX6_boundSteps_51 : decode cX6_boundSteps 51 = .ok (.goto (-28), 3) := by decide +kernel
theorem dX6_boundSteps_54 : decode cX6_boundSteps 54 = .ok (.iconst 0, 1) := by decide +kernel
theorem dX6_boundSteps_55 : decode cX6_boundSteps 55 = .ok (.istore 4, 2) := by decide +kernel
theorem dX6_boundSteps_57 : decode cX6_boundSteps 57 = .ok (.iload 4, 2) := by decide +kernel
theorem dX6_boundSteps_59 : decode cX6_boundSteps 59 = .ok (.iload_n 3, 1) := by decide +kernel
theorem dX6_boundSteps_60 : decode cX6_boundSteps 60 = .ok (.if_icmp .gt 20, 3) := by decide +kernel
theorem dX6_boundSteps_63 : decode cX6_boundSteps 63 = .ok (.aload_n 0, 1) := by decide +kernel
theorem dX6_boundSteps_64 : decode cX6_boundSteps 64 = .ok (.getfield 21, 3) := by decide +kernel
theorem dX6_boundSteps_67 : decode cX6_boundSteps 67 = .ok (.iload 4, 2) := by decide +kernel
theorem dX6_boundSteps_69 : decode cX6_boundSteps 69 = .ok (.dup2, 1) := by decide +kernel
theorem dX6_boundSteps_70 : decode cX6_boundSteps 70 = .ok (.iaload, 1) := by decide +kernel
theorem dX6_boundSteps_71 : decode cX6_boundSteps 71 = .ok (.iload_n 2, 1) := by decide +kernel
theorem dX6_boundSteps_72 : decode cX6_boundSteps 72 = .ok (.iadd, 1) := by decide +kernel
theorem dX6_boundSteps_73 : decode cX6_boundSteps 73 = .ok (.iastore, 1) := by decide +kernel
theorem dX6_boundSteps_74 : decode cX6_boundSteps 74 = .ok (.iinc 4 1, 3) := by decide +kernel
theorem dX6_boundSteps_77 : decode cX6_boundSteps 77 = .ok (.goto (-20), 3) := by decide +kernel
theorem dX6_boundSteps_80 : decode cX6_boundSteps 80 = .ok (.iinc 3 1, 3) := by decide +kernel
theorem dX6_boundSteps_83 : decode cX6_boundSteps 83 = .ok (.goto (-71), 3) := by decide +kernel
theorem dX6_boundSteps_86 : decode cX6_boundSteps 86 = .ok (.return_, 1) := by decide +kernel
set_option maxRecDepth 20000 in
theorem ggX6_extend_X6_keepIfBetter : GoodIn wsX6_extend wsX6_keepIfBetter := goodIn_r _ [8, 3, 9, 10, 1, 11, 12, 13, 14, 46, 47, 48, 49, 50, 51, 52, 53, 54] (by decide +kernel) (by decide +kernel)
set_option maxRecDepth 20000 in
theorem gX6_extend_X6_keepIfBetter : GoodIn wsX6_extend (wsV RX6 88 RX6 yX6_keepIfBetter wsX6_keepIfBetter) := goodIn_app (goodIn_of _ (by decide +kernel)) ggX6_extend_X6_keepIfBetter
set_option maxRecDepth 20000 in
theorem ggX6_extend_X2_size : GoodIn wsX6_extend wsX2_size := goodIn_r _ [19, 20, 55, 56, 57, 58, 59] (by decide +kernel) (by decide +kernel)
set_option maxRecDepth 20000 in
theorem gX6_extend_X2_size : GoodIn wsX6_extend (wsV RX6 57 RX2 yX2_size wsX2_size) := goodIn_app (goodIn_of _ (by decide +kernel)) ggX6_extend_X2_size
set_option maxRecDepth 20000 in
theorem ggX6_extend_X6_extendFrom : GoodIn wsX6_extend wsX6_extendFrom := goodIn_r _ [24, 25, 26, 9, 27, 28, 29, 30, 7, 31, 32, 33, 34, 35, 18, 36, 37, 38, 39, 40, 41, 42, 43, 44, 45, 0, 1, 2, 3, 4, 5, 6, 8, 10, 11, 12, 13, 14, 15, 16, 17, 19, 20, 21, 22, 23, 46, 47, 48, 49, 50, 51, 52, 53, 54, 55, 56, 57, 58, 59] (by decide +kernel) (by decide +kernel)
set_option maxRecDepth 20000 in
theorem gX6_extend_X6_extendFrom : GoodIn wsX6_extend (wsV RX6 92 RX6 yX6_extendFrom wsX6_extendFrom) := goodIn_app (goodIn_of _ (by decide +kernel)) ggX6_extend_X6_extendFrom
theorem dX6_extend_0 : decode cX6_extend 0 = .ok (.iload_n 2, 1) := by decide +kernel
theorem dX6_extend_1 : decode cX6_extend 1 = .ok (.aload_n 0, 1) := by decide +kernel
theorem dX6_extend_2 : decode cX6_extend 2 = .ok (.getfield 36, 3) := by decide +kernel
theorem dX6_extend_5 : decode cX6_extend 5 = .ok (.if_icmp .lt 9, 3) := by decide +kernel
theorem dX6_extend_8 : decode cX6_extend 8 = .ok (.aload_n 0, 1) := by decide +kernel
theorem dX6_extend_9 : decode cX6_extend 9 = .ok (.iload_n 3, 1) := by decide +kernel
theorem dX6_extend_10 : decode cX6_extend 10 = .ok (.invokevirtual 88, 3) := by decide +kernel
theorem dX6_extend_13 : decode cX6_extend 13 = .ok (.return_, 1) := by decide +kernel
theorem dX6_extend_14 : decode cX6_extend 14 = .ok (.iload_n 3, 1) := by decide +kernel
theorem dX6_extend_15 : decode cX6_extend 15 = .ok (.aload_n 0, 1) := by decide +kernel
theorem dX6_extend_16 : decode cX6_extend 16 = .ok (.getfield 21, 3) := by decide +kernel
theorem dX6_extend_19 : decode cX6_extend 19 = .ok (.iload_n 2, 1) := by decide +kernel
theorem dX6_extend_20 : decode cX6_extend 20 = .ok (.iaload, 1) := by decide +kernel
theorem dX6_extend_21 : decode cX6_extend 21 = .ok (.iadd, 1) := by decide +kernel
theorem dX6_extend_22 : decode cX6_extend 22 = .ok (.aload_n 0, 1) := by decide +kernel
theorem dX6_extend_23 : decode cX6_extend 23 = .ok (.getfield 48, 3) := by decide +kernel
theorem dX6_extend_26 : decode cX6_extend 26 = .ok (.if_icmp .gt 4, 3) := by decide +kernel
theorem dX6_extend_29 : decode cX6_extend 29 = .ok (.return_, 1) := by decide +kernel
theorem dX6_extend_30 : decode cX6_extend 30 = .ok (.iconst 0, 1) := by decide +kernel
theorem dX6_extend_31 : decode cX6_extend 31 = .ok (.istore 4, 2) := by decide +kernel
theorem dX6_extend_33 : decode cX6_extend 33 = .ok (.iload 4, 2) := by decide +kernel
theorem dX6_extend_35 : decode cX6_extend 35 = .ok (.aload_n 1, 1) := by decide +kernel
theorem dX6_extend_36 : decode cX6_extend 36 = .ok (.invokevirtual 57, 3) := by decide +kernel
theorem dX6_extend_39 : decode cX6_extend 39 = .ok (.if_icmp .ge 18, 3) := by decide +kernel
theorem dX6_extend_42 : decode cX6_extend 42 = .ok (.aload_n 0, 1) := by decide +kernel
theorem dX6_extend_43 : decode cX6_extend 43 = .ok (.aload_n 1, 1) := by decide +kernel
theorem dX6_extend_44 : decode cX6_extend 44 = .ok (.iload 4, 2) := by decide +kernel
theorem dX6_extend_46 : decode cX6_extend 46 = .ok (.iload_n 2, 1) := by decide +kernel
theorem dX6_extend_47 : decode cX6_extend 47 = .ok (.iload_n 3, 1) := by decide +kernel
theorem dX6_extend_48 : decode cX6_extend 48 = .ok (.invokevirtual 92, 3) := by decide +kernel
theorem dX6_extend_51 : decode cX6_extend 51 = .ok (.iinc 4 1, 3) := by decide +kernel
theorem dX6_extend_54 : decode cX6_extend 54 = .ok (.goto (-21), 3) := by decide +kernel
theorem dX6_extend_57 : decode cX6_extend 57 = .ok (.return_, 1) := by decide +kernel
set_option maxRecDepth 20000 in
theorem ggX6_extendFrom_X6_gradeNow : GoodIn wsX6_extendFrom wsX6_gradeNow := goodIn_r _ [9, 4, 10, 46, 47, 48, 49, 50, 51, 52, 53, 54] (by decide +kernel) (by decide +kernel)
set_option maxRecDepth 20000 in
theorem gX6_extendFrom_X6_gradeNow : GoodIn wsX6_extendFrom (wsV RX6 96 RX6 yX6_gradeNow wsX6_gradeNow) := goodIn_app (goodIn_of _ (by decide +kernel)) ggX6_extendFrom_X6_gradeNow
set_option maxRecDepth 20000 in
theorem ggX6_extendFrom_X2_room : GoodIn wsX6_extendFrom wsX2_room := goodIn_r _ [15, 16, 17, 18, 19, 20, 21, 55, 56, 57, 58, 59] (by decide +kernel) (by decide +kernel)
set_option maxRecDepth 20000 in
theorem gX6_extendFrom_X2_room : GoodIn wsX6_extendFrom (wsV RX6 99 RX2 yX2_room wsX2_room) := goodIn_app (goodIn_of _ (by decide +kernel)) ggX6_extendFrom_X2_room
set_option maxRecDepth 20000 in
theorem ggX6_extendFrom_X6_extend : GoodIn wsX6_extendFrom wsX6_extend := goodIn_r _ [25, 26, 27, 28, 29, 30, 31, 8, 32, 3, 33, 34, 35, 36, 37, 38, 39, 40, 14, 41, 42, 43, 44, 45, 0, 1, 2, 4, 5, 6, 7, 9, 10, 11, 12, 13, 15, 16, 17, 18, 19, 20, 21, 22, 23, 24, 46, 47, 48, 49, 50, 51, 52, 53, 54, 55, 56, 57, 58, 59] (by decide +kernel) (by decide +kernel)
set_option maxRecDepth 20000 in
theorem gX6_extendFrom_X6_extend : GoodIn wsX6_extendFrom (wsV RX6 70 RX6 yX6_extend wsX6_extend) := goodIn_app (goodIn_of _ (by decide +kernel)) ggX6_extendFrom_X6_extend
theorem dX6_extendFrom_0 : decode cX6_extendFrom 0 = .ok (.aload_n 0, 1) := by decide +kernel
theorem dX6_extendFrom_1 : decode cX6_extendFrom 1 = .ok (.iload_n 2, 1) := by decide +kernel
theorem dX6_extendFrom_2 : decode cX6_extendFrom 2 = .ok (.invokevirtual 96, 3) := by decide +kernel
theorem dX6_extendFrom_5 : decode cX6_extendFrom 5 = .ok (.istore 5, 2) := by decide +kernel
theorem dX6_extendFrom_7 : decode cX6_extendFrom 7 = .ok (.iload 5, 2) := by decide +kernel
theorem dX6_extendFrom_9 : decode cX6_extendFrom 9 = .ok (.bipush (-9), 2) := by decide +kernel
theorem dX6_extendFrom_11 : decode cX6_extendFrom 11 = .ok (.if_icmp .eq 19, 3) := by decide +kernel
theorem dX6_extendFrom_14 : decode cX6_extendFrom 14 = .ok (.aload_n 1, 1) := by decide +kernel
theorem dX6_extendFrom_15 : decode cX6_extendFrom 15 = .ok (.iload_n 2, 1) := by decide +kernel
theorem dX6_extendFrom_16 : decode cX6_extendFrom 16 = .ok (.aload_n 0, 1) := by decide +kernel
theorem dX6_extendFrom_17 : decode cX6_extendFrom 17 = .ok (.getfield 15, 3) := by decide +kernel
theorem dX6_extendFrom_20 : decode cX6_extendFrom 20 = .ok (.aload_n 0, 1) := by decide +kernel
theorem dX6_extendFrom_21 : decode cX6_extendFrom 21 = .ok (.getfield 46, 3) := by decide +kernel
theorem dX6_extendFrom_24 : decode cX6_extendFrom 24 = .ok (.invokevirtual 99, 3) := by decide +kernel
theorem dX6_extendFrom_27 : decode cX6_extendFrom 27 = .ok (.ifCond .gt 4, 3) := by decide +kernel
theorem dX6_extendFrom_30 : decode cX6_extendFrom 30 = .ok (.return_, 1) := by decide +kernel
theorem dX6_extendFrom_31 : decode cX6_extendFrom 31 = .ok (.aload_n 0, 1) := by decide +kernel
theorem dX6_extendFrom_32 : decode cX6_extendFrom 32 = .ok (.getfield 24, 3) := by decide +kernel
theorem dX6_extendFrom_35 : decode cX6_extendFrom 35 = .ok (.iload_n 3, 1) := by decide +kernel
theorem dX6_extendFrom_36 : decode cX6_extendFrom 36 = .ok (.iload_n 2, 1) := by decide +kernel
theorem dX6_extendFrom_37 : decode cX6_extendFrom 37 = .ok (.iastore, 1) := by decide +kernel
theorem dX6_extendFrom_38 : decode cX6_extendFrom 38 = .ok (.aload_n 0, 1) := by decide +kernel
theorem dX6_extendFrom_39 : decode cX6_extendFrom 39 = .ok (.getfield 18, 3) := by decide +kernel
theorem dX6_extendFrom_42 : decode cX6_extendFrom 42 = .ok (.iload_n 2, 1) := by decide +kernel
theorem dX6_extendFrom_43 : decode cX6_extendFrom 43 = .ok (.dup2, 1) := by decide +kernel
theorem dX6_extendFrom_44 : decode cX6_extendFrom 44 = .ok (.iaload, 1) := by decide +kernel
theorem dX6_extendFrom_45 : decode cX6_extendFrom 45 = .ok (.iconst 1, 1) := by decide +kernel
theorem dX6_extendFrom_46 : decode cX6_extendFrom 46 = .ok (.iadd, 1) := by decide +kernel
theorem dX6_extendFrom_47 : decode cX6_extendFrom 47 = .ok (.iastore, 1) := by decide +kernel
theorem dX6_extendFrom_48 : decode cX6_extendFrom 48 = .ok (.aload_n 0, 1) := by decide +kernel
theorem dX6_extendFrom_49 : decode cX6_extendFrom 49 = .ok (.getfield 15, 3) := by decide +kernel
theorem dX6_extendFrom_52 : decode cX6_extendFrom 52 = .ok (.iload_n 2, 1) := by decide +kernel
theorem dX6_extendFrom_53 : decode cX6_extendFrom 53 = .ok (.dup2, 1) := by decide +kernel
theorem dX6_extendFrom_54 : decode cX6_extendFrom 54 = .ok (.iaload, 1) := by decide +kernel
theorem dX6_extendFrom_55 : decode cX6_extendFrom 55 = .ok (.iconst 1, 1) := by decide +kernel
theorem dX6_extendFrom_56 : decode cX6_extendFrom 56 = .ok (.iadd, 1) := by decide +kernel
theorem dX6_extendFrom_57 : decode cX6_extendFrom 57 = .ok (.iastore, 1) := by decide +kernel
theorem dX6_extendFrom_58 : decode cX6_extendFrom 58 = .ok (.aload_n 0, 1) := by decide +kernel
theorem dX6_extendFrom_59 : decode cX6_extendFrom 59 = .ok (.aload_n 1, 1) := by decide +kernel
theorem dX6_extendFrom_60 : decode cX6_extendFrom 60 = .ok (.iload_n 3, 1) := by decide +kernel
theorem dX6_extendFrom_61 : decode cX6_extendFrom 61 = .ok (.iconst 1, 1) := by decide +kernel
theorem dX6_extendFrom_62 : decode cX6_extendFrom 62 = .ok (.iadd, 1) := by decide +kernel
theorem dX6_extendFrom_63 : decode cX6_extendFrom 63 = .ok (.iload 4, 2) := by decide +kernel
theorem dX6_extendFrom_65 : decode cX6_extendFrom 65 = .ok (.iload 5, 2) := by decide +kernel
theorem dX6_extendFrom_67 : decode cX6_extendFrom 67 = .ok (.iadd, 1) := by decide +kernel
theorem dX6_extendFrom_68 : decode cX6_extendFrom 68 = .ok (.invokevirtual 70, 3) := by decide +kernel
theorem dX6_extendFrom_71 : decode cX6_extendFrom 71 = .ok (.aload_n 0, 1) := by decide +kernel
theorem dX6_extendFrom_72 : decode cX6_extendFrom 72 = .ok (.getfield 18, 3) := by decide +kernel
theorem dX6_extendFrom_75 : decode cX6_extendFrom 75 = .ok (.iload_n 2, 1) := by decide +kernel
theorem dX6_extendFrom_76 : decode cX6_extendFrom 76 = .ok (.dup2, 1) := by decide +kernel
theorem dX6_extendFrom_77 : decode cX6_extendFrom 77 = .ok (.iaload, 1) := by decide +kernel
theorem dX6_extendFrom_78 : decode cX6_extendFrom 78 = .ok (.iconst 1, 1) := by decide +kernel
theorem dX6_extendFrom_79 : decode cX6_extendFrom 79 = .ok (.isub, 1) := by decide +kernel
theorem dX6_extendFrom_80 : decode cX6_extendFrom 80 = .ok (.iastore, 1) := by decide +kernel
theorem dX6_extendFrom_81 : decode cX6_extendFrom 81 = .ok (.aload_n 0, 1) := by decide +kernel
theorem dX6_extendFrom_82 : decode cX6_extendFrom 82 = .ok (.getfield 15, 3) := by decide +kernel
theorem dX6_extendFrom_85 : decode cX6_extendFrom 85 = .ok (.iload_n 2, 1) := by decide +kernel
theorem dX6_extendFrom_86 : decode cX6_extendFrom 86 = .ok (.dup2, 1) := by decide +kernel
theorem dX6_extendFrom_87 : decode cX6_extendFrom 87 = .ok (.iaload, 1) := by decide +kernel
theorem dX6_extendFrom_88 : decode cX6_extendFrom 88 = .ok (.iconst 1, 1) := by decide +kernel
theorem dX6_extendFrom_89 : decode cX6_extendFrom 89 = .ok (.isub, 1) := by decide +kernel
theorem dX6_extendFrom_90 : decode cX6_extendFrom 90 = .ok (.iastore, 1) := by decide +kernel
theorem dX6_extendFrom_91 : decode cX6_extendFrom 91 = .ok (.return_, 1) := by decide +kernel
theorem dX6_gradeNow_0 : decode cX6_gradeNow 0 = .ok (.aload_n 0, 1) := by decide +kernel
theorem dX6_gradeNow_1 : decode cX6_gradeNow 1 = .ok (.getfield 18, 3) := by decide +kernel
theorem dX6_gradeNow_4 : decode cX6_gradeNow 4 = .ok (.iload_n 1, 1) := by decide +kernel
theorem dX6_gradeNow_5 : decode cX6_gradeNow 5 = .ok (.iaload, 1) := by decide +kernel
theorem dX6_gradeNow_6 : decode cX6_gradeNow 6 = .ok (.istore_n 2, 1) := by decide +kernel
theorem dX6_gradeNow_7 : decode cX6_gradeNow 7 = .ok (.iload_n 2, 1) := by decide +kernel
theorem dX6_gradeNow_8 : decode cX6_gradeNow 8 = .ok (.iconst 4, 1) := by decide +kernel
theorem dX6_gradeNow_9 : decode cX6_gradeNow 9 = .ok (.if_icmp .ge 16, 3) := by decide +kernel
theorem dX6_gradeNow_12 : decode cX6_gradeNow 12 = .ok (.aload_n 0, 1) := by decide +kernel
theorem dX6_gradeNow_13 : decode cX6_gradeNow 13 = .ok (.getfield 9, 3) := by decide +kernel
theorem dX6_gradeNow_16 : decode cX6_gradeNow 16 = .ok (.iload_n 1, 1) := by decide +kernel
theorem dX6_gradeNow_17 : decode cX6_gradeNow 17 = .ok (.iconst 4, 1) := by decide +kernel
theorem dX6_gradeNow_18 : decode cX6_gradeNow 18 = .ok (.imul, 1) := by decide +kernel
theorem dX6_gradeNow_19 : decode cX6_gradeNow 19 = .ok (.iload_n 2, 1) := by decide +kernel
theorem dX6_gradeNow_20 : decode cX6_gradeNow 20 = .ok (.iadd, 1) := by decide +kernel
theorem dX6_gradeNow_21 : decode cX6_gradeNow 21 = .ok (.iaload, 1) := by decide +kernel
theorem dX6_gradeNow_22 : decode cX6_gradeNow 22 = .ok (.goto 5, 3) := by decide +kernel
theorem dX6_gradeNow_25 : decode cX6_gradeNow 25 = .ok (.bipush (-9), 2) := by decide +kernel
theorem dX6_gradeNow_27 : decode cX6_gradeNow 27 = .ok (.ireturn, 1) := by decide +kernel
theorem dX6_keepIfBetter_0 : decode cX6_keepIfBetter 0 = .ok (.iload_n 1, 1) := by decide +kernel
theorem dX6_keepIfBetter_1 : decode cX6_keepIfBetter 1 = .ok (.aload_n 0, 1) := by decide +kernel
theorem dX6_keepIfBetter_2 : decode cX6_keepIfBetter 2 = .ok (.getfield 48, 3) := by decide +kernel
theorem dX6_keepIfBetter_5 : decode cX6_keepIfBetter 5 = .ok (.if_icmp .le 25, 3) := by decide +kernel
theorem dX6_keepIfBetter_8 : decode cX6_keepIfBetter 8 = .ok (.aload_n 0, 1) := by decide +kernel
theorem dX6_keepIfBetter_9 : decode cX6_keepIfBetter 9 = .ok (.iload_n 1, 1) := by decide +kernel
theorem dX6_keepIfBetter_10 : decode cX6_keepIfBetter 10 = .ok (.putfield 48, 3) := by decide +kernel
theorem dX6_keepIfBetter_13 : decode cX6_keepIfBetter 13 = .ok (.aload_n 0, 1) := by decide +kernel
theorem dX6_keepIfBetter_14 : decode cX6_keepIfBetter 14 = .ok (.getfield 24, 3) := by decide +kernel
theorem dX6_keepIfBetter_17 : decode cX6_keepIfBetter 17 = .ok (.iconst 0, 1) := by decide +kernel
theorem dX6_keepIfBetter_18 : decode cX6_keepIfBetter 18 = .ok (.aload_n 0, 1) := by decide +kernel
theorem dX6_keepIfBetter_19 : decode cX6_keepIfBetter 19 = .ok (.getfield 27, 3) := by decide +kernel
theorem dX6_keepIfBetter_22 : decode cX6_keepIfBetter 22 = .ok (.iconst 0, 1) := by decide +kernel
theorem dX6_keepIfBetter_23 : decode cX6_keepIfBetter 23 = .ok (.aload_n 0, 1) := by decide +kernel
theorem dX6_keepIfBetter_24 : decode cX6_keepIfBetter 24 = .ok (.getfield 36, 3) := by decide +kernel
theorem dX6_keepIfBetter_27 : decode cX6_keepIfBetter 27 = .ok (.invokestatic 103, 3) := by decide +kernel
theorem dX6_keepIfBetter_30 : decode cX6_keepIfBetter 30 = .ok (.return_, 1) := by decide +kernel
set_option maxRecDepth 20000 in
theorem ggX7_init_X0_init : GoodIn wsX7_init wsX0_init := goodIn_r _ [11, 12, 2, 3, 13, 14, 15, 16, 17, 20, 21, 22, 23, 24, 25, 26, 27] (by decide +kernel) (by decide +kernel)
set_option maxRecDepth 20000 in
theorem gX7_init_X0_init_n21 : GoodIn wsX7_init (wsX0_init) := ggX7_init_X0_init
theorem dX7_init_0 : decode cX7_init 0 = .ok (.aload_n 0, 1) := by decide +kernel
theorem dX7_init_1 : decode cX7_init 1 = .ok (.invokespecial 3, 3) := by decide +kernel
theorem dX7_init_4 : decode cX7_init 4 = .ok (.aload_n 0, 1) := by decide +kernel
theorem dX7_init_5 : decode cX7_init 5 = .ok (.iconst 2, 1) := by decide +kernel
theorem dX7_init_6 : decode cX7_init 6 = .ok (.anewarray 9, 3) := by decide +kernel
theorem dX7_init_9 : decode cX7_init 9 = .ok (.putfield 11, 3) := by decide +kernel
theorem dX7_init_12 : decode cX7_init 12 = .ok (.aload_n 0, 1) := by decide +kernel
theorem dX7_init_13 : decode cX7_init 13 = .ok (.iconst 2, 1) := by decide +kernel
theorem dX7_init_14 : decode cX7_init 14 = .ok (.newarray .boolean, 2) := by decide +kernel
theorem dX7_init_16 : decode cX7_init 16 = .ok (.putfield 17, 3) := by decide +kernel
theorem dX7_init_19 : decode cX7_init 19 = .ok (.iconst 0, 1) := by decide +kernel
theorem dX7_init_20 : decode cX7_init 20 = .ok (.istore_n 1, 1) := by decide +kernel
theorem dX7_init_21 : decode cX7_init 21 = .ok (.iload_n 1, 1) := by decide +kernel
theorem dX7_init_22 : decode cX7_init 22 = .ok (.iconst 2, 1) := by decide +kernel
theorem dX7_init_23 : decode cX7_init 23 = .ok (.if_icmp .ge 22, 3) := by decide +kernel
theorem dX7_init_26 : decode cX7_init 26 = .ok (.aload_n 0, 1) := by decide +kernel
theorem dX7_init_27 : decode cX7_init 27 = .ok (.getfield 11, 3) := by decide +kernel
theorem dX7_init_30 : decode cX7_init 30 = .ok (.iload_n 1, 1) := by decide +kernel
theorem dX7_init_31 : decode cX7_init 31 = .ok (.new 9, 3) := by decide +kernel
theorem dX7_init_34 : decode cX7_init 34 = .ok (.dup, 1) := by decide +kernel
theorem dX7_init_35 : decode cX7_init 35 = .ok (.invokespecial 21, 3) := by decide +kernel
theorem dX7_init_38 : decode cX7_init 38 = .ok (.aastore, 1) := by decide +kernel
theorem dX7_init_39 : decode cX7_init 39 = .ok (.iinc 1 1, 3) := by decide +kernel
theorem dX7_init_42 : decode cX7_init 42 = .ok (.goto (-21), 3) := by decide +kernel
theorem dX7_init_45 : decode cX7_init 45 = .ok (.return_, 1) := by decide +kernel
set_option maxRecDepth 20000 in
theorem ggX7_store_X0_become : GoodIn wsX7_store wsX0_become := goodIn_r _ [7, 8, 9, 10, 11, 12, 13, 14, 15, 16, 17, 18, 19, 22, 23, 24, 25, 26, 27, 28, 29] (by decide +kernel) (by decide +kernel)
set_option maxRecDepth 20000 in
theorem gX7_store_X0_become : GoodIn wsX7_store (wsV RX7 22 RX0 yX0_become wsX0_become) := goodIn_app (goodIn_of _ (by decide +kernel)) ggX7_store_X0_become
theorem dX7_store_0 : decode cX7_store 0 = .ok (.aload_n 0, 1) := by decide +kernel
theorem dX7_store_1 : decode cX7_store 1 = .ok (.getfield 11, 3) := by decide +kernel
theorem dX7_store_4 : decode cX7_store 4 = .ok (.iload_n 1, 1) := by decide +kernel
theorem dX7_store_5 : decode cX7_store 5 = .ok (.aaload, 1) := by decide +kernel
theorem dX7_store_6 : decode cX7_store 6 = .ok (.aload_n 2, 1) := by decide +kernel
theorem dX7_store_7 : decode cX7_store 7 = .ok (.invokevirtual 22, 3) := by decide +kernel
theorem dX7_store_10 : decode cX7_store 10 = .ok (.aload_n 0, 1) := by decide +kernel
theorem dX7_store_11 : decode cX7_store 11 = .ok (.getfield 17, 3) := by decide +kernel
theorem dX7_store_14 : decode cX7_store 14 = .ok (.iload_n 1, 1) := by decide +kernel
theorem dX7_store_15 : decode cX7_store 15 = .ok (.iconst 1, 1) := by decide +kernel
theorem dX7_store_16 : decode cX7_store 16 = .ok (.bastore, 1) := by decide +kernel
theorem dX7_store_17 : decode cX7_store 17 = .ok (.return_, 1) := by decide +kernel
theorem dX7_isFilled_0 : decode cX7_isFilled 0 = .ok (.aload_n 0, 1) := by decide +kernel
theorem dX7_isFilled_1 : decode cX7_isFilled 1 = .ok (.getfield 17, 3) := by decide +kernel
theorem dX7_isFilled_4 : decode cX7_isFilled 4 = .ok (.iload_n 1, 1) := by decide +kernel
theorem dX7_isFilled_5 : decode cX7_isFilled 5 = .ok (.baload, 1) := by decide +kernel
theorem dX7_isFilled_6 : decode cX7_isFilled 6 = .ok (.ireturn, 1) := by decide +kernel
set_option maxRecDepth 20000 in
theorem ggX7_fetch_X0_become : GoodIn wsX7_fetch wsX0_become := goodIn_r _ [6, 7, 8, 9, 10, 11, 12, 13, 14, 15, 16, 17, 18, 21, 22, 23, 24, 25, 26, 27, 28] (by decide +kernel) (by decide +kernel)
set_option maxRecDepth 20000 in
theorem gX7_fetch_X0_become : GoodIn wsX7_fetch (wsV RX7 22 RX0 yX0_become wsX0_become) := goodIn_app (goodIn_of _ (by decide +kernel)) ggX7_fetch_X0_become
theorem dX7_fetch_0 : decode cX7_fetch 0 = .ok (.aload_n 2, 1) := by decide +kernel
theorem dX7_fetch_1 : decode cX7_fetch 1 = .ok (.aload_n 0, 1) := by decide +kernel
theorem dX7_fetch_2 : decode cX7_fetch 2 = .ok (.getfield 11, 3) := by decide +kernel
theorem dX7_fetch_5 : decode cX7_fetch 5 = .ok (.iload_n 1, 1) := by decide +kernel
theorem dX7_fetch_6 : decode cX7_fetch 6 = .ok (.aaload, 1) := by decide +kernel
theorem dX7_fetch_7 : decode cX7_fetch 7 = .ok (.invokevirtual 22, 3) := by decide +kernel
theorem dX7_fetch_10 : decode cX7_fetch 10 = .ok (.return_, 1) := by decide +kernel
theorem dX7_forget_0 : decode cX7_forget 0 = .ok (.iconst 0, 1) := by decide +kernel
theorem dX7_forget_1 : decode cX7_forget 1 = .ok (.istore_n 1, 1) := by decide +kernel
theorem dX7_forget_2 : decode cX7_forget 2 = .ok (.iload_n 1, 1) := by decide +kernel
theorem dX7_forget_3 : decode cX7_forget 3 = .ok (.iconst 2, 1) := by decide +kernel
theorem dX7_forget_4 : decode cX7_forget 4 = .ok (.if_icmp .ge 16, 3) := by decide +kernel
theorem dX7_forget_7 : decode cX7_forget 7 = .ok (.aload_n 0, 1) := by decide +kernel
theorem dX7_forget_8 : decode cX7_forget 8 = .ok (.getfield 17, 3) := by decide +kernel
theorem dX7_forget_11 : decode cX7_forget 11 = .ok (.iload_n 1, 1) := by decide +kernel
theorem dX7_forget_12 : decode cX7_forget 12 = .ok (.iconst 0, 1) := by decide +kernel
theorem dX7_forget_13 : decode cX7_forget 13 = .ok (.bastore, 1) := by decide +kernel
theorem dX7_forget_14 : decode cX7_forget 14 = .ok (.iinc 1 1, 3) := by decide +kernel
theorem dX7_forget_17 : decode cX7_forget 17 = .ok (.goto (-15), 3) := by decide +kernel
theorem dX7_forget_20 : decode cX7_forget 20 = .ok (.return_, 1) := by decide +kernel
theorem dJ6_bitCount_0f7a4_0 : decode cJ6_bitCount_0f7a4 0 = .ok (.iload_n 0, 1) := by decide +kernel
theorem dJ6_bitCount_0f7a4_1 : decode cJ6_bitCount_0f7a4 1 = .ok (.iload_n 0, 1) := by decide +kernel
theorem dJ6_bitCount_0f7a4_2 : decode cJ6_bitCount_0f7a4 2 = .ok (.iconst 1, 1) := by decide +kernel
theorem dJ6_bitCount_0f7a4_3 : decode cJ6_bitCount_0f7a4 3 = .ok (.iushr, 1) := by decide +kernel
theorem dJ6_bitCount_0f7a4_4 : decode cJ6_bitCount_0f7a4 4 = .ok (.ldc_w 265, 3) := by decide +kernel
theorem dJ6_bitCount_0f7a4_7 : decode cJ6_bitCount_0f7a4 7 = .ok (.iand, 1) := by decide +kernel
theorem dJ6_bitCount_0f7a4_8 : decode cJ6_bitCount_0f7a4 8 = .ok (.isub, 1) := by decide +kernel
theorem dJ6_bitCount_0f7a4_9 : decode cJ6_bitCount_0f7a4 9 = .ok (.istore_n 0, 1) := by decide +kernel
theorem dJ6_bitCount_0f7a4_10 : decode cJ6_bitCount_0f7a4 10 = .ok (.iload_n 0, 1) := by decide +kernel
theorem dJ6_bitCount_0f7a4_11 : decode cJ6_bitCount_0f7a4 11 = .ok (.ldc_w 266, 3) := by decide +kernel
theorem dJ6_bitCount_0f7a4_14 : decode cJ6_bitCount_0f7a4 14 = .ok (.iand, 1) := by decide +kernel
theorem dJ6_bitCount_0f7a4_15 : decode cJ6_bitCount_0f7a4 15 = .ok (.iload_n 0, 1) := by decide +kernel
theorem dJ6_bitCount_0f7a4_16 : decode cJ6_bitCount_0f7a4 16 = .ok (.iconst 2, 1) := by decide +kernel
theorem dJ6_bitCount_0f7a4_17 : decode cJ6_bitCount_0f7a4 17 = .ok (.iushr, 1) := by decide +kernel
theorem dJ6_bitCount_0f7a4_18 : decode cJ6_bitCount_0f7a4 18 = .ok (.ldc_w 266, 3) := by decide +kernel
theorem dJ6_bitCount_0f7a4_21 : decode cJ6_bitCount_0f7a4 21 = .ok (.iand, 1) := by decide +kernel
theorem dJ6_bitCount_0f7a4_22 : decode cJ6_bitCount_0f7a4 22 = .ok (.iadd, 1) := by decide +kernel
theorem dJ6_bitCount_0f7a4_23 : decode cJ6_bitCount_0f7a4 23 = .ok (.istore_n 0, 1) := by decide +kernel
theorem dJ6_bitCount_0f7a4_24 : decode cJ6_bitCount_0f7a4 24 = .ok (.iload_n 0, 1) := by decide +kernel
theorem dJ6_bitCount_0f7a4_25 : decode cJ6_bitCount_0f7a4 25 = .ok (.iload_n 0, 1) := by decide +kernel
theorem dJ6_bitCount_0f7a4_26 : decode cJ6_bitCount_0f7a4 26 = .ok (.iconst 4, 1) := by decide +kernel
theorem dJ6_bitCount_0f7a4_27 : decode cJ6_bitCount_0f7a4 27 = .ok (.iushr, 1) := by decide +kernel
theorem dJ6_bitCount_0f7a4_28 : decode cJ6_bitCount_0f7a4 28 = .ok (.iadd, 1) := by decide +kernel
theorem dJ6_bitCount_0f7a4_29 : decode cJ6_bitCount_0f7a4 29 = .ok (.ldc_w 267, 3) := by decide +kernel
theorem dJ6_bitCount_0f7a4_32 : decode cJ6_bitCount_0f7a4 32 = .ok (.iand, 1) := by decide +kernel
theorem dJ6_bitCount_0f7a4_33 : decode cJ6_bitCount_0f7a4 33 = .ok (.istore_n 0, 1) := by decide +kernel
theorem dJ6_bitCount_0f7a4_34 : decode cJ6_bitCount_0f7a4 34 = .ok (.iload_n 0, 1) := by decide +kernel
theorem dJ6_bitCount_0f7a4_35 : decode cJ6_bitCount_0f7a4 35 = .ok (.iload_n 0, 1) := by decide +kernel
theorem dJ6_bitCount_0f7a4_36 : decode cJ6_bitCount_0f7a4 36 = .ok (.bipush 8, 2) := by decide +kernel
theorem dJ6_bitCount_0f7a4_38 : decode cJ6_bitCount_0f7a4 38 = .ok (.iushr, 1) := by decide +kernel
theorem dJ6_bitCount_0f7a4_39 : decode cJ6_bitCount_0f7a4 39 = .ok (.iadd, 1) := by decide +kernel
theorem dJ6_bitCount_0f7a4_40 : decode cJ6_bitCount_0f7a4 40 = .ok (.istore_n 0, 1) := by decide +kernel
theorem dJ6_bitCount_0f7a4_41 : decode cJ6_bitCount_0f7a4 41 = .ok (.iload_n 0, 1) := by decide +kernel
theorem dJ6_bitCount_0f7a4_42 : decode cJ6_bitCount_0f7a4 42 = .ok (.iload_n 0, 1) := by decide +kernel
theorem dJ6_bitCount_0f7a4_43 : decode cJ6_bitCount_0f7a4 43 = .ok (.bipush 16, 2) := by decide +kernel
theorem dJ6_bitCount_0f7a4_45 : decode cJ6_bitCount_0f7a4 45 = .ok (.iushr, 1) := by decide +kernel
theorem dJ6_bitCount_0f7a4_46 : decode cJ6_bitCount_0f7a4 46 = .ok (.iadd, 1) := by decide +kernel
theorem dJ6_bitCount_0f7a4_47 : decode cJ6_bitCount_0f7a4 47 = .ok (.istore_n 0, 1) := by decide +kernel
theorem dJ6_bitCount_0f7a4_48 : decode cJ6_bitCount_0f7a4 48 = .ok (.iload_n 0, 1) := by decide +kernel
theorem dJ6_bitCount_0f7a4_49 : decode cJ6_bitCount_0f7a4 49 = .ok (.bipush 63, 2) := by decide +kernel
theorem dJ6_bitCount_0f7a4_51 : decode cJ6_bitCount_0f7a4 51 = .ok (.iand, 1) := by decide +kernel
theorem dJ6_bitCount_0f7a4_52 : decode cJ6_bitCount_0f7a4 52 = .ok (.ireturn, 1) := by decide +kernel
theorem dJ9_abs_0f7a4_0 : decode cJ9_abs_0f7a4 0 = .ok (.iload_n 0, 1) := by decide +kernel
theorem dJ9_abs_0f7a4_1 : decode cJ9_abs_0f7a4 1 = .ok (.ifCond .ge 8, 3) := by decide +kernel
theorem dJ9_abs_0f7a4_4 : decode cJ9_abs_0f7a4 4 = .ok (.iload_n 0, 1) := by decide +kernel
theorem dJ9_abs_0f7a4_5 : decode cJ9_abs_0f7a4 5 = .ok (.ineg, 1) := by decide +kernel
theorem dJ9_abs_0f7a4_6 : decode cJ9_abs_0f7a4 6 = .ok (.goto 4, 3) := by decide +kernel
theorem dJ9_abs_0f7a4_9 : decode cJ9_abs_0f7a4 9 = .ok (.iload_n 0, 1) := by decide +kernel
theorem dJ9_abs_0f7a4_10 : decode cJ9_abs_0f7a4 10 = .ok (.ireturn, 1) := by decide +kernel
theorem dJ9_max_7cf53_0 : decode cJ9_max_7cf53 0 = .ok (.iload_n 0, 1) := by decide +kernel
theorem dJ9_max_7cf53_1 : decode cJ9_max_7cf53 1 = .ok (.iload_n 1, 1) := by decide +kernel
theorem dJ9_max_7cf53_2 : decode cJ9_max_7cf53 2 = .ok (.if_icmp .lt 7, 3) := by decide +kernel
theorem dJ9_max_7cf53_5 : decode cJ9_max_7cf53 5 = .ok (.iload_n 0, 1) := by decide +kernel
theorem dJ9_max_7cf53_6 : decode cJ9_max_7cf53 6 = .ok (.goto 4, 3) := by decide +kernel
theorem dJ9_max_7cf53_9 : decode cJ9_max_7cf53 9 = .ok (.iload_n 1, 1) := by decide +kernel
theorem dJ9_max_7cf53_10 : decode cJ9_max_7cf53 10 = .ok (.ireturn, 1) := by decide +kernel
theorem dJ9_min_7cf53_0 : decode cJ9_min_7cf53 0 = .ok (.iload_n 0, 1) := by decide +kernel
theorem dJ9_min_7cf53_1 : decode cJ9_min_7cf53 1 = .ok (.iload_n 1, 1) := by decide +kernel
theorem dJ9_min_7cf53_2 : decode cJ9_min_7cf53 2 = .ok (.if_icmp .gt 7, 3) := by decide +kernel
theorem dJ9_min_7cf53_5 : decode cJ9_min_7cf53 5 = .ok (.iload_n 0, 1) := by decide +kernel
theorem dJ9_min_7cf53_6 : decode cJ9_min_7cf53 6 = .ok (.goto 4, 3) := by decide +kernel
theorem dJ9_min_7cf53_9 : decode cJ9_min_7cf53 9 = .ok (.iload_n 1, 1) := by decide +kernel
theorem dJ9_min_7cf53_10 : decode cJ9_min_7cf53 10 = .ok (.ireturn, 1) := by decide +kernel
set_option maxRecDepth 20000 in
theorem ggJ0_charAt_5068e_J0_isLatin1_aae02 : GoodIn wsJ0_charAt_5068e wsJ0_isLatin1_aae02 := goodIn_r _ [6, 7, 8] (by decide +kernel) (by decide +kernel)
set_option maxRecDepth 20000 in
theorem gJ0_charAt_5068e_J0_isLatin1_aae02 : GoodIn wsJ0_charAt_5068e (wsV RJ0 492 RJ0 yJ0_isLatin1_aae02 wsJ0_isLatin1_aae02) := goodIn_app (goodIn_of _ (by decide +kernel)) ggJ0_charAt_5068e_J0_isLatin1_aae02
set_option maxRecDepth 20000 in
theorem ggJ0_charAt_5068e_J1_charAt_3b067 : GoodIn wsJ0_charAt_5068e wsJ1_charAt_3b067 := goodIn_r _ [12, 13, 14, 5, 15, 16, 17, 18, 19, 20] (by decide +kernel) (by decide +kernel)
set_option maxRecDepth 20000 in
theorem gJ0_charAt_5068e_J1_charAt_3b067 : GoodIn wsJ0_charAt_5068e (va_wsS RJ0 495 yJ1_charAt_3b067 wsJ1_charAt_3b067) := goodIn_app (goodIn_of _ (by decide +kernel)) ggJ0_charAt_5068e_J1_charAt_3b067
set_option maxRecDepth 20000 in
theorem ggJ0_charAt_5068e_J2_charAt_3b067 : GoodIn wsJ0_charAt_5068e wsJ2_charAt_3b067 := goodIn_r _ [24, 25, 26, 23, 27, 28, 29, 30, 31, 14, 5, 15, 16, 17, 18, 19, 20, 32, 33, 34, 35, 36, 37] (by decide +kernel) (by decide +kernel)
set_option maxRecDepth 20000 in
theorem gJ0_charAt_5068e_J2_charAt_3b067 : GoodIn wsJ0_charAt_5068e (va_wsS RJ0 498 yJ2_charAt_3b067 wsJ2_charAt_3b067) := goodIn_app (goodIn_of _ (by decide +kernel)) ggJ0_charAt_5068e_J2_charAt_3b067
theorem dJ0_charAt_5068e_0 : decode cJ0_charAt_5068e 0 = .ok (.aload_n 0, 1) := by decide +kernel
theorem dJ0_charAt_5068e_1 : decode cJ0_charAt_5068e 1 = .ok (.invokevirtual 492, 3) := by decide +kernel
theorem dJ0_charAt_5068e_4 : decode cJ0_charAt_5068e 4 = .ok (.ifCond .eq 12, 3) := by decide +kernel
theorem dJ0_charAt_5068e_7 : decode cJ0_charAt_5068e 7 = .ok (.aload_n 0, 1) := by decide +kernel
theorem dJ0_charAt_5068e_8 : decode cJ0_charAt_5068e 8 = .ok (.getfield 9, 3) := by decide +kernel
theorem dJ0_charAt_5068e_11 : decode cJ0_charAt_5068e 11 = .ok (.iload_n 1, 1) := by decide +kernel
theorem dJ0_charAt_5068e_12 : decode cJ0_charAt_5068e 12 = .ok (.invokestatic 495, 3) := by decide +kernel
theorem dJ0_charAt_5068e_15 : decode cJ0_charAt_5068e 15 = .ok (.ireturn, 1) := by decide +kernel
theorem dJ0_charAt_5068e_16 : decode cJ0_charAt_5068e 16 = .ok (.aload_n 0, 1) := by decide +kernel
theorem dJ0_charAt_5068e_17 : decode cJ0_charAt_5068e 17 = .ok (.getfield 9, 3) := by decide +kernel
theorem dJ0_charAt_5068e_20 : decode cJ0_charAt_5068e 20 = .ok (.iload_n 1, 1) := by decide +kernel
theorem dJ0_charAt_5068e_21 : decode cJ0_charAt_5068e 21 = .ok (.invokestatic 498, 3) := by decide +kernel
theorem dJ0_charAt_5068e_24 : decode cJ0_charAt_5068e 24 = .ok (.ireturn, 1) := by decide +kernel
theorem dJ0_isLatin1_aae02_0 : decode cJ0_isLatin1_aae02 0 = .ok (.getstatic 38, 3) := by decide +kernel
theorem dJ0_isLatin1_aae02_3 : decode cJ0_isLatin1_aae02 3 = .ok (.ifCond .eq 14, 3) := by decide +kernel
theorem dJ0_isLatin1_aae02_6 : decode cJ0_isLatin1_aae02 6 = .ok (.aload_n 0, 1) := by decide +kernel
theorem dJ0_isLatin1_aae02_7 : decode cJ0_isLatin1_aae02 7 = .ok (.getfield 15, 3) := by decide +kernel
theorem dJ0_isLatin1_aae02_10 : decode cJ0_isLatin1_aae02 10 = .ok (.ifCond .ne 7, 3) := by decide +kernel
theorem dJ0_isLatin1_aae02_13 : decode cJ0_isLatin1_aae02 13 = .ok (.iconst 1, 1) := by decide +kernel
theorem dJ0_isLatin1_aae02_14 : decode cJ0_isLatin1_aae02 14 = .ok (.goto 4, 3) := by decide +kernel
theorem dJ0_isLatin1_aae02_17 : decode cJ0_isLatin1_aae02 17 = .ok (.iconst 0, 1) := by decide +kernel
theorem dJ0_isLatin1_aae02_18 : decode cJ0_isLatin1_aae02 18 = .ok (.ireturn, 1) := by decide +kernel
set_option maxRecDepth 20000 in
theorem ggJ0_checkIndex_df160_J3_checkIndex_8e157 : GoodIn wsJ0_checkIndex_df160 wsJ3_checkIndex_8e157 := goodIn_r _ [5] (by decide +kernel) (by decide +kernel)
set_option maxRecDepth 20000 in
theorem gJ0_checkIndex_df160_J3_checkIndex_8e157 : GoodIn wsJ0_checkIndex_df160 (va_wsS RJ0 1059 yJ3_checkIndex_8e157 wsJ3_checkIndex_8e157) := goodIn_app (goodIn_of _ (by decide +kernel)) ggJ0_checkIndex_df160_J3_checkIndex_8e157
theorem dJ0_checkIndex_df160_0 : decode cJ0_checkIndex_df160 0 = .ok (.iload_n 0, 1) := by decide +kernel
theorem dJ0_checkIndex_df160_1 : decode cJ0_checkIndex_df160 1 = .ok (.iload_n 1, 1) := by decide +kernel
theorem dJ0_checkIndex_df160_2 : decode cJ0_checkIndex_df160 2 = .ok (.getstatic 1053, 3) := by decide +kernel
theorem dJ0_checkIndex_df160_5 : decode cJ0_checkIndex_df160 5 = .ok (.invokestatic 1059, 3) := by decide +kernel
theorem dJ0_checkIndex_df160_8 : decode cJ0_checkIndex_df160 8 = .ok (.pop, 1) := by decide +kernel
theorem dJ0_checkIndex_df160_9 : decode cJ0_checkIndex_df160 9 = .ok (.return_, 1) := by decide +kernel
set_option maxRecDepth 20000 in
theorem ggJ1_charAt_3b067_J0_checkIndex_df160 : GoodIn wsJ1_charAt_3b067 wsJ0_checkIndex_df160 := goodIn_r _ [4, 5, 6, 7, 8, 9] (by decide +kernel) (by decide +kernel)
set_option maxRecDepth 20000 in
theorem gJ1_charAt_3b067_J0_checkIndex_df160 : GoodIn wsJ1_charAt_3b067 (va_wsS RJ1 9 yJ0_checkIndex_df160 wsJ0_checkIndex_df160) := goodIn_app (goodIn_of _ (by decide +kernel)) ggJ1_charAt_3b067_J0_checkIndex_df160
theorem dJ1_charAt_3b067_0 : decode cJ1_charAt_3b067 0 = .ok (.iload_n 1, 1) := by decide +kernel
theorem dJ1_charAt_3b067_1 : decode cJ1_charAt_3b067 1 = .ok (.aload_n 0, 1) := by decide +kernel
theorem dJ1_charAt_3b067_2 : decode cJ1_charAt_3b067 2 = .ok (.arraylength, 1) := by decide +kernel
theorem dJ1_charAt_3b067_3 : decode cJ1_charAt_3b067 3 = .ok (.invokestatic 9, 3) := by decide +kernel
theorem dJ1_charAt_3b067_6 : decode cJ1_charAt_3b067 6 = .ok (.aload_n 0, 1) := by decide +kernel
theorem dJ1_charAt_3b067_7 : decode cJ1_charAt_3b067 7 = .ok (.iload_n 1, 1) := by decide +kernel
theorem dJ1_charAt_3b067_8 : decode cJ1_charAt_3b067 8 = .ok (.baload, 1) := by decide +kernel
theorem dJ1_charAt_3b067_9 : decode cJ1_charAt_3b067 9 = .ok (.sipush 255, 3) := by decide +kernel
theorem dJ1_charAt_3b067_12 : decode cJ1_charAt_3b067 12 = .ok (.iand, 1) := by decide +kernel
theorem dJ1_charAt_3b067_13 : decode cJ1_charAt_3b067 13 = .ok (.i2c, 1) := by decide +kernel
theorem dJ1_charAt_3b067_14 : decode cJ1_charAt_3b067 14 = .ok (.ireturn, 1) := by decide +kernel
set_option maxRecDepth 20000 in
theorem ggJ2_getChar_3b067_J2_length_9d52b : GoodIn wsJ2_getChar_3b067 wsJ2_length_9d52b := goodIn_r _ [7] (by decide +kernel) (by decide +kernel)
set_option maxRecDepth 20000 in
theorem gJ2_getChar_3b067_J2_length_9d52b : GoodIn wsJ2_getChar_3b067 (va_wsS RJ2 48 yJ2_length_9d52b wsJ2_length_9d52b) := goodIn_app (goodIn_of _ (by decide +kernel)) ggJ2_getChar_3b067_J2_length_9d52b
theorem dJ2_getChar_3b067_0 : decode cJ2_getChar_3b067 0 = .ok (.getstatic 44, 3) := by decide +kernel
theorem dJ2_getChar_3b067_3 : decode cJ2_getChar_3b067 3 = .ok (.ifCond .ne 25, 3) := by decide +kernel
theorem dJ2_getChar_3b067_6 : decode cJ2_getChar_3b067 6 = .ok (.iload_n 1, 1) := by decide +kernel
theorem dJ2_getChar_3b067_7 : decode cJ2_getChar_3b067 7 = .ok (.ifCond .lt 11, 3) := by decide +kernel
theorem dJ2_getChar_3b067_10 : decode cJ2_getChar_3b067 10 = .ok (.iload_n 1, 1) := by decide +kernel
theorem dJ2_getChar_3b067_11 : decode cJ2_getChar_3b067 11 = .ok (.aload_n 0, 1) := by decide +kernel
theorem dJ2_getChar_3b067_12 : decode cJ2_getChar_3b067 12 = .ok (.invokestatic 48, 3) := by decide +kernel
theorem dJ2_getChar_3b067_15 : decode cJ2_getChar_3b067 15 = .ok (.if_icmp .lt 13, 3) := by decide +kernel
theorem dJ2_getChar_3b067_18 : decode cJ2_getChar_3b067 18 = .ok (.new 52, 3) := by decide +kernel
theorem dJ2_getChar_3b067_21 : decode cJ2_getChar_3b067 21 = .ok (.dup, 1) := by decide +kernel
theorem dJ2_getChar_3b067_22 : decode cJ2_getChar_3b067 22 = .ok (.ldc 54, 2) := by decide +kernel
theorem dJ2_getChar_3b067_24 : decode cJ2_getChar_3b067 24 = .ok (.invokespecial 56, 3) := by decide +kernel
theorem dJ2_getChar_3b067_27 : decode cJ2_getChar_3b067 27 = .ok (.athrow, 1) := by decide +kernel
theorem dJ2_getChar_3b067_28 : decode cJ2_getChar_3b067 28 = .ok (.iload_n 1, 1) := by decide +kernel
theorem dJ2_getChar_3b067_29 : decode cJ2_getChar_3b067 29 = .ok (.iconst 1, 1) := by decide +kernel
theorem dJ2_getChar_3b067_30 : decode cJ2_getChar_3b067 30 = .ok (.ishl, 1) := by decide +kernel
theorem dJ2_getChar_3b067_31 : decode cJ2_getChar_3b067 31 = .ok (.istore_n 1, 1) := by decide +kernel
theorem dJ2_getChar_3b067_32 : decode cJ2_getChar_3b067 32 = .ok (.aload_n 0, 1) := by decide +kernel
theorem dJ2_getChar_3b067_33 : decode cJ2_getChar_3b067 33 = .ok (.iload_n 1, 1) := by decide +kernel
theorem dJ2_getChar_3b067_34 : decode cJ2_getChar_3b067 34 = .ok (.iinc 1 1, 3) := by decide +kernel
theorem dJ2_getChar_3b067_37 : decode cJ2_getChar_3b067 37 = .ok (.baload, 1) := by decide +kernel
theorem dJ2_getChar_3b067_38 : decode cJ2_getChar_3b067 38 = .ok (.sipush 255, 3) := by decide +kernel
theorem dJ2_getChar_3b067_41 : decode cJ2_getChar_3b067 41 = .ok (.iand, 1) := by decide +kernel
theorem dJ2_getChar_3b067_42 : decode cJ2_getChar_3b067 42 = .ok (.getstatic 59, 3) := by decide +kernel
theorem dJ2_getChar_3b067_45 : decode cJ2_getChar_3b067 45 = .ok (.ishl, 1) := by decide +kernel
theorem dJ2_getChar_3b067_46 : decode cJ2_getChar_3b067 46 = .ok (.aload_n 0, 1) := by decide +kernel
theorem dJ2_getChar_3b067_47 : decode cJ2_getChar_3b067 47 = .ok (.iload_n 1, 1) := by decide +kernel
theorem dJ2_getChar_3b067_48 : decode cJ2_getChar_3b067 48 = .ok (.baload, 1) := by decide +kernel
theorem dJ2_getChar_3b067_49 : decode cJ2_getChar_3b067 49 = .ok (.sipush 255, 3) := by decide +kernel
theorem dJ2_getChar_3b067_52 : decode cJ2_getChar_3b067 52 = .ok (.iand, 1) := by decide +kernel
theorem dJ2_getChar_3b067_53 : decode cJ2_getChar_3b067 53 = .ok (.getstatic 63, 3) := by decide +kernel
theorem dJ2_getChar_3b067_56 : decode cJ2_getChar_3b067 56 = .ok (.ishl, 1) := by decide +kernel

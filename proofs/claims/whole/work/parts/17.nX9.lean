theorem dX9_init_0 : decode cX9_init 0 = .ok (.aload_n 0, 1) := by decide +kernel
theorem dX9_init_1 : decode cX9_init 1 = .ok (.invokespecial 1, 3) := by decide +kernel
theorem dX9_init_4 : decode cX9_init 4 = .ok (.aload_n 0, 1) := by decide +kernel
theorem dX9_init_5 : decode cX9_init 5 = .ok (.iconst 2, 1) := by decide +kernel
theorem dX9_init_6 : decode cX9_init 6 = .ok (.putfield 7, 3) := by decide +kernel
theorem dX9_init_9 : decode cX9_init 9 = .ok (.aload_n 0, 1) := by decide +kernel
theorem dX9_init_10 : decode cX9_init 10 = .ok (.iconst 2, 1) := by decide +kernel
theorem dX9_init_11 : decode cX9_init 11 = .ok (.putfield 13, 3) := by decide +kernel
theorem dX9_init_14 : decode cX9_init 14 = .ok (.aload_n 0, 1) := by decide +kernel
theorem dX9_init_15 : decode cX9_init 15 = .ok (.sipush 243, 3) := by decide +kernel
theorem dX9_init_18 : decode cX9_init 18 = .ok (.newarray .int, 2) := by decide +kernel
theorem dX9_init_20 : decode cX9_init 20 = .ok (.putfield 16, 3) := by decide +kernel
theorem dX9_init_23 : decode cX9_init 23 = .ok (.aload_n 0, 1) := by decide +kernel
theorem dX9_init_24 : decode cX9_init 24 = .ok (.sipush 243, 3) := by decide +kernel
theorem dX9_init_27 : decode cX9_init 27 = .ok (.newarray .int, 2) := by decide +kernel
theorem dX9_init_29 : decode cX9_init 29 = .ok (.putfield 20, 3) := by decide +kernel
theorem dX9_init_32 : decode cX9_init 32 = .ok (.aload_n 0, 1) := by decide +kernel
theorem dX9_init_33 : decode cX9_init 33 = .ok (.sipush 3402, 3) := by decide +kernel
theorem dX9_init_36 : decode cX9_init 36 = .ok (.newarray .int, 2) := by decide +kernel
theorem dX9_init_38 : decode cX9_init 38 = .ok (.putfield 23, 3) := by decide +kernel
theorem dX9_init_41 : decode cX9_init 41 = .ok (.aload_n 0, 1) := by decide +kernel
theorem dX9_init_42 : decode cX9_init 42 = .ok (.sipush 486, 3) := by decide +kernel
theorem dX9_init_45 : decode cX9_init 45 = .ok (.newarray .int, 2) := by decide +kernel
theorem dX9_init_47 : decode cX9_init 47 = .ok (.putfield 26, 3) := by decide +kernel
theorem dX9_init_50 : decode cX9_init 50 = .ok (.aload_n 0, 1) := by decide +kernel
theorem dX9_init_51 : decode cX9_init 51 = .ok (.iconst 2, 1) := by decide +kernel
theorem dX9_init_52 : decode cX9_init 52 = .ok (.newarray .boolean, 2) := by decide +kernel
theorem dX9_init_54 : decode cX9_init 54 = .ok (.putfield 29, 3) := by decide +kernel
theorem dX9_init_57 : decode cX9_init 57 = .ok (.aload_n 0, 1) := by decide +kernel
theorem dX9_init_58 : decode cX9_init 58 = .ok (.bipush 120, 2) := by decide +kernel
theorem dX9_init_60 : decode cX9_init 60 = .ok (.newarray .int, 2) := by decide +kernel
theorem dX9_init_62 : decode cX9_init 62 = .ok (.putfield 33, 3) := by decide +kernel
theorem dX9_init_65 : decode cX9_init 65 = .ok (.aload_n 0, 1) := by decide +kernel
theorem dX9_init_66 : decode cX9_init 66 = .ok (.sipush 243, 3) := by decide +kernel
theorem dX9_init_69 : decode cX9_init 69 = .ok (.newarray .int, 2) := by decide +kernel
theorem dX9_init_71 : decode cX9_init 71 = .ok (.putfield 36, 3) := by decide +kernel
theorem dX9_init_74 : decode cX9_init 74 = .ok (.aload_n 0, 1) := by decide +kernel
theorem dX9_init_75 : decode cX9_init 75 = .ok (.bipush 16, 2) := by decide +kernel
theorem dX9_init_77 : decode cX9_init 77 = .ok (.newarray .int, 2) := by decide +kernel
theorem dX9_init_79 : decode cX9_init 79 = .ok (.putfield 39, 3) := by decide +kernel
theorem dX9_init_82 : decode cX9_init 82 = .ok (.aload_n 0, 1) := by decide +kernel
theorem dX9_init_83 : decode cX9_init 83 = .ok (.sipush 972, 3) := by decide +kernel
theorem dX9_init_86 : decode cX9_init 86 = .ok (.newarray .int, 2) := by decide +kernel
theorem dX9_init_88 : decode cX9_init 88 = .ok (.putfield 42, 3) := by decide +kernel
theorem dX9_init_91 : decode cX9_init 91 = .ok (.aload_n 0, 1) := by decide +kernel
theorem dX9_init_92 : decode cX9_init 92 = .ok (.iconst 4, 1) := by decide +kernel
theorem dX9_init_93 : decode cX9_init 93 = .ok (.newarray .int, 2) := by decide +kernel
theorem dX9_init_95 : decode cX9_init 95 = .ok (.putfield 45, 3) := by decide +kernel
theorem dX9_init_98 : decode cX9_init 98 = .ok (.aload_n 0, 1) := by decide +kernel
theorem dX9_init_99 : decode cX9_init 99 = .ok (.iconst 5, 1) := by decide +kernel
theorem dX9_init_100 : decode cX9_init 100 = .ok (.newarray .int, 2) := by decide +kernel
theorem dX9_init_102 : decode cX9_init 102 = .ok (.putfield 48, 3) := by decide +kernel
theorem dX9_init_105 : decode cX9_init 105 = .ok (.aload_n 0, 1) := by decide +kernel
theorem dX9_init_106 : decode cX9_init 106 = .ok (.getfield 16, 3) := by decide +kernel
theorem dX9_init_109 : decode cX9_init 109 = .ok (.sipush 240, 3) := by decide +kernel
theorem dX9_init_112 : decode cX9_init 112 = .ok (.iconst 2, 1) := by decide +kernel
theorem dX9_init_113 : decode cX9_init 113 = .ok (.iastore, 1) := by decide +kernel
theorem dX9_init_114 : decode cX9_init 114 = .ok (.return_, 1) := by decide +kernel
theorem dX9_thrown_0 : decode cX9_thrown 0 = .ok (.aload_n 0, 1) := by decide +kernel
theorem dX9_thrown_1 : decode cX9_thrown 1 = .ok (.getfield 51, 3) := by decide +kernel
theorem dX9_thrown_4 : decode cX9_thrown 4 = .ok (.ireturn, 1) := by decide +kernel
theorem dX9_refused_0 : decode cX9_refused 0 = .ok (.aload_n 0, 1) := by decide +kernel
theorem dX9_refused_1 : decode cX9_refused 1 = .ok (.iload_n 1, 1) := by decide +kernel
theorem dX9_refused_2 : decode cX9_refused 2 = .ok (.putfield 51, 3) := by decide +kernel
theorem dX9_refused_5 : decode cX9_refused 5 = .ok (.iload_n 1, 1) := by decide +kernel
theorem dX9_refused_6 : decode cX9_refused 6 = .ok (.ifCond .le 7, 3) := by decide +kernel
theorem dX9_refused_9 : decode cX9_refused 9 = .ok (.iconst 1, 1) := by decide +kernel
theorem dX9_refused_10 : decode cX9_refused 10 = .ok (.goto 4, 3) := by decide +kernel
theorem dX9_refused_13 : decode cX9_refused 13 = .ok (.iconst 0, 1) := by decide +kernel
theorem dX9_refused_14 : decode cX9_refused 14 = .ok (.ireturn, 1) := by decide +kernel
theorem dX9_in_0 : decode cX9_in 0 = .ok (.lload_n 0, 1) := by decide +kernel
theorem dX9_in_1 : decode cX9_in 1 = .ok (.lload_n 2, 1) := by decide +kernel
theorem dX9_in_2 : decode cX9_in 2 = .ok (.lcmp, 1) := by decide +kernel
theorem dX9_in_3 : decode cX9_in 3 = .ok (.ifCond .lt 14, 3) := by decide +kernel
theorem dX9_in_6 : decode cX9_in 6 = .ok (.lload_n 0, 1) := by decide +kernel
theorem dX9_in_7 : decode cX9_in 7 = .ok (.lload 4, 2) := by decide +kernel
theorem dX9_in_9 : decode cX9_in 9 = .ok (.lcmp, 1) := by decide +kernel
theorem dX9_in_10 : decode cX9_in 10 = .ok (.ifCond .gt 7, 3) := by decide +kernel
theorem dX9_in_13 : decode cX9_in 13 = .ok (.iconst 1, 1) := by decide +kernel
theorem dX9_in_14 : decode cX9_in 14 = .ok (.goto 4, 3) := by decide +kernel
theorem dX9_in_17 : decode cX9_in 17 = .ok (.iconst 0, 1) := by decide +kernel
theorem dX9_in_18 : decode cX9_in 18 = .ok (.ireturn, 1) := by decide +kernel
theorem dX9_points_0 : decode cX9_points 0 = .ok (.aload_n 0, 1) := by decide +kernel
theorem dX9_points_1 : decode cX9_points 1 = .ok (.getfield 7, 3) := by decide +kernel
theorem dX9_points_4 : decode cX9_points 4 = .ok (.aload_n 0, 1) := by decide +kernel
theorem dX9_points_5 : decode cX9_points 5 = .ok (.getfield 13, 3) := by decide +kernel
theorem dX9_points_8 : decode cX9_points 8 = .ok (.imul, 1) := by decide +kernel
theorem dX9_points_9 : decode cX9_points 9 = .ok (.ireturn, 1) := by decide +kernel
set_option maxRecDepth 20000 in
theorem ggX9_isPoint_X9_points : GoodIn wsX9_isPoint wsX9_points := goodIn_r _ [5, 6, 7, 11, 12, 13, 14, 15, 16, 17, 18, 19, 20, 21, 22, 23, 24, 25, 26, 27, 28, 29, 30] (by decide +kernel) (by decide +kernel)
set_option maxRecDepth 20000 in
theorem gX9_isPoint_X9_points : GoodIn wsX9_isPoint (wsV RX9 54 RX9 yX9_points wsX9_points) := goodIn_app (goodIn_of _ (by decide +kernel)) ggX9_isPoint_X9_points
set_option maxRecDepth 20000 in
theorem ggX9_isPoint_X9_in : GoodIn wsX9_isPoint wsX9_in := goodIn_r _ [10] (by decide +kernel) (by decide +kernel)
set_option maxRecDepth 20000 in
theorem gX9_isPoint_X9_in : GoodIn wsX9_isPoint (va_wsS RX9 58 yX9_in wsX9_in) := goodIn_app (goodIn_of _ (by decide +kernel)) ggX9_isPoint_X9_in
theorem dX9_isPoint_0 : decode cX9_isPoint 0 = .ok (.iload_n 1, 1) := by decide +kernel
theorem dX9_isPoint_1 : decode cX9_isPoint 1 = .ok (.i2l, 1) := by decide +kernel
theorem dX9_isPoint_2 : decode cX9_isPoint 2 = .ok (.lconst 0, 1) := by decide +kernel
theorem dX9_isPoint_3 : decode cX9_isPoint 3 = .ok (.aload_n 0, 1) := by decide +kernel
theorem dX9_isPoint_4 : decode cX9_isPoint 4 = .ok (.invokevirtual 54, 3) := by decide +kernel
theorem dX9_isPoint_7 : decode cX9_isPoint 7 = .ok (.iconst 1, 1) := by decide +kernel
theorem dX9_isPoint_8 : decode cX9_isPoint 8 = .ok (.isub, 1) := by decide +kernel
theorem dX9_isPoint_9 : decode cX9_isPoint 9 = .ok (.i2l, 1) := by decide +kernel
theorem dX9_isPoint_10 : decode cX9_isPoint 10 = .ok (.invokestatic 58, 3) := by decide +kernel
theorem dX9_isPoint_13 : decode cX9_isPoint 13 = .ok (.ireturn, 1) := by decide +kernel
theorem dX9_copy_0 : decode cX9_copy 0 = .ok (.iconst 0, 1) := by decide +kernel
theorem dX9_copy_1 : decode cX9_copy 1 = .ok (.istore 4, 2) := by decide +kernel
theorem dX9_copy_3 : decode cX9_copy 3 = .ok (.iload 4, 2) := by decide +kernel
theorem dX9_copy_5 : decode cX9_copy 5 = .ok (.sipush 243, 3) := by decide +kernel
theorem dX9_copy_8 : decode cX9_copy 8 = .ok (.if_icmp .ge 21, 3) := by decide +kernel
theorem dX9_copy_11 : decode cX9_copy 11 = .ok (.aload_n 2, 1) := by decide +kernel
theorem dX9_copy_12 : decode cX9_copy 12 = .ok (.iload_n 3, 1) := by decide +kernel
theorem dX9_copy_13 : decode cX9_copy 13 = .ok (.iload 4, 2) := by decide +kernel
theorem dX9_copy_15 : decode cX9_copy 15 = .ok (.iadd, 1) := by decide +kernel
theorem dX9_copy_16 : decode cX9_copy 16 = .ok (.aload_n 0, 1) := by decide +kernel
theorem dX9_copy_17 : decode cX9_copy 17 = .ok (.iload_n 1, 1) := by decide +kernel
theorem dX9_copy_18 : decode cX9_copy 18 = .ok (.iload 4, 2) := by decide +kernel
theorem dX9_copy_20 : decode cX9_copy 20 = .ok (.iadd, 1) := by decide +kernel
theorem dX9_copy_21 : decode cX9_copy 21 = .ok (.iaload, 1) := by decide +kernel
theorem dX9_copy_22 : decode cX9_copy 22 = .ok (.iastore, 1) := by decide +kernel
theorem dX9_copy_23 : decode cX9_copy 23 = .ok (.iinc 4 1, 3) := by decide +kernel
theorem dX9_copy_26 : decode cX9_copy 26 = .ok (.goto (-23), 3) := by decide +kernel
theorem dX9_copy_29 : decode cX9_copy 29 = .ok (.return_, 1) := by decide +kernel
set_option maxRecDepth 20000 in
theorem ggX9_note_X9_copy : GoodIn wsX9_note wsX9_copy := goodIn_r _ [8] (by decide +kernel) (by decide +kernel)
set_option maxRecDepth 20000 in
theorem gX9_note_X9_copy : GoodIn wsX9_note (va_wsS RX9 65 yX9_copy wsX9_copy) := goodIn_app (goodIn_of _ (by decide +kernel)) ggX9_note_X9_copy
theorem dX9_note_0 : decode cX9_note 0 = .ok (.aload_n 0, 1) := by decide +kernel
theorem dX9_note_1 : decode cX9_note 1 = .ok (.getfield 16, 3) := by decide +kernel
theorem dX9_note_4 : decode cX9_note 4 = .ok (.iconst 0, 1) := by decide +kernel
theorem dX9_note_5 : decode cX9_note 5 = .ok (.aload_n 0, 1) := by decide +kernel
theorem dX9_note_6 : decode cX9_note 6 = .ok (.getfield 23, 3) := by decide +kernel
theorem dX9_note_9 : decode cX9_note 9 = .ok (.sipush 243, 3) := by decide +kernel
theorem dX9_note_12 : decode cX9_note 12 = .ok (.aload_n 0, 1) := by decide +kernel
theorem dX9_note_13 : decode cX9_note 13 = .ok (.getfield 62, 3) := by decide +kernel
theorem dX9_note_16 : decode cX9_note 16 = .ok (.imul, 1) := by decide +kernel
theorem dX9_note_17 : decode cX9_note 17 = .ok (.invokestatic 65, 3) := by decide +kernel
theorem dX9_note_20 : decode cX9_note 20 = .ok (.aload_n 0, 1) := by decide +kernel
theorem dX9_note_21 : decode cX9_note 21 = .ok (.aload_n 0, 1) := by decide +kernel
theorem dX9_note_22 : decode cX9_note 22 = .ok (.getfield 62, 3) := by decide +kernel
theorem dX9_note_25 : decode cX9_note 25 = .ok (.iconst 1, 1) := by decide +kernel
theorem dX9_note_26 : decode cX9_note 26 = .ok (.iadd, 1) := by decide +kernel
theorem dX9_note_27 : decode cX9_note 27 = .ok (.bipush 14, 2) := by decide +kernel
theorem dX9_note_29 : decode cX9_note 29 = .ok (.irem, 1) := by decide +kernel
theorem dX9_note_30 : decode cX9_note 30 = .ok (.putfield 62, 3) := by decide +kernel
theorem dX9_note_33 : decode cX9_note 33 = .ok (.aload_n 0, 1) := by decide +kernel
theorem dX9_note_34 : decode cX9_note 34 = .ok (.aload_n 0, 1) := by decide +kernel
theorem dX9_note_35 : decode cX9_note 35 = .ok (.getfield 69, 3) := by decide +kernel
theorem dX9_note_38 : decode cX9_note 38 = .ok (.bipush 14, 2) := by decide +kernel
theorem dX9_note_40 : decode cX9_note 40 = .ok (.if_icmp .ge 12, 3) := by decide +kernel
theorem dX9_note_43 : decode cX9_note 43 = .ok (.aload_n 0, 1) := by decide +kernel
theorem dX9_note_44 : decode cX9_note 44 = .ok (.getfield 69, 3) := by decide +kernel
theorem dX9_note_47 : decode cX9_note 47 = .ok (.iconst 1, 1) := by decide +kernel
theorem dX9_note_48 : decode cX9_note 48 = .ok (.iadd, 1) := by decide +kernel
theorem dX9_note_49 : decode cX9_note 49 = .ok (.goto 5, 3) := by decide +kernel
theorem dX9_note_52 : decode cX9_note 52 = .ok (.bipush 14, 2) := by decide +kernel
theorem dX9_note_54 : decode cX9_note 54 = .ok (.putfield 69, 3) := by decide +kernel
theorem dX9_note_57 : decode cX9_note 57 = .ok (.return_, 1) := by decide +kernel
set_option maxRecDepth 20000 in
theorem ggX9_append_X9_in : GoodIn wsX9_append wsX9_in := goodIn_r _ [7] (by decide +kernel) (by decide +kernel)
set_option maxRecDepth 20000 in
theorem gX9_append_X9_in : GoodIn wsX9_append (va_wsS RX9 58 yX9_in wsX9_in) := goodIn_app (goodIn_of _ (by decide +kernel)) ggX9_append_X9_in
set_option maxRecDepth 20000 in
theorem ggX9_append_X9_refused : GoodIn wsX9_append wsX9_refused := goodIn_r _ [11, 12, 13, 14, 15, 16, 17, 18, 19, 20, 21, 22, 23, 24, 25, 26, 27, 28, 29, 30, 31, 32] (by decide +kernel) (by decide +kernel)
set_option maxRecDepth 20000 in
theorem gX9_append_X9_refused : GoodIn wsX9_append (wsV RX9 77 RX9 yX9_refused wsX9_refused) := goodIn_app (goodIn_of _ (by decide +kernel)) ggX9_append_X9_refused
theorem dX9_append_0 : decode cX9_append 0 = .ok (.aload_n 0, 1) := by decide +kernel
theorem dX9_append_1 : decode cX9_append 1 = .ok (.iload_n 1, 1) := by decide +kernel
theorem dX9_append_2 : decode cX9_append 2 = .ok (.i2l, 1) := by decide +kernel
theorem dX9_append_3 : decode cX9_append 3 = .ok (.lconst 0, 1) := by decide +kernel
theorem dX9_append_4 : decode cX9_append 4 = .ok (.ldc2_w 72, 3) := by decide +kernel
theorem dX9_append_7 : decode cX9_append 7 = .ok (.invokestatic 58, 3) := by decide +kernel
theorem dX9_append_10 : decode cX9_append 10 = .ok (.ifCond .ne 7, 3) := by decide +kernel
theorem dX9_append_13 : decode cX9_append 13 = .ok (.iconst 1, 1) := by decide +kernel
theorem dX9_append_14 : decode cX9_append 14 = .ok (.goto 17, 3) := by decide +kernel
theorem dX9_append_17 : decode cX9_append 17 = .ok (.aload_n 0, 1) := by decide +kernel
theorem dX9_append_18 : decode cX9_append 18 = .ok (.getfield 74, 3) := by decide +kernel
theorem dX9_append_21 : decode cX9_append 21 = .ok (.bipush 120, 2) := by decide +kernel
theorem dX9_append_23 : decode cX9_append 23 = .ok (.if_icmp .ne 7, 3) := by decide +kernel
theorem dX9_append_26 : decode cX9_append 26 = .ok (.iconst 2, 1) := by decide +kernel
theorem dX9_append_27 : decode cX9_append 27 = .ok (.goto 4, 3) := by decide +kernel
theorem dX9_append_30 : decode cX9_append 30 = .ok (.iconst 0, 1) := by decide +kernel
theorem dX9_append_31 : decode cX9_append 31 = .ok (.invokevirtual 77, 3) := by decide +kernel
theorem dX9_append_34 : decode cX9_append 34 = .ok (.ifCond .eq 5, 3) := by decide +kernel
theorem dX9_append_37 : decode cX9_append 37 = .ok (.iconst 0, 1) := by decide +kernel
theorem dX9_append_38 : decode cX9_append 38 = .ok (.ireturn, 1) := by decide +kernel
theorem dX9_append_39 : decode cX9_append 39 = .ok (.aload_n 0, 1) := by decide +kernel
theorem dX9_append_40 : decode cX9_append 40 = .ok (.getfield 33, 3) := by decide +kernel
theorem dX9_append_43 : decode cX9_append 43 = .ok (.aload_n 0, 1) := by decide +kernel
theorem dX9_append_44 : decode cX9_append 44 = .ok (.getfield 74, 3) := by decide +kernel
theorem dX9_append_47 : decode cX9_append 47 = .ok (.iload_n 1, 1) := by decide +kernel
theorem dX9_append_48 : decode cX9_append 48 = .ok (.iastore, 1) := by decide +kernel
theorem dX9_append_49 : decode cX9_append 49 = .ok (.aload_n 0, 1) := by decide +kernel
theorem dX9_append_50 : decode cX9_append 50 = .ok (.dup, 1) := by decide +kernel
theorem dX9_append_51 : decode cX9_append 51 = .ok (.getfield 74, 3) := by decide +kernel
theorem dX9_append_54 : decode cX9_append 54 = .ok (.iconst 1, 1) := by decide +kernel
theorem dX9_append_55 : decode cX9_append 55 = .ok (.iadd, 1) := by decide +kernel
theorem dX9_append_56 : decode cX9_append 56 = .ok (.putfield 74, 3) := by decide +kernel
theorem dX9_append_59 : decode cX9_append 59 = .ok (.aload_n 0, 1) := by decide +kernel
theorem dX9_append_60 : decode cX9_append 60 = .ok (.getfield 74, 3) := by decide +kernel
theorem dX9_append_63 : decode cX9_append 63 = .ok (.ireturn, 1) := by decide +kernel
theorem dX9_clearText_0 : decode cX9_clearText 0 = .ok (.aload_n 0, 1) := by decide +kernel
theorem dX9_clearText_1 : decode cX9_clearText 1 = .ok (.iconst 0, 1) := by decide +kernel
theorem dX9_clearText_2 : decode cX9_clearText 2 = .ok (.putfield 51, 3) := by decide +kernel
theorem dX9_clearText_5 : decode cX9_clearText 5 = .ok (.aload_n 0, 1) := by decide +kernel
theorem dX9_clearText_6 : decode cX9_clearText 6 = .ok (.getfield 74, 3) := by decide +kernel
theorem dX9_clearText_9 : decode cX9_clearText 9 = .ok (.istore_n 1, 1) := by decide +kernel
theorem dX9_clearText_10 : decode cX9_clearText 10 = .ok (.aload_n 0, 1) := by decide +kernel
theorem dX9_clearText_11 : decode cX9_clearText 11 = .ok (.iconst 0, 1) := by decide +kernel
theorem dX9_clearText_12 : decode cX9_clearText 12 = .ok (.putfield 74, 3) := by decide +kernel
theorem dX9_clearText_15 : decode cX9_clearText 15 = .ok (.iload_n 1, 1) := by decide +kernel
theorem dX9_clearText_16 : decode cX9_clearText 16 = .ok (.ireturn, 1) := by decide +kernel
set_option maxRecDepth 20000 in
theorem ggX9_digit_X9_in : GoodIn wsX9_digit wsX9_in := goodIn_r _ [7] (by decide +kernel) (by decide +kernel)
set_option maxRecDepth 20000 in
theorem gX9_digit_X9_in : GoodIn wsX9_digit (va_wsS RX9 58 yX9_in wsX9_in) := goodIn_app (goodIn_of _ (by decide +kernel)) ggX9_digit_X9_in
theorem dX9_digit_0 : decode cX9_digit 0 = .ok (.aload_n 0, 1) := by decide +kernel
theorem dX9_digit_1 : decode cX9_digit 1 = .ok (.getfield 81, 3) := by decide +kernel
theorem dX9_digit_4 : decode cX9_digit 4 = .ok (.aload_n 0, 1) := by decide +kernel
theorem dX9_digit_5 : decode cX9_digit 5 = .ok (.getfield 74, 3) := by decide +kernel
theorem dX9_digit_8 : decode cX9_digit 8 = .ok (.if_icmp .ge 18, 3) := by decide +kernel
theorem dX9_digit_11 : decode cX9_digit 11 = .ok (.aload_n 0, 1) := by decide +kernel
theorem dX9_digit_12 : decode cX9_digit 12 = .ok (.getfield 33, 3) := by decide +kernel
theorem dX9_digit_15 : decode cX9_digit 15 = .ok (.aload_n 0, 1) := by decide +kernel
theorem dX9_digit_16 : decode cX9_digit 16 = .ok (.getfield 81, 3) := by decide +kernel
theorem dX9_digit_19 : decode cX9_digit 19 = .ok (.iaload, 1) := by decide +kernel
theorem dX9_digit_20 : decode cX9_digit 20 = .ok (.bipush 48, 2) := by decide +kernel
theorem dX9_digit_22 : decode cX9_digit 22 = .ok (.isub, 1) := by decide +kernel
theorem dX9_digit_23 : decode cX9_digit 23 = .ok (.goto 5, 3) := by decide +kernel
theorem dX9_digit_26 : decode cX9_digit 26 = .ok (.bipush (-9), 2) := by decide +kernel
theorem dX9_digit_28 : decode cX9_digit 28 = .ok (.istore_n 3, 1) := by decide +kernel
theorem dX9_digit_29 : decode cX9_digit 29 = .ok (.iload_n 3, 1) := by decide +kernel
theorem dX9_digit_30 : decode cX9_digit 30 = .ok (.i2l, 1) := by decide +kernel
theorem dX9_digit_31 : decode cX9_digit 31 = .ok (.iload_n 1, 1) := by decide +kernel
theorem dX9_digit_32 : decode cX9_digit 32 = .ok (.i2l, 1) := by decide +kernel
theorem dX9_digit_33 : decode cX9_digit 33 = .ok (.iload_n 2, 1) := by decide +kernel
theorem dX9_digit_34 : decode cX9_digit 34 = .ok (.i2l, 1) := by decide +kernel
theorem dX9_digit_35 : decode cX9_digit 35 = .ok (.invokestatic 58, 3) := by decide +kernel
theorem dX9_digit_38 : decode cX9_digit 38 = .ok (.ifCond .ne 6, 3) := by decide +kernel
theorem dX9_digit_41 : decode cX9_digit 41 = .ok (.bipush (-9), 2) := by decide +kernel
theorem dX9_digit_43 : decode cX9_digit 43 = .ok (.ireturn, 1) := by decide +kernel
theorem dX9_digit_44 : decode cX9_digit 44 = .ok (.aload_n 0, 1) := by decide +kernel
theorem dX9_digit_45 : decode cX9_digit 45 = .ok (.dup, 1) := by decide +kernel
theorem dX9_digit_46 : decode cX9_digit 46 = .ok (.getfield 81, 3) := by decide +kernel
theorem dX9_digit_49 : decode cX9_digit 49 = .ok (.iconst 1, 1) := by decide +kernel
theorem dX9_digit_50 : decode cX9_digit 50 = .ok (.iadd, 1) := by decide +kernel
theorem dX9_digit_51 : decode cX9_digit 51 = .ok (.putfield 81, 3) := by decide +kernel
theorem dX9_digit_54 : decode cX9_digit 54 = .ok (.iload_n 3, 1) := by decide +kernel
theorem dX9_digit_55 : decode cX9_digit 55 = .ok (.ireturn, 1) := by decide +kernel
theorem dX9_readLetter_0 : decode cX9_readLetter 0 = .ok (.aload_n 0, 1) := by decide +kernel
theorem dX9_readLetter_1 : decode cX9_readLetter 1 = .ok (.getfield 81, 3) := by decide +kernel
theorem dX9_readLetter_4 : decode cX9_readLetter 4 = .ok (.aload_n 0, 1) := by decide +kernel
theorem dX9_readLetter_5 : decode cX9_readLetter 5 = .ok (.getfield 74, 3) := by decide +kernel
theorem dX9_readLetter_8 : decode cX9_readLetter 8 = .ok (.if_icmp .ge 20, 3) := by decide +kernel
theorem dX9_readLetter_11 : decode cX9_readLetter 11 = .ok (.aload_n 0, 1) := by decide +kernel
theorem dX9_readLetter_12 : decode cX9_readLetter 12 = .ok (.getfield 33, 3) := by decide +kernel
theorem dX9_readLetter_15 : decode cX9_readLetter 15 = .ok (.aload_n 0, 1) := by decide +kernel
theorem dX9_readLetter_16 : decode cX9_readLetter 16 = .ok (.getfield 81, 3) := by decide +kernel
theorem dX9_readLetter_19 : decode cX9_readLetter 19 = .ok (.iaload, 1) := by decide +kernel
theorem dX9_readLetter_20 : decode cX9_readLetter 20 = .ok (.iload_n 1, 1) := by decide +kernel
theorem dX9_readLetter_21 : decode cX9_readLetter 21 = .ok (.if_icmp .ne 7, 3) := by decide +kernel
theorem dX9_readLetter_24 : decode cX9_readLetter 24 = .ok (.iconst 1, 1) := by decide +kernel
theorem dX9_readLetter_25 : decode cX9_readLetter 25 = .ok (.goto 4, 3) := by decide +kernel
theorem dX9_readLetter_28 : decode cX9_readLetter 28 = .ok (.iconst 0, 1) := by decide +kernel
theorem dX9_readLetter_29 : decode cX9_readLetter 29 = .ok (.istore_n 2, 1) := by decide +kernel
theorem dX9_readLetter_30 : decode cX9_readLetter 30 = .ok (.aload_n 0, 1) := by decide +kernel
theorem dX9_readLetter_31 : decode cX9_readLetter 31 = .ok (.dup, 1) := by decide +kernel
theorem dX9_readLetter_32 : decode cX9_readLetter 32 = .ok (.getfield 81, 3) := by decide +kernel
theorem dX9_readLetter_35 : decode cX9_readLetter 35 = .ok (.iload_n 2, 1) := by decide +kernel
theorem dX9_readLetter_36 : decode cX9_readLetter 36 = .ok (.ifCond .eq 7, 3) := by decide +kernel
theorem dX9_readLetter_39 : decode cX9_readLetter 39 = .ok (.iconst 1, 1) := by decide +kernel
theorem dX9_readLetter_40 : decode cX9_readLetter 40 = .ok (.goto 4, 3) := by decide +kernel
theorem dX9_readLetter_43 : decode cX9_readLetter 43 = .ok (.iconst 0, 1) := by decide +kernel
theorem dX9_readLetter_44 : decode cX9_readLetter 44 = .ok (.iadd, 1) := by decide +kernel
theorem dX9_readLetter_45 : decode cX9_readLetter 45 = .ok (.putfield 81, 3) := by decide +kernel
theorem dX9_readLetter_48 : decode cX9_readLetter 48 = .ok (.iload_n 2, 1) := by decide +kernel
theorem dX9_readLetter_49 : decode cX9_readLetter 49 = .ok (.ireturn, 1) := by decide +kernel
set_option maxRecDepth 20000 in
theorem ggX9_readSlice_X9_digit : GoodIn wsX9_readSlice wsX9_digit := goodIn_r _ [6, 7, 8, 9, 10, 11, 5, 12, 13, 14, 15, 16, 17, 18, 19, 20, 21, 22, 23, 24, 25, 26, 27, 28, 29, 30, 31, 32] (by decide +kernel) (by decide +kernel)
set_option maxRecDepth 20000 in
theorem gX9_readSlice_X9_digit : GoodIn wsX9_readSlice (wsV RX9 84 RX9 yX9_digit wsX9_digit) := goodIn_app (goodIn_of _ (by decide +kernel)) ggX9_readSlice_X9_digit
theorem dX9_readSlice_0 : decode cX9_readSlice 0 = .ok (.aload_n 0, 1) := by decide +kernel
theorem dX9_readSlice_1 : decode cX9_readSlice 1 = .ok (.iconst 1, 1) := by decide +kernel
theorem dX9_readSlice_2 : decode cX9_readSlice 2 = .ok (.bipush 9, 2) := by decide +kernel
theorem dX9_readSlice_4 : decode cX9_readSlice 4 = .ok (.invokevirtual 84, 3) := by decide +kernel
theorem dX9_readSlice_7 : decode cX9_readSlice 7 = .ok (.istore_n 2, 1) := by decide +kernel
theorem dX9_readSlice_8 : decode cX9_readSlice 8 = .ok (.iload_n 2, 1) := by decide +kernel
theorem dX9_readSlice_9 : decode cX9_readSlice 9 = .ok (.bipush (-9), 2) := by decide +kernel
theorem dX9_readSlice_11 : decode cX9_readSlice 11 = .ok (.if_icmp .ne 8, 3) := by decide +kernel
theorem dX9_readSlice_14 : decode cX9_readSlice 14 = .ok (.bipush (-9), 2) := by decide +kernel
theorem dX9_readSlice_16 : decode cX9_readSlice 16 = .ok (.goto 10, 3) := by decide +kernel
theorem dX9_readSlice_19 : decode cX9_readSlice 19 = .ok (.aload_n 0, 1) := by decide +kernel
theorem dX9_readSlice_20 : decode cX9_readSlice 20 = .ok (.iconst 0, 1) := by decide +kernel
theorem dX9_readSlice_21 : decode cX9_readSlice 21 = .ok (.bipush 9, 2) := by decide +kernel
theorem dX9_readSlice_23 : decode cX9_readSlice 23 = .ok (.invokevirtual 84, 3) := by decide +kernel
theorem dX9_readSlice_26 : decode cX9_readSlice 26 = .ok (.istore_n 3, 1) := by decide +kernel
theorem dX9_readSlice_27 : decode cX9_readSlice 27 = .ok (.iload_n 3, 1) := by decide +kernel
theorem dX9_readSlice_28 : decode cX9_readSlice 28 = .ok (.bipush (-9), 2) := by decide +kernel
theorem dX9_readSlice_30 : decode cX9_readSlice 30 = .ok (.if_icmp .ne 5, 3) := by decide +kernel
theorem dX9_readSlice_33 : decode cX9_readSlice 33 = .ok (.iconst 0, 1) := by decide +kernel
theorem dX9_readSlice_34 : decode cX9_readSlice 34 = .ok (.ireturn, 1) := by decide +kernel
theorem dX9_readSlice_35 : decode cX9_readSlice 35 = .ok (.bipush 15, 2) := by decide +kernel
theorem dX9_readSlice_37 : decode cX9_readSlice 37 = .ok (.iload_n 1, 1) := by decide +kernel
theorem dX9_readSlice_38 : decode cX9_readSlice 38 = .ok (.imul, 1) := by decide +kernel
theorem dX9_readSlice_39 : decode cX9_readSlice 39 = .ok (.iconst 3, 1) := by decide +kernel
theorem dX9_readSlice_40 : decode cX9_readSlice 40 = .ok (.iadd, 1) := by decide +kernel
theorem dX9_readSlice_41 : decode cX9_readSlice 41 = .ok (.iconst 2, 1) := by decide +kernel
theorem dX9_readSlice_42 : decode cX9_readSlice 42 = .ok (.aload_n 0, 1) := by decide +kernel
theorem dX9_readSlice_43 : decode cX9_readSlice 43 = .ok (.getfield 36, 3) := by decide +kernel
theorem dX9_readSlice_46 : decode cX9_readSlice 46 = .ok (.bipush 15, 2) := by decide +kernel
theorem dX9_readSlice_48 : decode cX9_readSlice 48 = .ok (.iload_n 1, 1) := by decide +kernel
theorem dX9_readSlice_49 : decode cX9_readSlice 49 = .ok (.imul, 1) := by decide +kernel
theorem dX9_readSlice_50 : decode cX9_readSlice 50 = .ok (.iconst 2, 1) := by decide +kernel
theorem dX9_readSlice_51 : decode cX9_readSlice 51 = .ok (.iadd, 1) := by decide +kernel
theorem dX9_readSlice_52 : decode cX9_readSlice 52 = .ok (.iaload, 1) := by decide +kernel
theorem dX9_readSlice_53 : decode cX9_readSlice 53 = .ok (.imul, 1) := by decide +kernel
theorem dX9_readSlice_54 : decode cX9_readSlice 54 = .ok (.iadd, 1) := by decide +kernel
theorem dX9_readSlice_55 : decode cX9_readSlice 55 = .ok (.istore 4, 2) := by decide +kernel
theorem dX9_readSlice_57 : decode cX9_readSlice 57 = .ok (.aload_n 0, 1) := by decide +kernel
theorem dX9_readSlice_58 : decode cX9_readSlice 58 = .ok (.getfield 36, 3) := by decide +kernel
theorem dX9_readSlice_61 : decode cX9_readSlice 61 = .ok (.iload 4, 2) := by decide +kernel
theorem dX9_readSlice_63 : decode cX9_readSlice 63 = .ok (.iload_n 2, 1) := by decide +kernel
theorem dX9_readSlice_64 : decode cX9_readSlice 64 = .ok (.iastore, 1) := by decide +kernel
theorem dX9_readSlice_65 : decode cX9_readSlice 65 = .ok (.aload_n 0, 1) := by decide +kernel
theorem dX9_readSlice_66 : decode cX9_readSlice 66 = .ok (.getfield 36, 3) := by decide +kernel
theorem dX9_readSlice_69 : decode cX9_readSlice 69 = .ok (.iload 4, 2) := by decide +kernel
theorem dX9_readSlice_71 : decode cX9_readSlice 71 = .ok (.iconst 1, 1) := by decide +kernel
theorem dX9_readSlice_72 : decode cX9_readSlice 72 = .ok (.iadd, 1) := by decide +kernel
theorem dX9_readSlice_73 : decode cX9_readSlice 73 = .ok (.iload_n 3, 1) := by decide +kernel
theorem dX9_readSlice_74 : decode cX9_readSlice 74 = .ok (.iastore, 1) := by decide +kernel
theorem dX9_readSlice_75 : decode cX9_readSlice 75 = .ok (.aload_n 0, 1) := by decide +kernel
theorem dX9_readSlice_76 : decode cX9_readSlice 76 = .ok (.getfield 36, 3) := by decide +kernel
theorem dX9_readSlice_79 : decode cX9_readSlice 79 = .ok (.bipush 15, 2) := by decide +kernel
theorem dX9_readSlice_81 : decode cX9_readSlice 81 = .ok (.iload_n 1, 1) := by decide +kernel
theorem dX9_readSlice_82 : decode cX9_readSlice 82 = .ok (.imul, 1) := by decide +kernel
theorem dX9_readSlice_83 : decode cX9_readSlice 83 = .ok (.iconst 2, 1) := by decide +kernel
theorem dX9_readSlice_84 : decode cX9_readSlice 84 = .ok (.iadd, 1) := by decide +kernel
theorem dX9_readSlice_85 : decode cX9_readSlice 85 = .ok (.dup2, 1) := by decide +kernel
theorem dX9_readSlice_86 : decode cX9_readSlice 86 = .ok (.iaload, 1) := by decide +kernel
theorem dX9_readSlice_87 : decode cX9_readSlice 87 = .ok (.iconst 1, 1) := by decide +kernel
theorem dX9_readSlice_88 : decode cX9_readSlice 88 = .ok (.iadd, 1) := by decide +kernel
theorem dX9_readSlice_89 : decode cX9_readSlice 89 = .ok (.iastore, 1) := by decide +kernel
theorem dX9_readSlice_90 : decode cX9_readSlice 90 = .ok (.iconst 1, 1) := by decide +kernel
theorem dX9_readSlice_91 : decode cX9_readSlice 91 = .ok (.ireturn, 1) := by decide +kernel
set_option maxRecDepth 20000 in
theorem ggX9_readColumn_X9_readLetter : GoodIn wsX9_readColumn wsX9_readLetter := goodIn_r _ [6, 7, 8, 9, 21, 22, 23, 24, 25, 26, 27, 28, 29, 30, 31, 32, 33, 34, 35, 36, 37, 38, 39, 40] (by decide +kernel) (by decide +kernel)
set_option maxRecDepth 20000 in
theorem gX9_readColumn_X9_readLetter : GoodIn wsX9_readColumn (wsV RX9 88 RX9 yX9_readLetter wsX9_readLetter) := goodIn_app (goodIn_of _ (by decide +kernel)) ggX9_readColumn_X9_readLetter
set_option maxRecDepth 20000 in
theorem ggX9_readColumn_X9_readSlice : GoodIn wsX9_readColumn wsX9_readSlice := goodIn_r _ [13, 1, 14, 15, 16, 5, 17, 7, 8, 9, 18, 19, 20, 21, 22, 23, 24, 25, 26, 27, 28, 29, 30, 31, 32, 33, 34, 35, 36, 37, 38, 39, 40] (by decide +kernel) (by decide +kernel)
set_option maxRecDepth 20000 in
theorem gX9_readColumn_X9_readSlice : GoodIn wsX9_readColumn (wsV RX9 91 RX9 yX9_readSlice wsX9_readSlice) := goodIn_app (goodIn_of _ (by decide +kernel)) ggX9_readColumn_X9_readSlice
theorem dX9_readColumn_0 : decode cX9_readColumn 0 = .ok (.aload_n 0, 1) := by decide +kernel
theorem dX9_readColumn_1 : decode cX9_readColumn 1 = .ok (.bipush 59, 2) := by decide +kernel
theorem dX9_readColumn_3 : decode cX9_readColumn 3 = .ok (.invokevirtual 88, 3) := by decide +kernel
theorem dX9_readColumn_6 : decode cX9_readColumn 6 = .ok (.ifCond .ne 29, 3) := by decide +kernel
theorem dX9_readColumn_9 : decode cX9_readColumn 9 = .ok (.aload_n 0, 1) := by decide +kernel
theorem dX9_readColumn_10 : decode cX9_readColumn 10 = .ok (.getfield 36, 3) := by decide +kernel
theorem dX9_readColumn_13 : decode cX9_readColumn 13 = .ok (.bipush 15, 2) := by decide +kernel
theorem dX9_readColumn_15 : decode cX9_readColumn 15 = .ok (.iload_n 1, 1) := by decide +kernel
theorem dX9_readColumn_16 : decode cX9_readColumn 16 = .ok (.imul, 1) := by decide +kernel
theorem dX9_readColumn_17 : decode cX9_readColumn 17 = .ok (.iconst 2, 1) := by decide +kernel
theorem dX9_readColumn_18 : decode cX9_readColumn 18 = .ok (.iadd, 1) := by decide +kernel
theorem dX9_readColumn_19 : decode cX9_readColumn 19 = .ok (.iaload, 1) := by decide +kernel
theorem dX9_readColumn_20 : decode cX9_readColumn 20 = .ok (.bipush 6, 2) := by decide +kernel
theorem dX9_readColumn_22 : decode cX9_readColumn 22 = .ok (.if_icmp .eq 11, 3) := by decide +kernel
theorem dX9_readColumn_25 : decode cX9_readColumn 25 = .ok (.aload_n 0, 1) := by decide +kernel
theorem dX9_readColumn_26 : decode cX9_readColumn 26 = .ok (.iload_n 1, 1) := by decide +kernel
theorem dX9_readColumn_27 : decode cX9_readColumn 27 = .ok (.invokevirtual 91, 3) := by decide +kernel
theorem dX9_readColumn_30 : decode cX9_readColumn 30 = .ok (.ifCond .ne (-30), 3) := by decide +kernel
theorem dX9_readColumn_33 : decode cX9_readColumn 33 = .ok (.iconst 0, 1) := by decide +kernel
theorem dX9_readColumn_34 : decode cX9_readColumn 34 = .ok (.ireturn, 1) := by decide +kernel
theorem dX9_readColumn_35 : decode cX9_readColumn 35 = .ok (.iconst 1, 1) := by decide +kernel
theorem dX9_readColumn_36 : decode cX9_readColumn 36 = .ok (.ireturn, 1) := by decide +kernel
set_option maxRecDepth 20000 in
theorem ggX9_readText_X9_readLetter : GoodIn wsX9_readText wsX9_readLetter := goodIn_r _ [10, 2, 5, 11, 27, 28, 29, 30, 31, 32, 33, 34, 35, 36, 37, 38, 39, 40, 41, 42, 43, 44, 45, 46] (by decide +kernel) (by decide +kernel)
set_option maxRecDepth 20000 in
theorem gX9_readText_X9_readLetter : GoodIn wsX9_readText (wsV RX9 88 RX9 yX9_readLetter wsX9_readLetter) := goodIn_app (goodIn_of _ (by decide +kernel)) ggX9_readText_X9_readLetter
set_option maxRecDepth 20000 in
theorem ggX9_readText_X9_digit : GoodIn wsX9_readText wsX9_digit := goodIn_r _ [15, 2, 5, 11, 16, 17, 9, 18, 27, 28, 29, 30, 31, 32, 33, 34, 35, 36, 37, 38, 39, 40, 41, 42, 43, 44, 45, 46] (by decide +kernel) (by decide +kernel)
set_option maxRecDepth 20000 in
theorem gX9_readText_X9_digit : GoodIn wsX9_readText (wsV RX9 84 RX9 yX9_digit wsX9_digit) := goodIn_app (goodIn_of _ (by decide +kernel)) ggX9_readText_X9_digit
set_option maxRecDepth 20000 in
theorem ggX9_readText_X9_readColumn : GoodIn wsX9_readText wsX9_readColumn := goodIn_r _ [22, 1, 6, 7, 8, 9, 10, 2, 5, 11, 23, 24, 25, 26, 12, 13, 14, 15, 16, 17, 18, 27, 28, 29, 30, 31, 32, 33, 34, 35, 36, 37, 38, 39, 40, 41, 42, 43, 44, 45, 46] (by decide +kernel) (by decide +kernel)
set_option maxRecDepth 20000 in
theorem gX9_readText_X9_readColumn : GoodIn wsX9_readText (wsV RX9 100 RX9 yX9_readColumn wsX9_readColumn) := goodIn_app (goodIn_of _ (by decide +kernel)) ggX9_readText_X9_readColumn
theorem dX9_readText_0 : decode cX9_readText 0 = .ok (.iconst 0, 1) := by decide +kernel
theorem dX9_readText_1 : decode cX9_readText 1 = .ok (.istore_n 1, 1) := by decide +kernel
theorem dX9_readText_2 : decode cX9_readText 2 = .ok (.iload_n 1, 1) := by decide +kernel
theorem dX9_readText_3 : decode cX9_readText 3 = .ok (.sipush 243, 3) := by decide +kernel
theorem dX9_readText_6 : decode cX9_readText 6 = .ok (.if_icmp .ge 16, 3) := by decide +kernel
theorem dX9_readText_9 : decode cX9_readText 9 = .ok (.aload_n 0, 1) := by decide +kernel
theorem dX9_readText_10 : decode cX9_readText 10 = .ok (.getfield 36, 3) := by decide +kernel
theorem dX9_readText_13 : decode cX9_readText 13 = .ok (.iload_n 1, 1) := by decide +kernel
theorem dX9_readText_14 : decode cX9_readText 14 = .ok (.iconst 0, 1) := by decide +kernel
theorem dX9_readText_15 : decode cX9_readText 15 = .ok (.iastore, 1) := by decide +kernel
theorem dX9_readText_16 : decode cX9_readText 16 = .ok (.iinc 1 1, 3) := by decide +kernel
theorem dX9_readText_19 : decode cX9_readText 19 = .ok (.goto (-17), 3) := by decide +kernel
theorem dX9_readText_22 : decode cX9_readText 22 = .ok (.aload_n 0, 1) := by decide +kernel
theorem dX9_readText_23 : decode cX9_readText 23 = .ok (.iconst 0, 1) := by decide +kernel
theorem dX9_readText_24 : decode cX9_readText 24 = .ok (.putfield 81, 3) := by decide +kernel
theorem dX9_readText_27 : decode cX9_readText 27 = .ok (.aload_n 0, 1) := by decide +kernel
theorem dX9_readText_28 : decode cX9_readText 28 = .ok (.bipush 68, 2) := by decide +kernel
theorem dX9_readText_30 : decode cX9_readText 30 = .ok (.invokevirtual 88, 3) := by decide +kernel
theorem dX9_readText_33 : decode cX9_readText 33 = .ok (.ifCond .ne 8, 3) := by decide +kernel
theorem dX9_readText_36 : decode cX9_readText 36 = .ok (.aload_n 0, 1) := by decide +kernel
theorem dX9_readText_37 : decode cX9_readText 37 = .ok (.getfield 81, 3) := by decide +kernel
theorem dX9_readText_40 : decode cX9_readText 40 = .ok (.ireturn, 1) := by decide +kernel
theorem dX9_readText_41 : decode cX9_readText 41 = .ok (.aload_n 0, 1) := by decide +kernel
theorem dX9_readText_42 : decode cX9_readText 42 = .ok (.aload_n 0, 1) := by decide +kernel
theorem dX9_readText_43 : decode cX9_readText 43 = .ok (.iconst 1, 1) := by decide +kernel
theorem dX9_readText_44 : decode cX9_readText 44 = .ok (.iconst 4, 1) := by decide +kernel
theorem dX9_readText_45 : decode cX9_readText 45 = .ok (.invokevirtual 84, 3) := by decide +kernel
theorem dX9_readText_48 : decode cX9_readText 48 = .ok (.putfield 94, 3) := by decide +kernel
theorem dX9_readText_51 : decode cX9_readText 51 = .ok (.aload_n 0, 1) := by decide +kernel
theorem dX9_readText_52 : decode cX9_readText 52 = .ok (.aload_n 0, 1) := by decide +kernel
theorem dX9_readText_53 : decode cX9_readText 53 = .ok (.getfield 94, 3) := by decide +kernel
theorem dX9_readText_56 : decode cX9_readText 56 = .ok (.bipush (-9), 2) := by decide +kernel
theorem dX9_readText_58 : decode cX9_readText 58 = .ok (.if_icmp .ne 8, 3) := by decide +kernel
theorem dX9_readText_61 : decode cX9_readText 61 = .ok (.bipush (-9), 2) := by decide +kernel
theorem dX9_readText_63 : decode cX9_readText 63 = .ok (.goto 9, 3) := by decide +kernel
theorem dX9_readText_66 : decode cX9_readText 66 = .ok (.aload_n 0, 1) := by decide +kernel
theorem dX9_readText_67 : decode cX9_readText 67 = .ok (.iconst 1, 1) := by decide +kernel
theorem dX9_readText_68 : decode cX9_readText 68 = .ok (.iconst 4, 1) := by decide +kernel
theorem dX9_readText_69 : decode cX9_readText 69 = .ok (.invokevirtual 84, 3) := by decide +kernel
theorem dX9_readText_72 : decode cX9_readText 72 = .ok (.putfield 97, 3) := by decide +kernel
theorem dX9_readText_75 : decode cX9_readText 75 = .ok (.aload_n 0, 1) := by decide +kernel
theorem dX9_readText_76 : decode cX9_readText 76 = .ok (.getfield 36, 3) := by decide +kernel
theorem dX9_readText_79 : decode cX9_readText 79 = .ok (.sipush 240, 3) := by decide +kernel
theorem dX9_readText_82 : decode cX9_readText 82 = .ok (.aload_n 0, 1) := by decide +kernel
theorem dX9_readText_83 : decode cX9_readText 83 = .ok (.getfield 97, 3) := by decide +kernel
theorem dX9_readText_86 : decode cX9_readText 86 = .ok (.bipush (-9), 2) := by decide +kernel
theorem dX9_readText_88 : decode cX9_readText 88 = .ok (.if_icmp .ne 8, 3) := by decide +kernel
theorem dX9_readText_91 : decode cX9_readText 91 = .ok (.bipush (-9), 2) := by decide +kernel
theorem dX9_readText_93 : decode cX9_readText 93 = .ok (.goto 10, 3) := by decide +kernel
theorem dX9_readText_96 : decode cX9_readText 96 = .ok (.aload_n 0, 1) := by decide +kernel
theorem dX9_readText_97 : decode cX9_readText 97 = .ok (.iconst 1, 1) := by decide +kernel
theorem dX9_readText_98 : decode cX9_readText 98 = .ok (.bipush 9, 2) := by decide +kernel
theorem dX9_readText_100 : decode cX9_readText 100 = .ok (.invokevirtual 84, 3) := by decide +kernel
theorem dX9_readText_103 : decode cX9_readText 103 = .ok (.iastore, 1) := by decide +kernel
theorem dX9_readText_104 : decode cX9_readText 104 = .ok (.aload_n 0, 1) := by decide +kernel
theorem dX9_readText_105 : decode cX9_readText 105 = .ok (.getfield 36, 3) := by decide +kernel
theorem dX9_readText_108 : decode cX9_readText 108 = .ok (.sipush 240, 3) := by decide +kernel
theorem dX9_readText_111 : decode cX9_readText 111 = .ok (.iaload, 1) := by decide +kernel
theorem dX9_readText_112 : decode cX9_readText 112 = .ok (.bipush (-9), 2) := by decide +kernel
theorem dX9_readText_114 : decode cX9_readText 114 = .ok (.if_icmp .ne 8, 3) := by decide +kernel
theorem dX9_readText_117 : decode cX9_readText 117 = .ok (.aload_n 0, 1) := by decide +kernel
theorem dX9_readText_118 : decode cX9_readText 118 = .ok (.getfield 81, 3) := by decide +kernel
theorem dX9_readText_121 : decode cX9_readText 121 = .ok (.ireturn, 1) := by decide +kernel
theorem dX9_readText_122 : decode cX9_readText 122 = .ok (.iconst 0, 1) := by decide +kernel
theorem dX9_readText_123 : decode cX9_readText 123 = .ok (.istore_n 1, 1) := by decide +kernel
theorem dX9_readText_124 : decode cX9_readText 124 = .ok (.iload_n 1, 1) := by decide +kernel
theorem dX9_readText_125 : decode cX9_readText 125 = .ok (.aload_n 0, 1) := by decide +kernel
theorem dX9_readText_126 : decode cX9_readText 126 = .ok (.getfield 94, 3) := by decide +kernel
theorem dX9_readText_129 : decode cX9_readText 129 = .ok (.aload_n 0, 1) := by decide +kernel
theorem dX9_readText_130 : decode cX9_readText 130 = .ok (.getfield 97, 3) := by decide +kernel
theorem dX9_readText_133 : decode cX9_readText 133 = .ok (.imul, 1) := by decide +kernel
theorem dX9_readText_134 : decode cX9_readText 134 = .ok (.if_icmp .ge 22, 3) := by decide +kernel
theorem dX9_readText_137 : decode cX9_readText 137 = .ok (.aload_n 0, 1) := by decide +kernel
theorem dX9_readText_138 : decode cX9_readText 138 = .ok (.iload_n 1, 1) := by decide +kernel
theorem dX9_readText_139 : decode cX9_readText 139 = .ok (.invokevirtual 100, 3) := by decide +kernel
theorem dX9_readText_142 : decode cX9_readText 142 = .ok (.ifCond .ne 8, 3) := by decide +kernel
theorem dX9_readText_145 : decode cX9_readText 145 = .ok (.aload_n 0, 1) := by decide +kernel
theorem dX9_readText_146 : decode cX9_readText 146 = .ok (.getfield 81, 3) := by decide +kernel
theorem dX9_readText_149 : decode cX9_readText 149 = .ok (.ireturn, 1) := by decide +kernel
theorem dX9_readText_150 : decode cX9_readText 150 = .ok (.iinc 1 1, 3) := by decide +kernel
theorem dX9_readText_153 : decode cX9_readText 153 = .ok (.goto (-29), 3) := by decide +kernel
theorem dX9_readText_156 : decode cX9_readText 156 = .ok (.aload_n 0, 1) := by decide +kernel
theorem dX9_readText_157 : decode cX9_readText 157 = .ok (.getfield 81, 3) := by decide +kernel
theorem dX9_readText_160 : decode cX9_readText 160 = .ok (.aload_n 0, 1) := by decide +kernel
theorem dX9_readText_161 : decode cX9_readText 161 = .ok (.getfield 74, 3) := by decide +kernel
theorem dX9_readText_164 : decode cX9_readText 164 = .ok (.if_icmp .ne 8, 3) := by decide +kernel
theorem dX9_readText_167 : decode cX9_readText 167 = .ok (.bipush (-9), 2) := by decide +kernel
theorem dX9_readText_169 : decode cX9_readText 169 = .ok (.goto 7, 3) := by decide +kernel
theorem dX9_readText_172 : decode cX9_readText 172 = .ok (.aload_n 0, 1) := by decide +kernel
theorem dX9_readText_173 : decode cX9_readText 173 = .ok (.getfield 81, 3) := by decide +kernel
theorem dX9_readText_176 : decode cX9_readText 176 = .ok (.ireturn, 1) := by decide +kernel
set_option maxRecDepth 20000 in
theorem ggX9_errorPosition_X9_readText : GoodIn wsX9_errorPosition wsX9_readText := goodIn_r _ [6, 7, 8, 9, 10, 11, 12, 13, 14, 5, 15, 16, 17, 18, 19, 20, 21, 22, 23, 24, 25, 26, 27, 28, 29, 30, 31, 32, 33, 34, 35, 36, 37, 38, 39, 40, 41, 42, 43, 44, 45, 46, 47, 48, 49, 50, 51] (by decide +kernel) (by decide +kernel)
set_option maxRecDepth 20000 in
theorem gX9_errorPosition_X9_readText : GoodIn wsX9_errorPosition (wsV RX9 103 RX9 yX9_readText wsX9_readText) := goodIn_app (goodIn_of _ (by decide +kernel)) ggX9_errorPosition_X9_readText
theorem dX9_errorPosition_0 : decode cX9_errorPosition 0 = .ok (.aload_n 0, 1) := by decide +kernel
theorem dX9_errorPosition_1 : decode cX9_errorPosition 1 = .ok (.iconst 0, 1) := by decide +kernel
theorem dX9_errorPosition_2 : decode cX9_errorPosition 2 = .ok (.putfield 51, 3) := by decide +kernel
theorem dX9_errorPosition_5 : decode cX9_errorPosition 5 = .ok (.aload_n 0, 1) := by decide +kernel
theorem dX9_errorPosition_6 : decode cX9_errorPosition 6 = .ok (.invokevirtual 103, 3) := by decide +kernel
theorem dX9_errorPosition_9 : decode cX9_errorPosition 9 = .ok (.ireturn, 1) := by decide +kernel
set_option maxRecDepth 20000 in
theorem ggX9_load_X9_readText : GoodIn wsX9_load wsX9_readText := goodIn_r _ [13, 5, 14, 1, 3, 15, 16, 17, 18, 12, 19, 20, 21, 22, 23, 24, 25, 26, 27, 28, 29, 30, 31, 32, 33, 34, 35, 48, 49, 50, 51, 52, 53, 54, 55, 56, 57, 58, 59, 60, 61, 62, 63, 64, 65, 66, 67] (by decide +kernel) (by decide +kernel)
set_option maxRecDepth 20000 in
theorem gX9_load_X9_readText : GoodIn wsX9_load (wsV RX9 103 RX9 yX9_readText wsX9_readText) := goodIn_app (goodIn_of _ (by decide +kernel)) ggX9_load_X9_readText
set_option maxRecDepth 20000 in
theorem ggX9_load_X9_refused : GoodIn wsX9_load wsX9_refused := goodIn_r _ [39, 40, 48, 49, 50, 51, 52, 53, 54, 55, 56, 57, 58, 59, 60, 61, 62, 63, 64, 65, 66, 67] (by decide +kernel) (by decide +kernel)
set_option maxRecDepth 20000 in
theorem gX9_load_X9_refused : GoodIn wsX9_load (wsV RX9 77 RX9 yX9_refused wsX9_refused) := goodIn_app (goodIn_of _ (by decide +kernel)) ggX9_load_X9_refused
set_option maxRecDepth 20000 in
theorem ggX9_load_X9_copy : GoodIn wsX9_load wsX9_copy := goodIn_r _ [43] (by decide +kernel) (by decide +kernel)
set_option maxRecDepth 20000 in
theorem gX9_load_X9_copy : GoodIn wsX9_load (va_wsS RX9 65 yX9_copy wsX9_copy) := goodIn_app (goodIn_of _ (by decide +kernel)) ggX9_load_X9_copy
set_option maxRecDepth 20000 in
theorem ggX9_load_X9_points : GoodIn wsX9_load wsX9_points := goodIn_r _ [47, 2, 4, 48, 49, 50, 51, 52, 53, 54, 55, 56, 57, 58, 59, 60, 61, 62, 63, 64, 65, 66, 67] (by decide +kernel) (by decide +kernel)
set_option maxRecDepth 20000 in
theorem gX9_load_X9_points : GoodIn wsX9_load (wsV RX9 54 RX9 yX9_points wsX9_points) := goodIn_app (goodIn_of _ (by decide +kernel)) ggX9_load_X9_points
theorem dX9_load_0 : decode cX9_load 0 = .ok (.aload_n 0, 1) := by decide +kernel
theorem dX9_load_1 : decode cX9_load 1 = .ok (.aload_n 0, 1) := by decide +kernel
theorem dX9_load_2 : decode cX9_load 2 = .ok (.invokevirtual 103, 3) := by decide +kernel
theorem dX9_load_5 : decode cX9_load 5 = .ok (.bipush (-9), 2) := by decide +kernel
theorem dX9_load_7 : decode cX9_load 7 = .ok (.if_icmp .ne 7, 3) := by decide +kernel
theorem dX9_load_10 : decode cX9_load 10 = .ok (.iconst 0, 1) := by decide +kernel
theorem dX9_load_11 : decode cX9_load 11 = .ok (.goto 4, 3) := by decide +kernel
theorem dX9_load_14 : decode cX9_load 14 = .ok (.iconst 1, 1) := by decide +kernel
theorem dX9_load_15 : decode cX9_load 15 = .ok (.invokevirtual 77, 3) := by decide +kernel
theorem dX9_load_18 : decode cX9_load 18 = .ok (.ifCond .eq 5, 3) := by decide +kernel
theorem dX9_load_21 : decode cX9_load 21 = .ok (.iconst 0, 1) := by decide +kernel
theorem dX9_load_22 : decode cX9_load 22 = .ok (.ireturn, 1) := by decide +kernel
theorem dX9_load_23 : decode cX9_load 23 = .ok (.aload_n 0, 1) := by decide +kernel
theorem dX9_load_24 : decode cX9_load 24 = .ok (.aload_n 0, 1) := by decide +kernel
theorem dX9_load_25 : decode cX9_load 25 = .ok (.getfield 94, 3) := by decide +kernel
theorem dX9_load_28 : decode cX9_load 28 = .ok (.putfield 7, 3) := by decide +kernel
theorem dX9_load_31 : decode cX9_load 31 = .ok (.aload_n 0, 1) := by decide +kernel
theorem dX9_load_32 : decode cX9_load 32 = .ok (.aload_n 0, 1) := by decide +kernel
theorem dX9_load_33 : decode cX9_load 33 = .ok (.getfield 97, 3) := by decide +kernel
theorem dX9_load_36 : decode cX9_load 36 = .ok (.putfield 13, 3) := by decide +kernel
theorem dX9_load_39 : decode cX9_load 39 = .ok (.aload_n 0, 1) := by decide +kernel
theorem dX9_load_40 : decode cX9_load 40 = .ok (.getfield 36, 3) := by decide +kernel
theorem dX9_load_43 : decode cX9_load 43 = .ok (.iconst 0, 1) := by decide +kernel
theorem dX9_load_44 : decode cX9_load 44 = .ok (.aload_n 0, 1) := by decide +kernel
theorem dX9_load_45 : decode cX9_load 45 = .ok (.getfield 16, 3) := by decide +kernel
theorem dX9_load_48 : decode cX9_load 48 = .ok (.iconst 0, 1) := by decide +kernel
theorem dX9_load_49 : decode cX9_load 49 = .ok (.invokestatic 65, 3) := by decide +kernel
theorem dX9_load_52 : decode cX9_load 52 = .ok (.aload_n 0, 1) := by decide +kernel
theorem dX9_load_53 : decode cX9_load 53 = .ok (.iconst 0, 1) := by decide +kernel
theorem dX9_load_54 : decode cX9_load 54 = .ok (.putfield 69, 3) := by decide +kernel
theorem dX9_load_57 : decode cX9_load 57 = .ok (.aload_n 0, 1) := by decide +kernel
theorem dX9_load_58 : decode cX9_load 58 = .ok (.getfield 29, 3) := by decide +kernel
theorem dX9_load_61 : decode cX9_load 61 = .ok (.iconst 0, 1) := by decide +kernel
theorem dX9_load_62 : decode cX9_load 62 = .ok (.iconst 0, 1) := by decide +kernel
theorem dX9_load_63 : decode cX9_load 63 = .ok (.bastore, 1) := by decide +kernel
theorem dX9_load_64 : decode cX9_load 64 = .ok (.aload_n 0, 1) := by decide +kernel
theorem dX9_load_65 : decode cX9_load 65 = .ok (.getfield 29, 3) := by decide +kernel
theorem dX9_load_68 : decode cX9_load 68 = .ok (.iconst 1, 1) := by decide +kernel
theorem dX9_load_69 : decode cX9_load 69 = .ok (.iconst 0, 1) := by decide +kernel
theorem dX9_load_70 : decode cX9_load 70 = .ok (.bastore, 1) := by decide +kernel
theorem dX9_load_71 : decode cX9_load 71 = .ok (.aload_n 0, 1) := by decide +kernel
theorem dX9_load_72 : decode cX9_load 72 = .ok (.invokevirtual 54, 3) := by decide +kernel
theorem dX9_load_75 : decode cX9_load 75 = .ok (.ireturn, 1) := by decide +kernel
theorem dX9_remainingOf_0 : decode cX9_remainingOf 0 = .ok (.iconst 0, 1) := by decide +kernel
theorem dX9_remainingOf_1 : decode cX9_remainingOf 1 = .ok (.istore_n 3, 1) := by decide +kernel
theorem dX9_remainingOf_2 : decode cX9_remainingOf 2 = .ok (.iconst 0, 1) := by decide +kernel
theorem dX9_remainingOf_3 : decode cX9_remainingOf 3 = .ok (.istore 4, 2) := by decide +kernel
theorem dX9_remainingOf_5 : decode cX9_remainingOf 5 = .ok (.iload 4, 2) := by decide +kernel
theorem dX9_remainingOf_7 : decode cX9_remainingOf 7 = .ok (.aload_n 0, 1) := by decide +kernel
theorem dX9_remainingOf_8 : decode cX9_remainingOf 8 = .ok (.iload_n 1, 1) := by decide +kernel
theorem dX9_remainingOf_9 : decode cX9_remainingOf 9 = .ok (.bipush 15, 2) := by decide +kernel
theorem dX9_remainingOf_11 : decode cX9_remainingOf 11 = .ok (.iload_n 2, 1) := by decide +kernel
theorem dX9_remainingOf_12 : decode cX9_remainingOf 12 = .ok (.imul, 1) := by decide +kernel
theorem dX9_remainingOf_13 : decode cX9_remainingOf 13 = .ok (.iadd, 1) := by decide +kernel
theorem dX9_remainingOf_14 : decode cX9_remainingOf 14 = .ok (.iconst 2, 1) := by decide +kernel
theorem dX9_remainingOf_15 : decode cX9_remainingOf 15 = .ok (.iadd, 1) := by decide +kernel
theorem dX9_remainingOf_16 : decode cX9_remainingOf 16 = .ok (.iaload, 1) := by decide +kernel
theorem dX9_remainingOf_17 : decode cX9_remainingOf 17 = .ok (.if_icmp .ge 27, 3) := by decide +kernel
theorem dX9_remainingOf_20 : decode cX9_remainingOf 20 = .ok (.iload_n 3, 1) := by decide +kernel
theorem dX9_remainingOf_21 : decode cX9_remainingOf 21 = .ok (.aload_n 0, 1) := by decide +kernel
theorem dX9_remainingOf_22 : decode cX9_remainingOf 22 = .ok (.iload_n 1, 1) := by decide +kernel
theorem dX9_remainingOf_23 : decode cX9_remainingOf 23 = .ok (.bipush 15, 2) := by decide +kernel
theorem dX9_remainingOf_25 : decode cX9_remainingOf 25 = .ok (.iload_n 2, 1) := by decide +kernel
theorem dX9_remainingOf_26 : decode cX9_remainingOf 26 = .ok (.imul, 1) := by decide +kernel
theorem dX9_remainingOf_27 : decode cX9_remainingOf 27 = .ok (.iadd, 1) := by decide +kernel
theorem dX9_remainingOf_28 : decode cX9_remainingOf 28 = .ok (.iconst 3, 1) := by decide +kernel
theorem dX9_remainingOf_29 : decode cX9_remainingOf 29 = .ok (.iadd, 1) := by decide +kernel
theorem dX9_remainingOf_30 : decode cX9_remainingOf 30 = .ok (.iconst 2, 1) := by decide +kernel
theorem dX9_remainingOf_31 : decode cX9_remainingOf 31 = .ok (.iload 4, 2) := by decide +kernel
theorem dX9_remainingOf_33 : decode cX9_remainingOf 33 = .ok (.imul, 1) := by decide +kernel
theorem dX9_remainingOf_34 : decode cX9_remainingOf 34 = .ok (.iadd, 1) := by decide +kernel
theorem dX9_remainingOf_35 : decode cX9_remainingOf 35 = .ok (.iaload, 1) := by decide +kernel
theorem dX9_remainingOf_36 : decode cX9_remainingOf 36 = .ok (.iadd, 1) := by decide +kernel
theorem dX9_remainingOf_37 : decode cX9_remainingOf 37 = .ok (.istore_n 3, 1) := by decide +kernel
theorem dX9_remainingOf_38 : decode cX9_remainingOf 38 = .ok (.iinc 4 1, 3) := by decide +kernel
theorem dX9_remainingOf_41 : decode cX9_remainingOf 41 = .ok (.goto (-36), 3) := by decide +kernel
theorem dX9_remainingOf_44 : decode cX9_remainingOf 44 = .ok (.iload_n 3, 1) := by decide +kernel
theorem dX9_remainingOf_45 : decode cX9_remainingOf 45 = .ok (.ireturn, 1) := by decide +kernel
theorem dX9_gradeOf_0 : decode cX9_gradeOf 0 = .ok (.iload_n 3, 1) := by decide +kernel
theorem dX9_gradeOf_1 : decode cX9_gradeOf 1 = .ok (.istore 4, 2) := by decide +kernel
theorem dX9_gradeOf_3 : decode cX9_gradeOf 3 = .ok (.iconst 0, 1) := by decide +kernel
theorem dX9_gradeOf_4 : decode cX9_gradeOf 4 = .ok (.istore 5, 2) := by decide +kernel
theorem dX9_gradeOf_6 : decode cX9_gradeOf 6 = .ok (.iload 5, 2) := by decide +kernel
theorem dX9_gradeOf_8 : decode cX9_gradeOf 8 = .ok (.aload_n 0, 1) := by decide +kernel
theorem dX9_gradeOf_9 : decode cX9_gradeOf 9 = .ok (.iload_n 1, 1) := by decide +kernel
theorem dX9_gradeOf_10 : decode cX9_gradeOf 10 = .ok (.bipush 15, 2) := by decide +kernel
theorem dX9_gradeOf_12 : decode cX9_gradeOf 12 = .ok (.iload_n 2, 1) := by decide +kernel
theorem dX9_gradeOf_13 : decode cX9_gradeOf 13 = .ok (.imul, 1) := by decide +kernel
theorem dX9_gradeOf_14 : decode cX9_gradeOf 14 = .ok (.iadd, 1) := by decide +kernel
theorem dX9_gradeOf_15 : decode cX9_gradeOf 15 = .ok (.iconst 2, 1) := by decide +kernel
theorem dX9_gradeOf_16 : decode cX9_gradeOf 16 = .ok (.iadd, 1) := by decide +kernel
theorem dX9_gradeOf_17 : decode cX9_gradeOf 17 = .ok (.iaload, 1) := by decide +kernel
theorem dX9_gradeOf_18 : decode cX9_gradeOf 18 = .ok (.if_icmp .ge 58, 3) := by decide +kernel
theorem dX9_gradeOf_21 : decode cX9_gradeOf 21 = .ok (.aload_n 0, 1) := by decide +kernel
theorem dX9_gradeOf_22 : decode cX9_gradeOf 22 = .ok (.iload_n 1, 1) := by decide +kernel
theorem dX9_gradeOf_23 : decode cX9_gradeOf 23 = .ok (.bipush 15, 2) := by decide +kernel
theorem dX9_gradeOf_25 : decode cX9_gradeOf 25 = .ok (.iload_n 2, 1) := by decide +kernel
theorem dX9_gradeOf_26 : decode cX9_gradeOf 26 = .ok (.imul, 1) := by decide +kernel
theorem dX9_gradeOf_27 : decode cX9_gradeOf 27 = .ok (.iadd, 1) := by decide +kernel
theorem dX9_gradeOf_28 : decode cX9_gradeOf 28 = .ok (.iconst 3, 1) := by decide +kernel
theorem dX9_gradeOf_29 : decode cX9_gradeOf 29 = .ok (.iadd, 1) := by decide +kernel
theorem dX9_gradeOf_30 : decode cX9_gradeOf 30 = .ok (.iconst 2, 1) := by decide +kernel
theorem dX9_gradeOf_31 : decode cX9_gradeOf 31 = .ok (.iload 5, 2) := by decide +kernel
theorem dX9_gradeOf_33 : decode cX9_gradeOf 33 = .ok (.imul, 1) := by decide +kernel
theorem dX9_gradeOf_34 : decode cX9_gradeOf 34 = .ok (.iadd, 1) := by decide +kernel
theorem dX9_gradeOf_35 : decode cX9_gradeOf 35 = .ok (.iaload, 1) := by decide +kernel
theorem dX9_gradeOf_36 : decode cX9_gradeOf 36 = .ok (.istore 6, 2) := by decide +kernel
theorem dX9_gradeOf_38 : decode cX9_gradeOf 38 = .ok (.iload 4, 2) := by decide +kernel
theorem dX9_gradeOf_40 : decode cX9_gradeOf 40 = .ok (.iload 6, 2) := by decide +kernel
theorem dX9_gradeOf_42 : decode cX9_gradeOf 42 = .ok (.if_icmp .ge 21, 3) := by decide +kernel
theorem dX9_gradeOf_45 : decode cX9_gradeOf 45 = .ok (.aload_n 0, 1) := by decide +kernel
theorem dX9_gradeOf_46 : decode cX9_gradeOf 46 = .ok (.iload_n 1, 1) := by decide +kernel
theorem dX9_gradeOf_47 : decode cX9_gradeOf 47 = .ok (.bipush 15, 2) := by decide +kernel
theorem dX9_gradeOf_49 : decode cX9_gradeOf 49 = .ok (.iload_n 2, 1) := by decide +kernel
theorem dX9_gradeOf_50 : decode cX9_gradeOf 50 = .ok (.imul, 1) := by decide +kernel
theorem dX9_gradeOf_51 : decode cX9_gradeOf 51 = .ok (.iadd, 1) := by decide +kernel
theorem dX9_gradeOf_52 : decode cX9_gradeOf 52 = .ok (.iconst 3, 1) := by decide +kernel
theorem dX9_gradeOf_53 : decode cX9_gradeOf 53 = .ok (.iadd, 1) := by decide +kernel
theorem dX9_gradeOf_54 : decode cX9_gradeOf 54 = .ok (.iconst 2, 1) := by decide +kernel
theorem dX9_gradeOf_55 : decode cX9_gradeOf 55 = .ok (.iload 5, 2) := by decide +kernel
theorem dX9_gradeOf_57 : decode cX9_gradeOf 57 = .ok (.imul, 1) := by decide +kernel
theorem dX9_gradeOf_58 : decode cX9_gradeOf 58 = .ok (.iadd, 1) := by decide +kernel
theorem dX9_gradeOf_59 : decode cX9_gradeOf 59 = .ok (.iconst 1, 1) := by decide +kernel
theorem dX9_gradeOf_60 : decode cX9_gradeOf 60 = .ok (.iadd, 1) := by decide +kernel
theorem dX9_gradeOf_61 : decode cX9_gradeOf 61 = .ok (.iaload, 1) := by decide +kernel
theorem dX9_gradeOf_62 : decode cX9_gradeOf 62 = .ok (.ireturn, 1) := by decide +kernel
theorem dX9_gradeOf_63 : decode cX9_gradeOf 63 = .ok (.iload 4, 2) := by decide +kernel
theorem dX9_gradeOf_65 : decode cX9_gradeOf 65 = .ok (.iload 6, 2) := by decide +kernel
theorem dX9_gradeOf_67 : decode cX9_gradeOf 67 = .ok (.isub, 1) := by decide +kernel
theorem dX9_gradeOf_68 : decode cX9_gradeOf 68 = .ok (.istore 4, 2) := by decide +kernel
theorem dX9_gradeOf_70 : decode cX9_gradeOf 70 = .ok (.iinc 5 1, 3) := by decide +kernel
theorem dX9_gradeOf_73 : decode cX9_gradeOf 73 = .ok (.goto (-67), 3) := by decide +kernel
theorem dX9_gradeOf_76 : decode cX9_gradeOf 76 = .ok (.bipush (-9), 2) := by decide +kernel
theorem dX9_gradeOf_78 : decode cX9_gradeOf 78 = .ok (.ireturn, 1) := by decide +kernel
theorem dX9_take_0 : decode cX9_take 0 = .ok (.iload_n 1, 1) := by decide +kernel
theorem dX9_take_1 : decode cX9_take 1 = .ok (.bipush 15, 2) := by decide +kernel
theorem dX9_take_3 : decode cX9_take 3 = .ok (.iload_n 2, 1) := by decide +kernel
theorem dX9_take_4 : decode cX9_take 4 = .ok (.imul, 1) := by decide +kernel
theorem dX9_take_5 : decode cX9_take 5 = .ok (.iadd, 1) := by decide +kernel
theorem dX9_take_6 : decode cX9_take 6 = .ok (.istore_n 3, 1) := by decide +kernel
theorem dX9_take_7 : decode cX9_take 7 = .ok (.aload_n 0, 1) := by decide +kernel
theorem dX9_take_8 : decode cX9_take 8 = .ok (.iload_n 3, 1) := by decide +kernel
theorem dX9_take_9 : decode cX9_take 9 = .ok (.iconst 3, 1) := by decide +kernel
theorem dX9_take_10 : decode cX9_take 10 = .ok (.iadd, 1) := by decide +kernel
theorem dX9_take_11 : decode cX9_take 11 = .ok (.iconst 1, 1) := by decide +kernel
theorem dX9_take_12 : decode cX9_take 12 = .ok (.iadd, 1) := by decide +kernel
theorem dX9_take_13 : decode cX9_take 13 = .ok (.iaload, 1) := by decide +kernel
theorem dX9_take_14 : decode cX9_take 14 = .ok (.istore 4, 2) := by decide +kernel
theorem dX9_take_16 : decode cX9_take 16 = .ok (.aload_n 0, 1) := by decide +kernel
theorem dX9_take_17 : decode cX9_take 17 = .ok (.iload_n 3, 1) := by decide +kernel
theorem dX9_take_18 : decode cX9_take 18 = .ok (.iconst 3, 1) := by decide +kernel
theorem dX9_take_19 : decode cX9_take 19 = .ok (.iadd, 1) := by decide +kernel
theorem dX9_take_20 : decode cX9_take 20 = .ok (.dup2, 1) := by decide +kernel
theorem dX9_take_21 : decode cX9_take 21 = .ok (.iaload, 1) := by decide +kernel
theorem dX9_take_22 : decode cX9_take 22 = .ok (.iconst 1, 1) := by decide +kernel
theorem dX9_take_23 : decode cX9_take 23 = .ok (.isub, 1) := by decide +kernel
theorem dX9_take_24 : decode cX9_take 24 = .ok (.iastore, 1) := by decide +kernel
theorem dX9_take_25 : decode cX9_take 25 = .ok (.aload_n 0, 1) := by decide +kernel
theorem dX9_take_26 : decode cX9_take 26 = .ok (.iload_n 3, 1) := by decide +kernel
theorem dX9_take_27 : decode cX9_take 27 = .ok (.iconst 3, 1) := by decide +kernel
theorem dX9_take_28 : decode cX9_take 28 = .ok (.iadd, 1) := by decide +kernel
theorem dX9_take_29 : decode cX9_take 29 = .ok (.iaload, 1) := by decide +kernel
theorem dX9_take_30 : decode cX9_take 30 = .ok (.ifCond .ne 68, 3) := by decide +kernel
theorem dX9_take_33 : decode cX9_take 33 = .ok (.aload_n 0, 1) := by decide +kernel
theorem dX9_take_34 : decode cX9_take 34 = .ok (.iload_n 3, 1) := by decide +kernel
theorem dX9_take_35 : decode cX9_take 35 = .ok (.iconst 2, 1) := by decide +kernel
theorem dX9_take_36 : decode cX9_take 36 = .ok (.iadd, 1) := by decide +kernel
theorem dX9_take_37 : decode cX9_take 37 = .ok (.dup2, 1) := by decide +kernel
theorem dX9_take_38 : decode cX9_take 38 = .ok (.iaload, 1) := by decide +kernel
theorem dX9_take_39 : decode cX9_take 39 = .ok (.iconst 1, 1) := by decide +kernel
theorem dX9_take_40 : decode cX9_take 40 = .ok (.isub, 1) := by decide +kernel
theorem dX9_take_41 : decode cX9_take 41 = .ok (.iastore, 1) := by decide +kernel
theorem dX9_take_42 : decode cX9_take 42 = .ok (.iconst 0, 1) := by decide +kernel
theorem dX9_take_43 : decode cX9_take 43 = .ok (.istore 5, 2) := by decide +kernel
theorem dX9_take_45 : decode cX9_take 45 = .ok (.iload 5, 2) := by decide +kernel
theorem dX9_take_47 : decode cX9_take 47 = .ok (.bipush 10, 2) := by decide +kernel
theorem dX9_take_49 : decode cX9_take 49 = .ok (.if_icmp .ge 27, 3) := by decide +kernel
theorem dX9_take_52 : decode cX9_take 52 = .ok (.aload_n 0, 1) := by decide +kernel
theorem dX9_take_53 : decode cX9_take 53 = .ok (.iload_n 3, 1) := by decide +kernel
theorem dX9_take_54 : decode cX9_take 54 = .ok (.iconst 3, 1) := by decide +kernel
theorem dX9_take_55 : decode cX9_take 55 = .ok (.iadd, 1) := by decide +kernel
theorem dX9_take_56 : decode cX9_take 56 = .ok (.iload 5, 2) := by decide +kernel
theorem dX9_take_58 : decode cX9_take 58 = .ok (.iadd, 1) := by decide +kernel
theorem dX9_take_59 : decode cX9_take 59 = .ok (.aload_n 0, 1) := by decide +kernel
theorem dX9_take_60 : decode cX9_take 60 = .ok (.iload_n 3, 1) := by decide +kernel
theorem dX9_take_61 : decode cX9_take 61 = .ok (.iconst 3, 1) := by decide +kernel
theorem dX9_take_62 : decode cX9_take 62 = .ok (.iadd, 1) := by decide +kernel
theorem dX9_take_63 : decode cX9_take 63 = .ok (.iload 5, 2) := by decide +kernel
theorem dX9_take_65 : decode cX9_take 65 = .ok (.iadd, 1) := by decide +kernel
theorem dX9_take_66 : decode cX9_take 66 = .ok (.iconst 2, 1) := by decide +kernel
theorem dX9_take_67 : decode cX9_take 67 = .ok (.iadd, 1) := by decide +kernel
theorem dX9_take_68 : decode cX9_take 68 = .ok (.iaload, 1) := by decide +kernel
theorem dX9_take_69 : decode cX9_take 69 = .ok (.iastore, 1) := by decide +kernel
theorem dX9_take_70 : decode cX9_take 70 = .ok (.iinc 5 1, 3) := by decide +kernel
theorem dX9_take_73 : decode cX9_take 73 = .ok (.goto (-28), 3) := by decide +kernel
theorem dX9_take_76 : decode cX9_take 76 = .ok (.aload_n 0, 1) := by decide +kernel
theorem dX9_take_77 : decode cX9_take 77 = .ok (.iload_n 3, 1) := by decide +kernel
theorem dX9_take_78 : decode cX9_take 78 = .ok (.iconst 3, 1) := by decide +kernel
theorem dX9_take_79 : decode cX9_take 79 = .ok (.iadd, 1) := by decide +kernel
theorem dX9_take_80 : decode cX9_take 80 = .ok (.bipush 12, 2) := by decide +kernel
theorem dX9_take_82 : decode cX9_take 82 = .ok (.iadd, 1) := by decide +kernel
theorem dX9_take_83 : decode cX9_take 83 = .ok (.iconst 2, 1) := by decide +kernel
theorem dX9_take_84 : decode cX9_take 84 = .ok (.isub, 1) := by decide +kernel
theorem dX9_take_85 : decode cX9_take 85 = .ok (.iconst 0, 1) := by decide +kernel
theorem dX9_take_86 : decode cX9_take 86 = .ok (.iastore, 1) := by decide +kernel
theorem dX9_take_87 : decode cX9_take 87 = .ok (.aload_n 0, 1) := by decide +kernel
theorem dX9_take_88 : decode cX9_take 88 = .ok (.iload_n 3, 1) := by decide +kernel
theorem dX9_take_89 : decode cX9_take 89 = .ok (.iconst 3, 1) := by decide +kernel
theorem dX9_take_90 : decode cX9_take 90 = .ok (.iadd, 1) := by decide +kernel
theorem dX9_take_91 : decode cX9_take 91 = .ok (.bipush 12, 2) := by decide +kernel
theorem dX9_take_93 : decode cX9_take 93 = .ok (.iadd, 1) := by decide +kernel
theorem dX9_take_94 : decode cX9_take 94 = .ok (.iconst 1, 1) := by decide +kernel
theorem dX9_take_95 : decode cX9_take 95 = .ok (.isub, 1) := by decide +kernel
theorem dX9_take_96 : decode cX9_take 96 = .ok (.iconst 0, 1) := by decide +kernel
theorem dX9_take_97 : decode cX9_take 97 = .ok (.iastore, 1) := by decide +kernel
theorem dX9_take_98 : decode cX9_take 98 = .ok (.aload_n 0, 1) := by decide +kernel
theorem dX9_take_99 : decode cX9_take 99 = .ok (.iload_n 3, 1) := by decide +kernel
theorem dX9_take_100 : decode cX9_take 100 = .ok (.iconst 0, 1) := by decide +kernel
theorem dX9_take_101 : decode cX9_take 101 = .ok (.iadd, 1) := by decide +kernel
theorem dX9_take_102 : decode cX9_take 102 = .ok (.dup2, 1) := by decide +kernel
theorem dX9_take_103 : decode cX9_take 103 = .ok (.iaload, 1) := by decide +kernel
theorem dX9_take_104 : decode cX9_take 104 = .ok (.iconst 1, 1) := by decide +kernel
theorem dX9_take_105 : decode cX9_take 105 = .ok (.iadd, 1) := by decide +kernel
theorem dX9_take_106 : decode cX9_take 106 = .ok (.iastore, 1) := by decide +kernel
theorem dX9_take_107 : decode cX9_take 107 = .ok (.aload_n 0, 1) := by decide +kernel
theorem dX9_take_108 : decode cX9_take 108 = .ok (.iload_n 1, 1) := by decide +kernel
theorem dX9_take_109 : decode cX9_take 109 = .ok (.sipush 241, 3) := by decide +kernel
theorem dX9_take_112 : decode cX9_take 112 = .ok (.iadd, 1) := by decide +kernel
theorem dX9_take_113 : decode cX9_take 113 = .ok (.dup2, 1) := by decide +kernel
theorem dX9_take_114 : decode cX9_take 114 = .ok (.iaload, 1) := by decide +kernel

theorem dX0_init_0 : decode cX0_init 0 = .ok (.aload_n 0, 1) := by decide +kernel
theorem dX0_init_1 : decode cX0_init 1 = .ok (.invokespecial 3, 3) := by decide +kernel
theorem dX0_init_4 : decode cX0_init 4 = .ok (.aload_n 0, 1) := by decide +kernel
theorem dX0_init_5 : decode cX0_init 5 = .ok (.bipush 96, 2) := by decide +kernel
theorem dX0_init_7 : decode cX0_init 7 = .ok (.newarray .int, 2) := by decide +kernel
theorem dX0_init_9 : decode cX0_init 9 = .ok (.putfield 9, 3) := by decide +kernel
theorem dX0_init_12 : decode cX0_init 12 = .ok (.aload_n 0, 1) := by decide +kernel
theorem dX0_init_13 : decode cX0_init 13 = .ok (.bipush 96, 2) := by decide +kernel
theorem dX0_init_15 : decode cX0_init 15 = .ok (.newarray .int, 2) := by decide +kernel
theorem dX0_init_17 : decode cX0_init 17 = .ok (.putfield 15, 3) := by decide +kernel
theorem dX0_init_20 : decode cX0_init 20 = .ok (.aload_n 0, 1) := by decide +kernel
theorem dX0_init_21 : decode cX0_init 21 = .ok (.bipush 16, 2) := by decide +kernel
theorem dX0_init_23 : decode cX0_init 23 = .ok (.newarray .int, 2) := by decide +kernel
theorem dX0_init_25 : decode cX0_init 25 = .ok (.putfield 18, 3) := by decide +kernel
theorem dX0_init_28 : decode cX0_init 28 = .ok (.aload_n 0, 1) := by decide +kernel
theorem dX0_init_29 : decode cX0_init 29 = .ok (.bipush 16, 2) := by decide +kernel
theorem dX0_init_31 : decode cX0_init 31 = .ok (.newarray .int, 2) := by decide +kernel
theorem dX0_init_33 : decode cX0_init 33 = .ok (.putfield 21, 3) := by decide +kernel
theorem dX0_init_36 : decode cX0_init 36 = .ok (.return_, 1) := by decide +kernel
set_option maxRecDepth 20000 in
theorem ggX0_clear_J7_fill_53178 : GoodIn wsX0_clear wsJ7_fill_53178 := goodIn_r _ [10] (by decide +kernel) (by decide +kernel)
set_option maxRecDepth 20000 in
theorem gX0_clear_J7_fill_53178 : GoodIn wsX0_clear (va_wsS RX0 24 yJ7_fill_53178 wsJ7_fill_53178) := goodIn_app (goodIn_of _ (by decide +kernel)) ggX0_clear_J7_fill_53178
theorem dX0_clear_0 : decode cX0_clear 0 = .ok (.aload_n 0, 1) := by decide +kernel
theorem dX0_clear_1 : decode cX0_clear 1 = .ok (.getfield 18, 3) := by decide +kernel
theorem dX0_clear_4 : decode cX0_clear 4 = .ok (.iconst 0, 1) := by decide +kernel
theorem dX0_clear_5 : decode cX0_clear 5 = .ok (.invokestatic 24, 3) := by decide +kernel
theorem dX0_clear_8 : decode cX0_clear 8 = .ok (.aload_n 0, 1) := by decide +kernel
theorem dX0_clear_9 : decode cX0_clear 9 = .ok (.getfield 21, 3) := by decide +kernel
theorem dX0_clear_12 : decode cX0_clear 12 = .ok (.iconst 0, 1) := by decide +kernel
theorem dX0_clear_13 : decode cX0_clear 13 = .ok (.invokestatic 24, 3) := by decide +kernel
theorem dX0_clear_16 : decode cX0_clear 16 = .ok (.aload_n 0, 1) := by decide +kernel
theorem dX0_clear_17 : decode cX0_clear 17 = .ok (.iload_n 1, 1) := by decide +kernel
theorem dX0_clear_18 : decode cX0_clear 18 = .ok (.putfield 30, 3) := by decide +kernel
theorem dX0_clear_21 : decode cX0_clear 21 = .ok (.aload_n 0, 1) := by decide +kernel
theorem dX0_clear_22 : decode cX0_clear 22 = .ok (.iconst 0, 1) := by decide +kernel
theorem dX0_clear_23 : decode cX0_clear 23 = .ok (.putfield 34, 3) := by decide +kernel
theorem dX0_clear_26 : decode cX0_clear 26 = .ok (.aload_n 0, 1) := by decide +kernel
theorem dX0_clear_27 : decode cX0_clear 27 = .ok (.iconst 0, 1) := by decide +kernel
theorem dX0_clear_28 : decode cX0_clear 28 = .ok (.putfield 37, 3) := by decide +kernel
theorem dX0_clear_31 : decode cX0_clear 31 = .ok (.aload_n 0, 1) := by decide +kernel
theorem dX0_clear_32 : decode cX0_clear 32 = .ok (.iconst 0, 1) := by decide +kernel
theorem dX0_clear_33 : decode cX0_clear 33 = .ok (.putfield 40, 3) := by decide +kernel
theorem dX0_clear_36 : decode cX0_clear 36 = .ok (.return_, 1) := by decide +kernel
theorem dX0_become_0 : decode cX0_become 0 = .ok (.aload_n 1, 1) := by decide +kernel
theorem dX0_become_1 : decode cX0_become 1 = .ok (.getfield 9, 3) := by decide +kernel
theorem dX0_become_4 : decode cX0_become 4 = .ok (.iconst 0, 1) := by decide +kernel
theorem dX0_become_5 : decode cX0_become 5 = .ok (.aload_n 0, 1) := by decide +kernel
theorem dX0_become_6 : decode cX0_become 6 = .ok (.getfield 9, 3) := by decide +kernel
theorem dX0_become_9 : decode cX0_become 9 = .ok (.iconst 0, 1) := by decide +kernel
theorem dX0_become_10 : decode cX0_become 10 = .ok (.aload_n 0, 1) := by decide +kernel
theorem dX0_become_11 : decode cX0_become 11 = .ok (.getfield 9, 3) := by decide +kernel
theorem dX0_become_14 : decode cX0_become 14 = .ok (.arraylength, 1) := by decide +kernel
theorem dX0_become_15 : decode cX0_become 15 = .ok (.invokestatic 43, 3) := by decide +kernel
theorem dX0_become_18 : decode cX0_become 18 = .ok (.aload_n 1, 1) := by decide +kernel
theorem dX0_become_19 : decode cX0_become 19 = .ok (.getfield 15, 3) := by decide +kernel
theorem dX0_become_22 : decode cX0_become 22 = .ok (.iconst 0, 1) := by decide +kernel
theorem dX0_become_23 : decode cX0_become 23 = .ok (.aload_n 0, 1) := by decide +kernel
theorem dX0_become_24 : decode cX0_become 24 = .ok (.getfield 15, 3) := by decide +kernel
theorem dX0_become_27 : decode cX0_become 27 = .ok (.iconst 0, 1) := by decide +kernel
theorem dX0_become_28 : decode cX0_become 28 = .ok (.aload_n 0, 1) := by decide +kernel
theorem dX0_become_29 : decode cX0_become 29 = .ok (.getfield 15, 3) := by decide +kernel
theorem dX0_become_32 : decode cX0_become 32 = .ok (.arraylength, 1) := by decide +kernel
theorem dX0_become_33 : decode cX0_become 33 = .ok (.invokestatic 43, 3) := by decide +kernel
theorem dX0_become_36 : decode cX0_become 36 = .ok (.aload_n 1, 1) := by decide +kernel
theorem dX0_become_37 : decode cX0_become 37 = .ok (.getfield 18, 3) := by decide +kernel
theorem dX0_become_40 : decode cX0_become 40 = .ok (.iconst 0, 1) := by decide +kernel
theorem dX0_become_41 : decode cX0_become 41 = .ok (.aload_n 0, 1) := by decide +kernel
theorem dX0_become_42 : decode cX0_become 42 = .ok (.getfield 18, 3) := by decide +kernel
theorem dX0_become_45 : decode cX0_become 45 = .ok (.iconst 0, 1) := by decide +kernel
theorem dX0_become_46 : decode cX0_become 46 = .ok (.aload_n 0, 1) := by decide +kernel
theorem dX0_become_47 : decode cX0_become 47 = .ok (.getfield 18, 3) := by decide +kernel
theorem dX0_become_50 : decode cX0_become 50 = .ok (.arraylength, 1) := by decide +kernel
theorem dX0_become_51 : decode cX0_become 51 = .ok (.invokestatic 43, 3) := by decide +kernel
theorem dX0_become_54 : decode cX0_become 54 = .ok (.aload_n 1, 1) := by decide +kernel
theorem dX0_become_55 : decode cX0_become 55 = .ok (.getfield 21, 3) := by decide +kernel
theorem dX0_become_58 : decode cX0_become 58 = .ok (.iconst 0, 1) := by decide +kernel
theorem dX0_become_59 : decode cX0_become 59 = .ok (.aload_n 0, 1) := by decide +kernel
theorem dX0_become_60 : decode cX0_become 60 = .ok (.getfield 21, 3) := by decide +kernel
theorem dX0_become_63 : decode cX0_become 63 = .ok (.iconst 0, 1) := by decide +kernel
theorem dX0_become_64 : decode cX0_become 64 = .ok (.aload_n 0, 1) := by decide +kernel
theorem dX0_become_65 : decode cX0_become 65 = .ok (.getfield 21, 3) := by decide +kernel
theorem dX0_become_68 : decode cX0_become 68 = .ok (.arraylength, 1) := by decide +kernel
theorem dX0_become_69 : decode cX0_become 69 = .ok (.invokestatic 43, 3) := by decide +kernel
theorem dX0_become_72 : decode cX0_become 72 = .ok (.aload_n 0, 1) := by decide +kernel
theorem dX0_become_73 : decode cX0_become 73 = .ok (.aload_n 1, 1) := by decide +kernel
theorem dX0_become_74 : decode cX0_become 74 = .ok (.getfield 30, 3) := by decide +kernel
theorem dX0_become_77 : decode cX0_become 77 = .ok (.putfield 30, 3) := by decide +kernel
theorem dX0_become_80 : decode cX0_become 80 = .ok (.aload_n 0, 1) := by decide +kernel
theorem dX0_become_81 : decode cX0_become 81 = .ok (.aload_n 1, 1) := by decide +kernel
theorem dX0_become_82 : decode cX0_become 82 = .ok (.getfield 34, 3) := by decide +kernel
theorem dX0_become_85 : decode cX0_become 85 = .ok (.putfield 34, 3) := by decide +kernel
theorem dX0_become_88 : decode cX0_become 88 = .ok (.aload_n 0, 1) := by decide +kernel
theorem dX0_become_89 : decode cX0_become 89 = .ok (.aload_n 1, 1) := by decide +kernel
theorem dX0_become_90 : decode cX0_become 90 = .ok (.getfield 37, 3) := by decide +kernel
theorem dX0_become_93 : decode cX0_become 93 = .ok (.putfield 37, 3) := by decide +kernel
theorem dX0_become_96 : decode cX0_become 96 = .ok (.aload_n 0, 1) := by decide +kernel
theorem dX0_become_97 : decode cX0_become 97 = .ok (.aload_n 1, 1) := by decide +kernel
theorem dX0_become_98 : decode cX0_become 98 = .ok (.getfield 40, 3) := by decide +kernel
theorem dX0_become_101 : decode cX0_become 101 = .ok (.putfield 40, 3) := by decide +kernel
theorem dX0_become_104 : decode cX0_become 104 = .ok (.return_, 1) := by decide +kernel
theorem dX0_limit_0 : decode cX0_limit 0 = .ok (.aload_n 0, 1) := by decide +kernel
theorem dX0_limit_1 : decode cX0_limit 1 = .ok (.getfield 30, 3) := by decide +kernel
theorem dX0_limit_4 : decode cX0_limit 4 = .ok (.ireturn, 1) := by decide +kernel
theorem dX0_changeLimit_0 : decode cX0_changeLimit 0 = .ok (.aload_n 0, 1) := by decide +kernel
theorem dX0_changeLimit_1 : decode cX0_changeLimit 1 = .ok (.iload_n 1, 1) := by decide +kernel
theorem dX0_changeLimit_2 : decode cX0_changeLimit 2 = .ok (.putfield 30, 3) := by decide +kernel
theorem dX0_changeLimit_5 : decode cX0_changeLimit 5 = .ok (.return_, 1) := by decide +kernel
theorem dX0_bucketSum_0 : decode cX0_bucketSum 0 = .ok (.aload_n 0, 1) := by decide +kernel
theorem dX0_bucketSum_1 : decode cX0_bucketSum 1 = .ok (.getfield 37, 3) := by decide +kernel
theorem dX0_bucketSum_4 : decode cX0_bucketSum 4 = .ok (.ireturn, 1) := by decide +kernel
theorem dX0_gradeSum_0 : decode cX0_gradeSum 0 = .ok (.aload_n 0, 1) := by decide +kernel
theorem dX0_gradeSum_1 : decode cX0_gradeSum 1 = .ok (.getfield 40, 3) := by decide +kernel
theorem dX0_gradeSum_4 : decode cX0_gradeSum 4 = .ok (.ireturn, 1) := by decide +kernel
theorem dX0_drawnFrom_0 : decode cX0_drawnFrom 0 = .ok (.aload_n 0, 1) := by decide +kernel
theorem dX0_drawnFrom_1 : decode cX0_drawnFrom 1 = .ok (.getfield 21, 3) := by decide +kernel
theorem dX0_drawnFrom_4 : decode cX0_drawnFrom 4 = .ok (.iload_n 1, 1) := by decide +kernel
theorem dX0_drawnFrom_5 : decode cX0_drawnFrom 5 = .ok (.iaload, 1) := by decide +kernel
theorem dX0_drawnFrom_6 : decode cX0_drawnFrom 6 = .ok (.ireturn, 1) := by decide +kernel
theorem dX0_height_0 : decode cX0_height 0 = .ok (.aload_n 0, 1) := by decide +kernel
theorem dX0_height_1 : decode cX0_height 1 = .ok (.getfield 18, 3) := by decide +kernel
theorem dX0_height_4 : decode cX0_height 4 = .ok (.iload_n 1, 1) := by decide +kernel
theorem dX0_height_5 : decode cX0_height 5 = .ok (.iaload, 1) := by decide +kernel
theorem dX0_height_6 : decode cX0_height 6 = .ok (.ireturn, 1) := by decide +kernel
theorem dX0_leftIn_0 : decode cX0_leftIn 0 = .ok (.iconst 0, 1) := by decide +kernel
theorem dX0_leftIn_1 : decode cX0_leftIn 1 = .ok (.istore_n 2, 1) := by decide +kernel
theorem dX0_leftIn_2 : decode cX0_leftIn 2 = .ok (.iconst 0, 1) := by decide +kernel
theorem dX0_leftIn_3 : decode cX0_leftIn 3 = .ok (.istore_n 3, 1) := by decide +kernel
theorem dX0_leftIn_4 : decode cX0_leftIn 4 = .ok (.iload_n 3, 1) := by decide +kernel
theorem dX0_leftIn_5 : decode cX0_leftIn 5 = .ok (.aload_n 0, 1) := by decide +kernel
theorem dX0_leftIn_6 : decode cX0_leftIn 6 = .ok (.getfield 18, 3) := by decide +kernel
theorem dX0_leftIn_9 : decode cX0_leftIn 9 = .ok (.iload_n 1, 1) := by decide +kernel
theorem dX0_leftIn_10 : decode cX0_leftIn 10 = .ok (.iaload, 1) := by decide +kernel
theorem dX0_leftIn_11 : decode cX0_leftIn 11 = .ok (.if_icmp .ge 23, 3) := by decide +kernel
theorem dX0_leftIn_14 : decode cX0_leftIn 14 = .ok (.iload_n 2, 1) := by decide +kernel
theorem dX0_leftIn_15 : decode cX0_leftIn 15 = .ok (.aload_n 0, 1) := by decide +kernel
theorem dX0_leftIn_16 : decode cX0_leftIn 16 = .ok (.getfield 9, 3) := by decide +kernel
theorem dX0_leftIn_19 : decode cX0_leftIn 19 = .ok (.iload_n 1, 1) := by decide +kernel
theorem dX0_leftIn_20 : decode cX0_leftIn 20 = .ok (.bipush 6, 2) := by decide +kernel
theorem dX0_leftIn_22 : decode cX0_leftIn 22 = .ok (.imul, 1) := by decide +kernel
theorem dX0_leftIn_23 : decode cX0_leftIn 23 = .ok (.iload_n 3, 1) := by decide +kernel
theorem dX0_leftIn_24 : decode cX0_leftIn 24 = .ok (.iadd, 1) := by decide +kernel
theorem dX0_leftIn_25 : decode cX0_leftIn 25 = .ok (.iaload, 1) := by decide +kernel
theorem dX0_leftIn_26 : decode cX0_leftIn 26 = .ok (.iadd, 1) := by decide +kernel
theorem dX0_leftIn_27 : decode cX0_leftIn 27 = .ok (.istore_n 2, 1) := by decide +kernel
theorem dX0_leftIn_28 : decode cX0_leftIn 28 = .ok (.iinc 3 1, 3) := by decide +kernel
theorem dX0_leftIn_31 : decode cX0_leftIn 31 = .ok (.goto (-27), 3) := by decide +kernel
theorem dX0_leftIn_34 : decode cX0_leftIn 34 = .ok (.iload_n 2, 1) := by decide +kernel
theorem dX0_leftIn_35 : decode cX0_leftIn 35 = .ok (.ireturn, 1) := by decide +kernel
theorem dX0_gradeOf_0 : decode cX0_gradeOf 0 = .ok (.iconst 0, 1) := by decide +kernel
theorem dX0_gradeOf_1 : decode cX0_gradeOf 1 = .ok (.istore_n 3, 1) := by decide +kernel
theorem dX0_gradeOf_2 : decode cX0_gradeOf 2 = .ok (.iconst 0, 1) := by decide +kernel
theorem dX0_gradeOf_3 : decode cX0_gradeOf 3 = .ok (.istore 4, 2) := by decide +kernel
theorem dX0_gradeOf_5 : decode cX0_gradeOf 5 = .ok (.iload 4, 2) := by decide +kernel
theorem dX0_gradeOf_7 : decode cX0_gradeOf 7 = .ok (.aload_n 0, 1) := by decide +kernel
theorem dX0_gradeOf_8 : decode cX0_gradeOf 8 = .ok (.getfield 18, 3) := by decide +kernel
theorem dX0_gradeOf_11 : decode cX0_gradeOf 11 = .ok (.iload_n 1, 1) := by decide +kernel
theorem dX0_gradeOf_12 : decode cX0_gradeOf 12 = .ok (.iaload, 1) := by decide +kernel
theorem dX0_gradeOf_13 : decode cX0_gradeOf 13 = .ok (.if_icmp .ge 42, 3) := by decide +kernel
theorem dX0_gradeOf_16 : decode cX0_gradeOf 16 = .ok (.iload_n 3, 1) := by decide +kernel
theorem dX0_gradeOf_17 : decode cX0_gradeOf 17 = .ok (.aload_n 0, 1) := by decide +kernel
theorem dX0_gradeOf_18 : decode cX0_gradeOf 18 = .ok (.getfield 9, 3) := by decide +kernel
theorem dX0_gradeOf_21 : decode cX0_gradeOf 21 = .ok (.iload_n 1, 1) := by decide +kernel
theorem dX0_gradeOf_22 : decode cX0_gradeOf 22 = .ok (.bipush 6, 2) := by decide +kernel
theorem dX0_gradeOf_24 : decode cX0_gradeOf 24 = .ok (.imul, 1) := by decide +kernel
theorem dX0_gradeOf_25 : decode cX0_gradeOf 25 = .ok (.iload 4, 2) := by decide +kernel
theorem dX0_gradeOf_27 : decode cX0_gradeOf 27 = .ok (.iadd, 1) := by decide +kernel
theorem dX0_gradeOf_28 : decode cX0_gradeOf 28 = .ok (.iaload, 1) := by decide +kernel
theorem dX0_gradeOf_29 : decode cX0_gradeOf 29 = .ok (.iadd, 1) := by decide +kernel
theorem dX0_gradeOf_30 : decode cX0_gradeOf 30 = .ok (.istore_n 3, 1) := by decide +kernel
theorem dX0_gradeOf_31 : decode cX0_gradeOf 31 = .ok (.iload_n 2, 1) := by decide +kernel
theorem dX0_gradeOf_32 : decode cX0_gradeOf 32 = .ok (.iload_n 3, 1) := by decide +kernel
theorem dX0_gradeOf_33 : decode cX0_gradeOf 33 = .ok (.if_icmp .ge 16, 3) := by decide +kernel
theorem dX0_gradeOf_36 : decode cX0_gradeOf 36 = .ok (.aload_n 0, 1) := by decide +kernel
theorem dX0_gradeOf_37 : decode cX0_gradeOf 37 = .ok (.getfield 15, 3) := by decide +kernel
theorem dX0_gradeOf_40 : decode cX0_gradeOf 40 = .ok (.iload_n 1, 1) := by decide +kernel
theorem dX0_gradeOf_41 : decode cX0_gradeOf 41 = .ok (.bipush 6, 2) := by decide +kernel
theorem dX0_gradeOf_43 : decode cX0_gradeOf 43 = .ok (.imul, 1) := by decide +kernel
theorem dX0_gradeOf_44 : decode cX0_gradeOf 44 = .ok (.iload 4, 2) := by decide +kernel
theorem dX0_gradeOf_46 : decode cX0_gradeOf 46 = .ok (.iadd, 1) := by decide +kernel
theorem dX0_gradeOf_47 : decode cX0_gradeOf 47 = .ok (.iaload, 1) := by decide +kernel
theorem dX0_gradeOf_48 : decode cX0_gradeOf 48 = .ok (.ireturn, 1) := by decide +kernel
theorem dX0_gradeOf_49 : decode cX0_gradeOf 49 = .ok (.iinc 4 1, 3) := by decide +kernel
theorem dX0_gradeOf_52 : decode cX0_gradeOf 52 = .ok (.goto (-47), 3) := by decide +kernel
theorem dX0_gradeOf_55 : decode cX0_gradeOf 55 = .ok (.bipush (-9), 2) := by decide +kernel
theorem dX0_gradeOf_57 : decode cX0_gradeOf 57 = .ok (.ireturn, 1) := by decide +kernel
theorem dX0_bucketsAboveWaste_0 : decode cX0_bucketsAboveWaste 0 = .ok (.iconst 0, 1) := by decide +kernel
theorem dX0_bucketsAboveWaste_1 : decode cX0_bucketsAboveWaste 1 = .ok (.istore_n 3, 1) := by decide +kernel
theorem dX0_bucketsAboveWaste_2 : decode cX0_bucketsAboveWaste 2 = .ok (.iconst 0, 1) := by decide +kernel
theorem dX0_bucketsAboveWaste_3 : decode cX0_bucketsAboveWaste 3 = .ok (.istore 4, 2) := by decide +kernel
theorem dX0_bucketsAboveWaste_5 : decode cX0_bucketsAboveWaste 5 = .ok (.iload 4, 2) := by decide +kernel
theorem dX0_bucketsAboveWaste_7 : decode cX0_bucketsAboveWaste 7 = .ok (.aload_n 0, 1) := by decide +kernel
theorem dX0_bucketsAboveWaste_8 : decode cX0_bucketsAboveWaste 8 = .ok (.getfield 18, 3) := by decide +kernel
theorem dX0_bucketsAboveWaste_11 : decode cX0_bucketsAboveWaste 11 = .ok (.iload_n 1, 1) := by decide +kernel
theorem dX0_bucketsAboveWaste_12 : decode cX0_bucketsAboveWaste 12 = .ok (.iaload, 1) := by decide +kernel
theorem dX0_bucketsAboveWaste_13 : decode cX0_bucketsAboveWaste 13 = .ok (.if_icmp .ge 42, 3) := by decide +kernel
theorem dX0_bucketsAboveWaste_16 : decode cX0_bucketsAboveWaste 16 = .ok (.aload_n 0, 1) := by decide +kernel
theorem dX0_bucketsAboveWaste_17 : decode cX0_bucketsAboveWaste 17 = .ok (.getfield 15, 3) := by decide +kernel
theorem dX0_bucketsAboveWaste_20 : decode cX0_bucketsAboveWaste 20 = .ok (.iload_n 1, 1) := by decide +kernel
theorem dX0_bucketsAboveWaste_21 : decode cX0_bucketsAboveWaste 21 = .ok (.bipush 6, 2) := by decide +kernel
theorem dX0_bucketsAboveWaste_23 : decode cX0_bucketsAboveWaste 23 = .ok (.imul, 1) := by decide +kernel
theorem dX0_bucketsAboveWaste_24 : decode cX0_bucketsAboveWaste 24 = .ok (.iload 4, 2) := by decide +kernel
theorem dX0_bucketsAboveWaste_26 : decode cX0_bucketsAboveWaste 26 = .ok (.iadd, 1) := by decide +kernel
theorem dX0_bucketsAboveWaste_27 : decode cX0_bucketsAboveWaste 27 = .ok (.iaload, 1) := by decide +kernel
theorem dX0_bucketsAboveWaste_28 : decode cX0_bucketsAboveWaste 28 = .ok (.iload_n 2, 1) := by decide +kernel
theorem dX0_bucketsAboveWaste_29 : decode cX0_bucketsAboveWaste 29 = .ok (.if_icmp .ge 5, 3) := by decide +kernel
theorem dX0_bucketsAboveWaste_32 : decode cX0_bucketsAboveWaste 32 = .ok (.iload_n 3, 1) := by decide +kernel
theorem dX0_bucketsAboveWaste_33 : decode cX0_bucketsAboveWaste 33 = .ok (.ireturn, 1) := by decide +kernel
theorem dX0_bucketsAboveWaste_34 : decode cX0_bucketsAboveWaste 34 = .ok (.iload_n 3, 1) := by decide +kernel
theorem dX0_bucketsAboveWaste_35 : decode cX0_bucketsAboveWaste 35 = .ok (.aload_n 0, 1) := by decide +kernel
theorem dX0_bucketsAboveWaste_36 : decode cX0_bucketsAboveWaste 36 = .ok (.getfield 9, 3) := by decide +kernel
theorem dX0_bucketsAboveWaste_39 : decode cX0_bucketsAboveWaste 39 = .ok (.iload_n 1, 1) := by decide +kernel
theorem dX0_bucketsAboveWaste_40 : decode cX0_bucketsAboveWaste 40 = .ok (.bipush 6, 2) := by decide +kernel
theorem dX0_bucketsAboveWaste_42 : decode cX0_bucketsAboveWaste 42 = .ok (.imul, 1) := by decide +kernel
theorem dX0_bucketsAboveWaste_43 : decode cX0_bucketsAboveWaste 43 = .ok (.iload 4, 2) := by decide +kernel
theorem dX0_bucketsAboveWaste_45 : decode cX0_bucketsAboveWaste 45 = .ok (.iadd, 1) := by decide +kernel
theorem dX0_bucketsAboveWaste_46 : decode cX0_bucketsAboveWaste 46 = .ok (.iaload, 1) := by decide +kernel
theorem dX0_bucketsAboveWaste_47 : decode cX0_bucketsAboveWaste 47 = .ok (.iadd, 1) := by decide +kernel
theorem dX0_bucketsAboveWaste_48 : decode cX0_bucketsAboveWaste 48 = .ok (.istore_n 3, 1) := by decide +kernel
theorem dX0_bucketsAboveWaste_49 : decode cX0_bucketsAboveWaste 49 = .ok (.iinc 4 1, 3) := by decide +kernel
theorem dX0_bucketsAboveWaste_52 : decode cX0_bucketsAboveWaste 52 = .ok (.goto (-47), 3) := by decide +kernel
theorem dX0_bucketsAboveWaste_55 : decode cX0_bucketsAboveWaste 55 = .ok (.bipush (-9), 2) := by decide +kernel
theorem dX0_bucketsAboveWaste_57 : decode cX0_bucketsAboveWaste 57 = .ok (.ireturn, 1) := by decide +kernel
theorem dX0_hangs_0 : decode cX0_hangs 0 = .ok (.aload_n 0, 1) := by decide +kernel
theorem dX0_hangs_1 : decode cX0_hangs 1 = .ok (.getfield 34, 3) := by decide +kernel
theorem dX0_hangs_4 : decode cX0_hangs 4 = .ok (.iconst 1, 1) := by decide +kernel
theorem dX0_hangs_5 : decode cX0_hangs 5 = .ok (.iload_n 1, 1) := by decide +kernel
theorem dX0_hangs_6 : decode cX0_hangs 6 = .ok (.ishl, 1) := by decide +kernel
theorem dX0_hangs_7 : decode cX0_hangs 7 = .ok (.iand, 1) := by decide +kernel
theorem dX0_hangs_8 : decode cX0_hangs 8 = .ok (.ifCond .eq 7, 3) := by decide +kernel
theorem dX0_hangs_11 : decode cX0_hangs 11 = .ok (.iconst 1, 1) := by decide +kernel
theorem dX0_hangs_12 : decode cX0_hangs 12 = .ok (.goto 4, 3) := by decide +kernel
theorem dX0_hangs_15 : decode cX0_hangs 15 = .ok (.iconst 0, 1) := by decide +kernel
theorem dX0_hangs_16 : decode cX0_hangs 16 = .ok (.ireturn, 1) := by decide +kernel
theorem dX0_turnHung_0 : decode cX0_turnHung 0 = .ok (.aload_n 0, 1) := by decide +kernel
theorem dX0_turnHung_1 : decode cX0_turnHung 1 = .ok (.dup, 1) := by decide +kernel
theorem dX0_turnHung_2 : decode cX0_turnHung 2 = .ok (.getfield 34, 3) := by decide +kernel
theorem dX0_turnHung_5 : decode cX0_turnHung 5 = .ok (.iconst 1, 1) := by decide +kernel
theorem dX0_turnHung_6 : decode cX0_turnHung 6 = .ok (.iload_n 1, 1) := by decide +kernel
theorem dX0_turnHung_7 : decode cX0_turnHung 7 = .ok (.ishl, 1) := by decide +kernel
theorem dX0_turnHung_8 : decode cX0_turnHung 8 = .ok (.ixor, 1) := by decide +kernel
theorem dX0_turnHung_9 : decode cX0_turnHung 9 = .ok (.putfield 34, 3) := by decide +kernel
theorem dX0_turnHung_12 : decode cX0_turnHung 12 = .ok (.return_, 1) := by decide +kernel
set_option maxRecDepth 20000 in
theorem ggX0_hungCount_J6_bitCount_0f7a4 : GoodIn wsX0_hungCount wsJ6_bitCount_0f7a4 := goodIn_r _ [5, 6, 7, 8] (by decide +kernel) (by decide +kernel)
set_option maxRecDepth 20000 in
theorem gX0_hungCount_J6_bitCount_0f7a4 : GoodIn wsX0_hungCount (va_wsS RX0 49 yJ6_bitCount_0f7a4 wsJ6_bitCount_0f7a4) := goodIn_app (goodIn_of _ (by decide +kernel)) ggX0_hungCount_J6_bitCount_0f7a4
theorem dX0_hungCount_0 : decode cX0_hungCount 0 = .ok (.aload_n 0, 1) := by decide +kernel
theorem dX0_hungCount_1 : decode cX0_hungCount 1 = .ok (.getfield 34, 3) := by decide +kernel
theorem dX0_hungCount_4 : decode cX0_hungCount 4 = .ok (.invokestatic 49, 3) := by decide +kernel
theorem dX0_hungCount_7 : decode cX0_hungCount 7 = .ok (.ireturn, 1) := by decide +kernel
theorem dX0_pile_0 : decode cX0_pile 0 = .ok (.aload_n 0, 1) := by decide +kernel
theorem dX0_pile_1 : decode cX0_pile 1 = .ok (.getfield 18, 3) := by decide +kernel
theorem dX0_pile_4 : decode cX0_pile 4 = .ok (.iload_n 1, 1) := by decide +kernel
theorem dX0_pile_5 : decode cX0_pile 5 = .ok (.iaload, 1) := by decide +kernel
theorem dX0_pile_6 : decode cX0_pile 6 = .ok (.istore 4, 2) := by decide +kernel
theorem dX0_pile_8 : decode cX0_pile 8 = .ok (.iload 4, 2) := by decide +kernel
theorem dX0_pile_10 : decode cX0_pile 10 = .ok (.bipush 6, 2) := by decide +kernel
theorem dX0_pile_12 : decode cX0_pile 12 = .ok (.if_icmp .ge 39, 3) := by decide +kernel
theorem dX0_pile_15 : decode cX0_pile 15 = .ok (.aload_n 0, 1) := by decide +kernel
theorem dX0_pile_16 : decode cX0_pile 16 = .ok (.getfield 9, 3) := by decide +kernel
theorem dX0_pile_19 : decode cX0_pile 19 = .ok (.iload_n 1, 1) := by decide +kernel
theorem dX0_pile_20 : decode cX0_pile 20 = .ok (.bipush 6, 2) := by decide +kernel
theorem dX0_pile_22 : decode cX0_pile 22 = .ok (.imul, 1) := by decide +kernel
theorem dX0_pile_23 : decode cX0_pile 23 = .ok (.iload 4, 2) := by decide +kernel
theorem dX0_pile_25 : decode cX0_pile 25 = .ok (.iadd, 1) := by decide +kernel
theorem dX0_pile_26 : decode cX0_pile 26 = .ok (.iload_n 2, 1) := by decide +kernel
theorem dX0_pile_27 : decode cX0_pile 27 = .ok (.iastore, 1) := by decide +kernel
theorem dX0_pile_28 : decode cX0_pile 28 = .ok (.aload_n 0, 1) := by decide +kernel
theorem dX0_pile_29 : decode cX0_pile 29 = .ok (.getfield 15, 3) := by decide +kernel
theorem dX0_pile_32 : decode cX0_pile 32 = .ok (.iload_n 1, 1) := by decide +kernel
theorem dX0_pile_33 : decode cX0_pile 33 = .ok (.bipush 6, 2) := by decide +kernel
theorem dX0_pile_35 : decode cX0_pile 35 = .ok (.imul, 1) := by decide +kernel
theorem dX0_pile_36 : decode cX0_pile 36 = .ok (.iload 4, 2) := by decide +kernel
theorem dX0_pile_38 : decode cX0_pile 38 = .ok (.iadd, 1) := by decide +kernel
theorem dX0_pile_39 : decode cX0_pile 39 = .ok (.iload_n 3, 1) := by decide +kernel
theorem dX0_pile_40 : decode cX0_pile 40 = .ok (.iastore, 1) := by decide +kernel
theorem dX0_pile_41 : decode cX0_pile 41 = .ok (.aload_n 0, 1) := by decide +kernel
theorem dX0_pile_42 : decode cX0_pile 42 = .ok (.getfield 18, 3) := by decide +kernel
theorem dX0_pile_45 : decode cX0_pile 45 = .ok (.iload_n 1, 1) := by decide +kernel
theorem dX0_pile_46 : decode cX0_pile 46 = .ok (.iload 4, 2) := by decide +kernel
theorem dX0_pile_48 : decode cX0_pile 48 = .ok (.iconst 1, 1) := by decide +kernel
theorem dX0_pile_49 : decode cX0_pile 49 = .ok (.iadd, 1) := by decide +kernel
theorem dX0_pile_50 : decode cX0_pile 50 = .ok (.iastore, 1) := by decide +kernel
theorem dX0_pile_51 : decode cX0_pile 51 = .ok (.return_, 1) := by decide +kernel
set_option maxRecDepth 20000 in
theorem ggX0_take_X0_dropLowest : GoodIn wsX0_take wsX0_dropLowest := goodIn_r _ [11, 3, 12, 13, 14, 15, 2, 1, 16, 17, 18, 19, 20, 21, 22, 23] (by decide +kernel) (by decide +kernel)
set_option maxRecDepth 20000 in
theorem gX0_take_X0_dropLowest : GoodIn wsX0_take (wsV RX0 55 RX0 yX0_dropLowest wsX0_dropLowest) := goodIn_app (goodIn_of _ (by decide +kernel)) ggX0_take_X0_dropLowest
theorem dX0_take_0 : decode cX0_take 0 = .ok (.aload_n 0, 1) := by decide +kernel
theorem dX0_take_1 : decode cX0_take 1 = .ok (.getfield 18, 3) := by decide +kernel
theorem dX0_take_4 : decode cX0_take 4 = .ok (.iload_n 1, 1) := by decide +kernel
theorem dX0_take_5 : decode cX0_take 5 = .ok (.iaload, 1) := by decide +kernel
theorem dX0_take_6 : decode cX0_take 6 = .ok (.ifCond .ne 6, 3) := by decide +kernel
theorem dX0_take_9 : decode cX0_take 9 = .ok (.bipush (-9), 2) := by decide +kernel
theorem dX0_take_11 : decode cX0_take 11 = .ok (.ireturn, 1) := by decide +kernel
theorem dX0_take_12 : decode cX0_take 12 = .ok (.iload_n 1, 1) := by decide +kernel
theorem dX0_take_13 : decode cX0_take 13 = .ok (.bipush 6, 2) := by decide +kernel
theorem dX0_take_15 : decode cX0_take 15 = .ok (.imul, 1) := by decide +kernel
theorem dX0_take_16 : decode cX0_take 16 = .ok (.istore_n 2, 1) := by decide +kernel
theorem dX0_take_17 : decode cX0_take 17 = .ok (.aload_n 0, 1) := by decide +kernel
theorem dX0_take_18 : decode cX0_take 18 = .ok (.getfield 15, 3) := by decide +kernel
theorem dX0_take_21 : decode cX0_take 21 = .ok (.iload_n 2, 1) := by decide +kernel
theorem dX0_take_22 : decode cX0_take 22 = .ok (.iaload, 1) := by decide +kernel
theorem dX0_take_23 : decode cX0_take 23 = .ok (.istore_n 3, 1) := by decide +kernel
theorem dX0_take_24 : decode cX0_take 24 = .ok (.aload_n 0, 1) := by decide +kernel
theorem dX0_take_25 : decode cX0_take 25 = .ok (.getfield 9, 3) := by decide +kernel
theorem dX0_take_28 : decode cX0_take 28 = .ok (.iload_n 2, 1) := by decide +kernel
theorem dX0_take_29 : decode cX0_take 29 = .ok (.dup2, 1) := by decide +kernel
theorem dX0_take_30 : decode cX0_take 30 = .ok (.iaload, 1) := by decide +kernel
theorem dX0_take_31 : decode cX0_take 31 = .ok (.iconst 1, 1) := by decide +kernel
theorem dX0_take_32 : decode cX0_take 32 = .ok (.isub, 1) := by decide +kernel
theorem dX0_take_33 : decode cX0_take 33 = .ok (.iastore, 1) := by decide +kernel
theorem dX0_take_34 : decode cX0_take 34 = .ok (.aload_n 0, 1) := by decide +kernel
theorem dX0_take_35 : decode cX0_take 35 = .ok (.getfield 9, 3) := by decide +kernel
theorem dX0_take_38 : decode cX0_take 38 = .ok (.iload_n 2, 1) := by decide +kernel
theorem dX0_take_39 : decode cX0_take 39 = .ok (.iaload, 1) := by decide +kernel
theorem dX0_take_40 : decode cX0_take 40 = .ok (.ifCond .ne 8, 3) := by decide +kernel
theorem dX0_take_43 : decode cX0_take 43 = .ok (.aload_n 0, 1) := by decide +kernel
theorem dX0_take_44 : decode cX0_take 44 = .ok (.iload_n 1, 1) := by decide +kernel
theorem dX0_take_45 : decode cX0_take 45 = .ok (.invokevirtual 55, 3) := by decide +kernel
theorem dX0_take_48 : decode cX0_take 48 = .ok (.aload_n 0, 1) := by decide +kernel
theorem dX0_take_49 : decode cX0_take 49 = .ok (.getfield 21, 3) := by decide +kernel
theorem dX0_take_52 : decode cX0_take 52 = .ok (.iload_n 1, 1) := by decide +kernel
theorem dX0_take_53 : decode cX0_take 53 = .ok (.dup2, 1) := by decide +kernel
theorem dX0_take_54 : decode cX0_take 54 = .ok (.iaload, 1) := by decide +kernel
theorem dX0_take_55 : decode cX0_take 55 = .ok (.iconst 1, 1) := by decide +kernel
theorem dX0_take_56 : decode cX0_take 56 = .ok (.iadd, 1) := by decide +kernel
theorem dX0_take_57 : decode cX0_take 57 = .ok (.iastore, 1) := by decide +kernel
theorem dX0_take_58 : decode cX0_take 58 = .ok (.aload_n 0, 1) := by decide +kernel
theorem dX0_take_59 : decode cX0_take 59 = .ok (.dup, 1) := by decide +kernel
theorem dX0_take_60 : decode cX0_take 60 = .ok (.getfield 37, 3) := by decide +kernel
theorem dX0_take_63 : decode cX0_take 63 = .ok (.iconst 1, 1) := by decide +kernel
theorem dX0_take_64 : decode cX0_take 64 = .ok (.iadd, 1) := by decide +kernel
theorem dX0_take_65 : decode cX0_take 65 = .ok (.putfield 37, 3) := by decide +kernel
theorem dX0_take_68 : decode cX0_take 68 = .ok (.aload_n 0, 1) := by decide +kernel
theorem dX0_take_69 : decode cX0_take 69 = .ok (.dup, 1) := by decide +kernel
theorem dX0_take_70 : decode cX0_take 70 = .ok (.getfield 40, 3) := by decide +kernel
theorem dX0_take_73 : decode cX0_take 73 = .ok (.iload_n 3, 1) := by decide +kernel
theorem dX0_take_74 : decode cX0_take 74 = .ok (.iadd, 1) := by decide +kernel
theorem dX0_take_75 : decode cX0_take 75 = .ok (.putfield 40, 3) := by decide +kernel
theorem dX0_take_78 : decode cX0_take 78 = .ok (.iload_n 3, 1) := by decide +kernel
theorem dX0_take_79 : decode cX0_take 79 = .ok (.ireturn, 1) := by decide +kernel
theorem dX0_dropLowest_0 : decode cX0_dropLowest 0 = .ok (.iload_n 1, 1) := by decide +kernel
theorem dX0_dropLowest_1 : decode cX0_dropLowest 1 = .ok (.bipush 6, 2) := by decide +kernel
theorem dX0_dropLowest_3 : decode cX0_dropLowest 3 = .ok (.imul, 1) := by decide +kernel
theorem dX0_dropLowest_4 : decode cX0_dropLowest 4 = .ok (.istore_n 2, 1) := by decide +kernel
theorem dX0_dropLowest_5 : decode cX0_dropLowest 5 = .ok (.aload_n 0, 1) := by decide +kernel
theorem dX0_dropLowest_6 : decode cX0_dropLowest 6 = .ok (.getfield 9, 3) := by decide +kernel
theorem dX0_dropLowest_9 : decode cX0_dropLowest 9 = .ok (.iload_n 2, 1) := by decide +kernel
theorem dX0_dropLowest_10 : decode cX0_dropLowest 10 = .ok (.iconst 1, 1) := by decide +kernel
theorem dX0_dropLowest_11 : decode cX0_dropLowest 11 = .ok (.iadd, 1) := by decide +kernel
theorem dX0_dropLowest_12 : decode cX0_dropLowest 12 = .ok (.aload_n 0, 1) := by decide +kernel
theorem dX0_dropLowest_13 : decode cX0_dropLowest 13 = .ok (.getfield 9, 3) := by decide +kernel
theorem dX0_dropLowest_16 : decode cX0_dropLowest 16 = .ok (.iload_n 2, 1) := by decide +kernel
theorem dX0_dropLowest_17 : decode cX0_dropLowest 17 = .ok (.iconst 5, 1) := by decide +kernel
theorem dX0_dropLowest_18 : decode cX0_dropLowest 18 = .ok (.invokestatic 43, 3) := by decide +kernel
theorem dX0_dropLowest_21 : decode cX0_dropLowest 21 = .ok (.aload_n 0, 1) := by decide +kernel
theorem dX0_dropLowest_22 : decode cX0_dropLowest 22 = .ok (.getfield 15, 3) := by decide +kernel
theorem dX0_dropLowest_25 : decode cX0_dropLowest 25 = .ok (.iload_n 2, 1) := by decide +kernel
theorem dX0_dropLowest_26 : decode cX0_dropLowest 26 = .ok (.iconst 1, 1) := by decide +kernel
theorem dX0_dropLowest_27 : decode cX0_dropLowest 27 = .ok (.iadd, 1) := by decide +kernel
theorem dX0_dropLowest_28 : decode cX0_dropLowest 28 = .ok (.aload_n 0, 1) := by decide +kernel
theorem dX0_dropLowest_29 : decode cX0_dropLowest 29 = .ok (.getfield 15, 3) := by decide +kernel
theorem dX0_dropLowest_32 : decode cX0_dropLowest 32 = .ok (.iload_n 2, 1) := by decide +kernel
theorem dX0_dropLowest_33 : decode cX0_dropLowest 33 = .ok (.iconst 5, 1) := by decide +kernel
theorem dX0_dropLowest_34 : decode cX0_dropLowest 34 = .ok (.invokestatic 43, 3) := by decide +kernel
theorem dX0_dropLowest_37 : decode cX0_dropLowest 37 = .ok (.aload_n 0, 1) := by decide +kernel
theorem dX0_dropLowest_38 : decode cX0_dropLowest 38 = .ok (.getfield 18, 3) := by decide +kernel
theorem dX0_dropLowest_41 : decode cX0_dropLowest 41 = .ok (.iload_n 1, 1) := by decide +kernel
theorem dX0_dropLowest_42 : decode cX0_dropLowest 42 = .ok (.dup2, 1) := by decide +kernel
theorem dX0_dropLowest_43 : decode cX0_dropLowest 43 = .ok (.iaload, 1) := by decide +kernel
theorem dX0_dropLowest_44 : decode cX0_dropLowest 44 = .ok (.iconst 1, 1) := by decide +kernel
theorem dX0_dropLowest_45 : decode cX0_dropLowest 45 = .ok (.isub, 1) := by decide +kernel
theorem dX0_dropLowest_46 : decode cX0_dropLowest 46 = .ok (.iastore, 1) := by decide +kernel
theorem dX0_dropLowest_47 : decode cX0_dropLowest 47 = .ok (.return_, 1) := by decide +kernel
set_option maxRecDepth 20000 in
theorem ggX0_ready_X0_slackOf : GoodIn wsX0_ready wsX0_slackOf := goodIn_r _ [5, 6, 7, 8, 9, 10, 11, 12, 13, 14, 15, 16, 17, 4, 18, 19, 20, 21, 22, 23, 24, 25, 26, 27, 28, 29, 30, 31, 32, 33, 34, 35, 36, 37, 38, 39, 40, 41, 42, 43, 44, 45, 46] (by decide +kernel) (by decide +kernel)
set_option maxRecDepth 20000 in
theorem gX0_ready_X0_slackOf : GoodIn wsX0_ready (wsV RX0 59 RX0 yX0_slackOf wsX0_slackOf) := goodIn_app (goodIn_of _ (by decide +kernel)) ggX0_ready_X0_slackOf
theorem dX0_ready_0 : decode cX0_ready 0 = .ok (.aload_n 0, 1) := by decide +kernel
theorem dX0_ready_1 : decode cX0_ready 1 = .ok (.aload_n 1, 1) := by decide +kernel
theorem dX0_ready_2 : decode cX0_ready 2 = .ok (.iload_n 2, 1) := by decide +kernel
theorem dX0_ready_3 : decode cX0_ready 3 = .ok (.invokevirtual 59, 3) := by decide +kernel
theorem dX0_ready_6 : decode cX0_ready 6 = .ok (.ifCond .le 7, 3) := by decide +kernel
theorem dX0_ready_9 : decode cX0_ready 9 = .ok (.iconst 1, 1) := by decide +kernel
theorem dX0_ready_10 : decode cX0_ready 10 = .ok (.goto 4, 3) := by decide +kernel
theorem dX0_ready_13 : decode cX0_ready 13 = .ok (.iconst 0, 1) := by decide +kernel
theorem dX0_ready_14 : decode cX0_ready 14 = .ok (.ireturn, 1) := by decide +kernel
set_option maxRecDepth 20000 in
theorem ggX0_slackOf_X0_hangs : GoodIn wsX0_slackOf wsX0_hangs := goodIn_r _ [14, 15, 30, 31, 32, 33, 34, 35, 36, 37] (by decide +kernel) (by decide +kernel)
set_option maxRecDepth 20000 in
theorem gX0_slackOf_X0_hangs : GoodIn wsX0_slackOf (wsV RX0 63 RX0 yX0_hangs wsX0_hangs) := goodIn_app (goodIn_of _ (by decide +kernel)) ggX0_slackOf_X0_hangs
set_option maxRecDepth 20000 in
theorem ggX0_slackOf_X0_leftIn : GoodIn wsX0_slackOf wsX0_leftIn := goodIn_r _ [19, 20, 21, 30, 31, 32, 33, 34, 35, 36, 37] (by decide +kernel) (by decide +kernel)
set_option maxRecDepth 20000 in
theorem gX0_slackOf_X0_leftIn : GoodIn wsX0_slackOf (wsV RX0 67 RX0 yX0_leftIn wsX0_leftIn) := goodIn_app (goodIn_of _ (by decide +kernel)) ggX0_slackOf_X0_leftIn
set_option maxRecDepth 20000 in
theorem ggX0_slackOf_X2_room : GoodIn wsX0_slackOf wsX2_room := goodIn_r _ [26, 27, 28, 29, 4, 5, 6, 38, 39, 40, 41, 42] (by decide +kernel) (by decide +kernel)
set_option maxRecDepth 20000 in
theorem gX0_slackOf_X2_room : GoodIn wsX0_slackOf (wsV RX0 70 RX2 yX2_room wsX2_room) := goodIn_app (goodIn_of _ (by decide +kernel)) ggX0_slackOf_X2_room
theorem dX0_slackOf_0 : decode cX0_slackOf 0 = .ok (.aload_n 0, 1) := by decide +kernel
theorem dX0_slackOf_1 : decode cX0_slackOf 1 = .ok (.iload_n 2, 1) := by decide +kernel
theorem dX0_slackOf_2 : decode cX0_slackOf 2 = .ok (.invokevirtual 63, 3) := by decide +kernel
theorem dX0_slackOf_5 : decode cX0_slackOf 5 = .ok (.ifCond .eq 5, 3) := by decide +kernel
theorem dX0_slackOf_8 : decode cX0_slackOf 8 = .ok (.iconst 0, 1) := by decide +kernel
theorem dX0_slackOf_9 : decode cX0_slackOf 9 = .ok (.ireturn, 1) := by decide +kernel
theorem dX0_slackOf_10 : decode cX0_slackOf 10 = .ok (.iconst 0, 1) := by decide +kernel
theorem dX0_slackOf_11 : decode cX0_slackOf 11 = .ok (.aload_n 0, 1) := by decide +kernel
theorem dX0_slackOf_12 : decode cX0_slackOf 12 = .ok (.iload_n 2, 1) := by decide +kernel
theorem dX0_slackOf_13 : decode cX0_slackOf 13 = .ok (.invokevirtual 67, 3) := by decide +kernel
theorem dX0_slackOf_16 : decode cX0_slackOf 16 = .ok (.aload_n 1, 1) := by decide +kernel
theorem dX0_slackOf_17 : decode cX0_slackOf 17 = .ok (.iload_n 2, 1) := by decide +kernel
theorem dX0_slackOf_18 : decode cX0_slackOf 18 = .ok (.aload_n 0, 1) := by decide +kernel
theorem dX0_slackOf_19 : decode cX0_slackOf 19 = .ok (.getfield 21, 3) := by decide +kernel
theorem dX0_slackOf_22 : decode cX0_slackOf 22 = .ok (.aload_n 0, 1) := by decide +kernel
theorem dX0_slackOf_23 : decode cX0_slackOf 23 = .ok (.getfield 30, 3) := by decide +kernel
theorem dX0_slackOf_26 : decode cX0_slackOf 26 = .ok (.invokevirtual 70, 3) := by decide +kernel
theorem dX0_slackOf_29 : decode cX0_slackOf 29 = .ok (.invokestatic 76, 3) := by decide +kernel
theorem dX0_slackOf_32 : decode cX0_slackOf 32 = .ok (.invokestatic 82, 3) := by decide +kernel
theorem dX0_slackOf_35 : decode cX0_slackOf 35 = .ok (.ireturn, 1) := by decide +kernel
set_option maxRecDepth 20000 in
theorem ggX0_blockersOf_X2_degree : GoodIn wsX0_blockersOf wsX2_degree := goodIn_r _ [7, 8, 22, 23, 24, 25, 26] (by decide +kernel) (by decide +kernel)
set_option maxRecDepth 20000 in
theorem gX0_blockersOf_X2_degree : GoodIn wsX0_blockersOf (wsV RX0 85 RX2 yX2_degree wsX2_degree) := goodIn_app (goodIn_of _ (by decide +kernel)) ggX0_blockersOf_X2_degree
set_option maxRecDepth 20000 in
theorem ggX0_blockersOf_X2_neighbour : GoodIn wsX0_blockersOf wsX2_neighbour := goodIn_r _ [12, 13, 22, 23, 24, 25, 26] (by decide +kernel) (by decide +kernel)
set_option maxRecDepth 20000 in
theorem gX0_blockersOf_X2_neighbour : GoodIn wsX0_blockersOf (wsV RX0 88 RX2 yX2_neighbour wsX2_neighbour) := goodIn_app (goodIn_of _ (by decide +kernel)) ggX0_blockersOf_X2_neighbour
theorem dX0_blockersOf_0 : decode cX0_blockersOf 0 = .ok (.iconst 0, 1) := by decide +kernel
theorem dX0_blockersOf_1 : decode cX0_blockersOf 1 = .ok (.istore_n 3, 1) := by decide +kernel
theorem dX0_blockersOf_2 : decode cX0_blockersOf 2 = .ok (.iconst 0, 1) := by decide +kernel
theorem dX0_blockersOf_3 : decode cX0_blockersOf 3 = .ok (.istore 4, 2) := by decide +kernel
theorem dX0_blockersOf_5 : decode cX0_blockersOf 5 = .ok (.iload 4, 2) := by decide +kernel
theorem dX0_blockersOf_7 : decode cX0_blockersOf 7 = .ok (.aload_n 1, 1) := by decide +kernel
theorem dX0_blockersOf_8 : decode cX0_blockersOf 8 = .ok (.iload_n 2, 1) := by decide +kernel
theorem dX0_blockersOf_9 : decode cX0_blockersOf 9 = .ok (.invokevirtual 85, 3) := by decide +kernel
theorem dX0_blockersOf_12 : decode cX0_blockersOf 12 = .ok (.if_icmp .ge 48, 3) := by decide +kernel
theorem dX0_blockersOf_15 : decode cX0_blockersOf 15 = .ok (.aload_n 1, 1) := by decide +kernel
theorem dX0_blockersOf_16 : decode cX0_blockersOf 16 = .ok (.iload_n 2, 1) := by decide +kernel
theorem dX0_blockersOf_17 : decode cX0_blockersOf 17 = .ok (.iload 4, 2) := by decide +kernel
theorem dX0_blockersOf_19 : decode cX0_blockersOf 19 = .ok (.invokevirtual 88, 3) := by decide +kernel
theorem dX0_blockersOf_22 : decode cX0_blockersOf 22 = .ok (.istore 5, 2) := by decide +kernel
theorem dX0_blockersOf_24 : decode cX0_blockersOf 24 = .ok (.aload_n 0, 1) := by decide +kernel
theorem dX0_blockersOf_25 : decode cX0_blockersOf 25 = .ok (.getfield 21, 3) := by decide +kernel
theorem dX0_blockersOf_28 : decode cX0_blockersOf 28 = .ok (.iload_n 2, 1) := by decide +kernel
theorem dX0_blockersOf_29 : decode cX0_blockersOf 29 = .ok (.iaload, 1) := by decide +kernel
theorem dX0_blockersOf_30 : decode cX0_blockersOf 30 = .ok (.iconst 1, 1) := by decide +kernel
theorem dX0_blockersOf_31 : decode cX0_blockersOf 31 = .ok (.iadd, 1) := by decide +kernel
theorem dX0_blockersOf_32 : decode cX0_blockersOf 32 = .ok (.aload_n 0, 1) := by decide +kernel
theorem dX0_blockersOf_33 : decode cX0_blockersOf 33 = .ok (.getfield 21, 3) := by decide +kernel
theorem dX0_blockersOf_36 : decode cX0_blockersOf 36 = .ok (.iload 5, 2) := by decide +kernel
theorem dX0_blockersOf_38 : decode cX0_blockersOf 38 = .ok (.iaload, 1) := by decide +kernel
theorem dX0_blockersOf_39 : decode cX0_blockersOf 39 = .ok (.isub, 1) := by decide +kernel
theorem dX0_blockersOf_40 : decode cX0_blockersOf 40 = .ok (.aload_n 0, 1) := by decide +kernel
theorem dX0_blockersOf_41 : decode cX0_blockersOf 41 = .ok (.getfield 30, 3) := by decide +kernel
theorem dX0_blockersOf_44 : decode cX0_blockersOf 44 = .ok (.if_icmp .le 10, 3) := by decide +kernel
theorem dX0_blockersOf_47 : decode cX0_blockersOf 47 = .ok (.iload_n 3, 1) := by decide +kernel
theorem dX0_blockersOf_48 : decode cX0_blockersOf 48 = .ok (.iconst 1, 1) := by decide +kernel
theorem dX0_blockersOf_49 : decode cX0_blockersOf 49 = .ok (.iload 5, 2) := by decide +kernel
theorem dX0_blockersOf_51 : decode cX0_blockersOf 51 = .ok (.ishl, 1) := by decide +kernel
theorem dX0_blockersOf_52 : decode cX0_blockersOf 52 = .ok (.ior, 1) := by decide +kernel
theorem dX0_blockersOf_53 : decode cX0_blockersOf 53 = .ok (.istore_n 3, 1) := by decide +kernel
theorem dX0_blockersOf_54 : decode cX0_blockersOf 54 = .ok (.iinc 4 1, 3) := by decide +kernel
theorem dX0_blockersOf_57 : decode cX0_blockersOf 57 = .ok (.goto (-52), 3) := by decide +kernel
theorem dX0_blockersOf_60 : decode cX0_blockersOf 60 = .ok (.iload_n 3, 1) := by decide +kernel
theorem dX0_blockersOf_61 : decode cX0_blockersOf 61 = .ok (.ireturn, 1) := by decide +kernel
set_option maxRecDepth 20000 in
theorem ggX0_fits_X2_size : GoodIn wsX0_fits wsX2_size := goodIn_r _ [6, 7, 26, 27, 28, 29, 30] (by decide +kernel) (by decide +kernel)
set_option maxRecDepth 20000 in
theorem gX0_fits_X2_size : GoodIn wsX0_fits (wsV RX0 91 RX2 yX2_size wsX2_size) := goodIn_app (goodIn_of _ (by decide +kernel)) ggX0_fits_X2_size
set_option maxRecDepth 20000 in
theorem ggX0_fits_X2_room : GoodIn wsX0_fits wsX2_room := goodIn_r _ [11, 12, 13, 14, 15, 16, 17, 26, 27, 28, 29, 30] (by decide +kernel) (by decide +kernel)
set_option maxRecDepth 20000 in
theorem gX0_fits_X2_room : GoodIn wsX0_fits (wsV RX0 70 RX2 yX2_room wsX2_room) := goodIn_app (goodIn_of _ (by decide +kernel)) ggX0_fits_X2_room
theorem dX0_fits_0 : decode cX0_fits 0 = .ok (.iconst 0, 1) := by decide +kernel
theorem dX0_fits_1 : decode cX0_fits 1 = .ok (.istore_n 3, 1) := by decide +kernel
theorem dX0_fits_2 : decode cX0_fits 2 = .ok (.iload_n 3, 1) := by decide +kernel
theorem dX0_fits_3 : decode cX0_fits 3 = .ok (.aload_n 1, 1) := by decide +kernel
theorem dX0_fits_4 : decode cX0_fits 4 = .ok (.invokevirtual 91, 3) := by decide +kernel
theorem dX0_fits_7 : decode cX0_fits 7 = .ok (.if_icmp .ge 24, 3) := by decide +kernel
theorem dX0_fits_10 : decode cX0_fits 10 = .ok (.aload_n 1, 1) := by decide +kernel
theorem dX0_fits_11 : decode cX0_fits 11 = .ok (.iload_n 3, 1) := by decide +kernel
theorem dX0_fits_12 : decode cX0_fits 12 = .ok (.aload_n 0, 1) := by decide +kernel
theorem dX0_fits_13 : decode cX0_fits 13 = .ok (.getfield 21, 3) := by decide +kernel
theorem dX0_fits_16 : decode cX0_fits 16 = .ok (.iload_n 2, 1) := by decide +kernel
theorem dX0_fits_17 : decode cX0_fits 17 = .ok (.invokevirtual 70, 3) := by decide +kernel
theorem dX0_fits_20 : decode cX0_fits 20 = .ok (.ifCond .ge 5, 3) := by decide +kernel
theorem dX0_fits_23 : decode cX0_fits 23 = .ok (.iconst 0, 1) := by decide +kernel
theorem dX0_fits_24 : decode cX0_fits 24 = .ok (.ireturn, 1) := by decide +kernel
theorem dX0_fits_25 : decode cX0_fits 25 = .ok (.iinc 3 1, 3) := by decide +kernel
theorem dX0_fits_28 : decode cX0_fits 28 = .ok (.goto (-26), 3) := by decide +kernel
theorem dX0_fits_31 : decode cX0_fits 31 = .ok (.iconst 1, 1) := by decide +kernel
theorem dX0_fits_32 : decode cX0_fits 32 = .ok (.ireturn, 1) := by decide +kernel
set_option maxRecDepth 20000 in
theorem ggX0_nextOf_X2_size : GoodIn wsX0_nextOf wsX2_size := goodIn_r _ [5, 6, 44, 45, 46, 47, 48] (by decide +kernel) (by decide +kernel)
set_option maxRecDepth 20000 in
theorem gX0_nextOf_X2_size : GoodIn wsX0_nextOf (wsV RX0 91 RX2 yX2_size wsX2_size) := goodIn_app (goodIn_of _ (by decide +kernel)) ggX0_nextOf_X2_size
set_option maxRecDepth 20000 in
theorem ggX0_nextOf_X0_slackOf : GoodIn wsX0_nextOf wsX0_slackOf := goodIn_r _ [11, 12, 13, 14, 15, 16, 17, 18, 19, 20, 21, 22, 23, 10, 24, 25, 26, 27, 28, 29, 30, 31, 32, 33, 34, 4, 35, 36, 37, 38, 49, 50, 51, 52, 53, 54, 55, 56, 44, 45, 46, 47, 48] (by decide +kernel) (by decide +kernel)
set_option maxRecDepth 20000 in
theorem gX0_nextOf_X0_slackOf : GoodIn wsX0_nextOf (wsV RX0 59 RX0 yX0_slackOf wsX0_slackOf) := goodIn_app (goodIn_of _ (by decide +kernel)) ggX0_nextOf_X0_slackOf
set_option maxRecDepth 20000 in
theorem ggX0_nextOf_X0_gradeOf : GoodIn wsX0_nextOf wsX0_gradeOf := goodIn_r _ [42, 30, 31, 43, 49, 50, 51, 52, 53, 54, 55, 56] (by decide +kernel) (by decide +kernel)
set_option maxRecDepth 20000 in
theorem gX0_nextOf_X0_gradeOf : GoodIn wsX0_nextOf (wsV RX0 95 RX0 yX0_gradeOf wsX0_gradeOf) := goodIn_app (goodIn_of _ (by decide +kernel)) ggX0_nextOf_X0_gradeOf
theorem dX0_nextOf_0 : decode cX0_nextOf 0 = .ok (.bipush (-9), 2) := by decide +kernel
theorem dX0_nextOf_2 : decode cX0_nextOf 2 = .ok (.istore_n 2, 1) := by decide +kernel
theorem dX0_nextOf_3 : decode cX0_nextOf 3 = .ok (.iconst 0, 1) := by decide +kernel
theorem dX0_nextOf_4 : decode cX0_nextOf 4 = .ok (.istore_n 3, 1) := by decide +kernel
theorem dX0_nextOf_5 : decode cX0_nextOf 5 = .ok (.bipush (-9), 2) := by decide +kernel
theorem dX0_nextOf_7 : decode cX0_nextOf 7 = .ok (.istore 4, 2) := by decide +kernel
theorem dX0_nextOf_9 : decode cX0_nextOf 9 = .ok (.iconst 0, 1) := by decide +kernel
theorem dX0_nextOf_10 : decode cX0_nextOf 10 = .ok (.istore 5, 2) := by decide +kernel
theorem dX0_nextOf_12 : decode cX0_nextOf 12 = .ok (.iload 5, 2) := by decide +kernel
theorem dX0_nextOf_14 : decode cX0_nextOf 14 = .ok (.aload_n 1, 1) := by decide +kernel
theorem dX0_nextOf_15 : decode cX0_nextOf 15 = .ok (.invokevirtual 91, 3) := by decide +kernel
theorem dX0_nextOf_18 : decode cX0_nextOf 18 = .ok (.if_icmp .ge 81, 3) := by decide +kernel
theorem dX0_nextOf_21 : decode cX0_nextOf 21 = .ok (.aload_n 0, 1) := by decide +kernel
theorem dX0_nextOf_22 : decode cX0_nextOf 22 = .ok (.aload_n 1, 1) := by decide +kernel
theorem dX0_nextOf_23 : decode cX0_nextOf 23 = .ok (.iload 5, 2) := by decide +kernel
theorem dX0_nextOf_25 : decode cX0_nextOf 25 = .ok (.invokevirtual 59, 3) := by decide +kernel
theorem dX0_nextOf_28 : decode cX0_nextOf 28 = .ok (.istore 6, 2) := by decide +kernel
theorem dX0_nextOf_30 : decode cX0_nextOf 30 = .ok (.aload_n 0, 1) := by decide +kernel
theorem dX0_nextOf_31 : decode cX0_nextOf 31 = .ok (.iload 5, 2) := by decide +kernel
theorem dX0_nextOf_33 : decode cX0_nextOf 33 = .ok (.iconst 0, 1) := by decide +kernel
theorem dX0_nextOf_34 : decode cX0_nextOf 34 = .ok (.invokevirtual 95, 3) := by decide +kernel
theorem dX0_nextOf_37 : decode cX0_nextOf 37 = .ok (.istore 7, 2) := by decide +kernel
theorem dX0_nextOf_39 : decode cX0_nextOf 39 = .ok (.iload 6, 2) := by decide +kernel
theorem dX0_nextOf_41 : decode cX0_nextOf 41 = .ok (.iload_n 3, 1) := by decide +kernel
theorem dX0_nextOf_42 : decode cX0_nextOf 42 = .ok (.if_icmp .ne 18, 3) := by decide +kernel
theorem dX0_nextOf_45 : decode cX0_nextOf 45 = .ok (.iload 7, 2) := by decide +kernel
theorem dX0_nextOf_47 : decode cX0_nextOf 47 = .ok (.iload 4, 2) := by decide +kernel
theorem dX0_nextOf_49 : decode cX0_nextOf 49 = .ok (.if_icmp .le 7, 3) := by decide +kernel
theorem dX0_nextOf_52 : decode cX0_nextOf 52 = .ok (.iconst 1, 1) := by decide +kernel
theorem dX0_nextOf_53 : decode cX0_nextOf 53 = .ok (.goto 18, 3) := by decide +kernel
theorem dX0_nextOf_56 : decode cX0_nextOf 56 = .ok (.iconst 0, 1) := by decide +kernel
theorem dX0_nextOf_57 : decode cX0_nextOf 57 = .ok (.goto 14, 3) := by decide +kernel
theorem dX0_nextOf_60 : decode cX0_nextOf 60 = .ok (.iload 6, 2) := by decide +kernel
theorem dX0_nextOf_62 : decode cX0_nextOf 62 = .ok (.iload_n 3, 1) := by decide +kernel
theorem dX0_nextOf_63 : decode cX0_nextOf 63 = .ok (.if_icmp .le 7, 3) := by decide +kernel
theorem dX0_nextOf_66 : decode cX0_nextOf 66 = .ok (.iconst 1, 1) := by decide +kernel
theorem dX0_nextOf_67 : decode cX0_nextOf 67 = .ok (.goto 4, 3) := by decide +kernel
theorem dX0_nextOf_70 : decode cX0_nextOf 70 = .ok (.iconst 0, 1) := by decide +kernel
theorem dX0_nextOf_71 : decode cX0_nextOf 71 = .ok (.istore 8, 2) := by decide +kernel
theorem dX0_nextOf_73 : decode cX0_nextOf 73 = .ok (.iload 6, 2) := by decide +kernel
theorem dX0_nextOf_75 : decode cX0_nextOf 75 = .ok (.ifCond .le 18, 3) := by decide +kernel
theorem dX0_nextOf_78 : decode cX0_nextOf 78 = .ok (.iload 8, 2) := by decide +kernel
theorem dX0_nextOf_80 : decode cX0_nextOf 80 = .ok (.ifCond .eq 13, 3) := by decide +kernel
theorem dX0_nextOf_83 : decode cX0_nextOf 83 = .ok (.iload 5, 2) := by decide +kernel
theorem dX0_nextOf_85 : decode cX0_nextOf 85 = .ok (.istore_n 2, 1) := by decide +kernel
theorem dX0_nextOf_86 : decode cX0_nextOf 86 = .ok (.iload 6, 2) := by decide +kernel
theorem dX0_nextOf_88 : decode cX0_nextOf 88 = .ok (.istore_n 3, 1) := by decide +kernel
theorem dX0_nextOf_89 : decode cX0_nextOf 89 = .ok (.iload 7, 2) := by decide +kernel
theorem dX0_nextOf_91 : decode cX0_nextOf 91 = .ok (.istore 4, 2) := by decide +kernel
theorem dX0_nextOf_93 : decode cX0_nextOf 93 = .ok (.iinc 5 1, 3) := by decide +kernel
theorem dX0_nextOf_96 : decode cX0_nextOf 96 = .ok (.goto (-84), 3) := by decide +kernel
theorem dX0_nextOf_99 : decode cX0_nextOf 99 = .ok (.iload_n 2, 1) := by decide +kernel
theorem dX0_nextOf_100 : decode cX0_nextOf 100 = .ok (.ireturn, 1) := by decide +kernel
set_option maxRecDepth 20000 in
theorem ggX0_takeByOrder_X0_nextOf : GoodIn wsX0_takeByOrder wsX0_nextOf := goodIn_r _ [5, 6, 7, 8, 9, 10, 11, 12, 13, 14, 4, 15, 16, 17, 18, 19, 20, 21, 22, 23, 24, 25, 26, 27, 28, 29, 30, 31, 32, 33, 34, 35, 36, 37, 38, 39, 40, 41, 42, 43, 44, 45, 46, 47, 62, 63, 64, 65, 66, 67, 68, 69, 70, 71, 72, 73, 74] (by decide +kernel) (by decide +kernel)
set_option maxRecDepth 20000 in
theorem gX0_takeByOrder_X0_nextOf : GoodIn wsX0_takeByOrder (wsV RX0 98 RX0 yX0_nextOf wsX0_nextOf) := goodIn_app (goodIn_of _ (by decide +kernel)) ggX0_takeByOrder_X0_nextOf
set_option maxRecDepth 20000 in
theorem ggX0_takeByOrder_X0_take : GoodIn wsX0_takeByOrder wsX0_take := goodIn_r _ [51, 34, 47, 35, 16, 52, 53, 54, 55, 56, 4, 57, 58, 59, 60, 61, 67, 68, 69, 70, 71, 72, 73, 74] (by decide +kernel) (by decide +kernel)
set_option maxRecDepth 20000 in
theorem gX0_takeByOrder_X0_take : GoodIn wsX0_takeByOrder (wsV RX0 102 RX0 yX0_take wsX0_take) := goodIn_app (goodIn_of _ (by decide +kernel)) ggX0_takeByOrder_X0_take
theorem dX0_takeByOrder_0 : decode cX0_takeByOrder 0 = .ok (.iconst 0, 1) := by decide +kernel
theorem dX0_takeByOrder_1 : decode cX0_takeByOrder 1 = .ok (.istore_n 3, 1) := by decide +kernel
theorem dX0_takeByOrder_2 : decode cX0_takeByOrder 2 = .ok (.iload_n 3, 1) := by decide +kernel
theorem dX0_takeByOrder_3 : decode cX0_takeByOrder 3 = .ok (.iload_n 2, 1) := by decide +kernel
theorem dX0_takeByOrder_4 : decode cX0_takeByOrder 4 = .ok (.if_icmp .ge 32, 3) := by decide +kernel
theorem dX0_takeByOrder_7 : decode cX0_takeByOrder 7 = .ok (.aload_n 0, 1) := by decide +kernel
theorem dX0_takeByOrder_8 : decode cX0_takeByOrder 8 = .ok (.aload_n 1, 1) := by decide +kernel
theorem dX0_takeByOrder_9 : decode cX0_takeByOrder 9 = .ok (.invokevirtual 98, 3) := by decide +kernel
theorem dX0_takeByOrder_12 : decode cX0_takeByOrder 12 = .ok (.istore 4, 2) := by decide +kernel
theorem dX0_takeByOrder_14 : decode cX0_takeByOrder 14 = .ok (.iload 4, 2) := by decide +kernel
theorem dX0_takeByOrder_16 : decode cX0_takeByOrder 16 = .ok (.bipush (-9), 2) := by decide +kernel
theorem dX0_takeByOrder_18 : decode cX0_takeByOrder 18 = .ok (.if_icmp .ne 5, 3) := by decide +kernel
theorem dX0_takeByOrder_21 : decode cX0_takeByOrder 21 = .ok (.iload_n 3, 1) := by decide +kernel
theorem dX0_takeByOrder_22 : decode cX0_takeByOrder 22 = .ok (.ireturn, 1) := by decide +kernel
theorem dX0_takeByOrder_23 : decode cX0_takeByOrder 23 = .ok (.aload_n 0, 1) := by decide +kernel
theorem dX0_takeByOrder_24 : decode cX0_takeByOrder 24 = .ok (.iload 4, 2) := by decide +kernel
theorem dX0_takeByOrder_26 : decode cX0_takeByOrder 26 = .ok (.invokevirtual 102, 3) := by decide +kernel
theorem dX0_takeByOrder_29 : decode cX0_takeByOrder 29 = .ok (.pop, 1) := by decide +kernel
theorem dX0_takeByOrder_30 : decode cX0_takeByOrder 30 = .ok (.iinc 3 1, 3) := by decide +kernel
theorem dX0_takeByOrder_33 : decode cX0_takeByOrder 33 = .ok (.goto (-31), 3) := by decide +kernel
theorem dX0_takeByOrder_36 : decode cX0_takeByOrder 36 = .ok (.iload_n 2, 1) := by decide +kernel
theorem dX0_takeByOrder_37 : decode cX0_takeByOrder 37 = .ok (.ireturn, 1) := by decide +kernel
set_option maxRecDepth 20000 in
theorem ggX0_fewestFor_X2_size : GoodIn wsX0_fewestFor wsX2_size := goodIn_r _ [7, 8, 39, 40, 41, 42, 43] (by decide +kernel) (by decide +kernel)
set_option maxRecDepth 20000 in
theorem gX0_fewestFor_X2_size : GoodIn wsX0_fewestFor (wsV RX0 91 RX2 yX2_size wsX2_size) := goodIn_app (goodIn_of _ (by decide +kernel)) ggX0_fewestFor_X2_size
set_option maxRecDepth 20000 in
theorem ggX0_fewestFor_X2_distance : GoodIn wsX0_fewestFor wsX2_distance := goodIn_r _ [12, 13, 14, 15, 16, 17, 18, 39, 40, 41, 42, 43] (by decide +kernel) (by decide +kernel)
set_option maxRecDepth 20000 in
theorem gX0_fewestFor_X2_distance : GoodIn wsX0_fewestFor (wsV RX0 105 RX2 yX2_distance wsX2_distance) := goodIn_app (goodIn_of _ (by decide +kernel)) ggX0_fewestFor_X2_distance
set_option maxRecDepth 20000 in
theorem ggX0_fewestFor_X0_hangs : GoodIn wsX0_fewestFor wsX0_hangs := goodIn_r _ [23, 24, 31, 32, 33, 34, 35, 36, 37, 38] (by decide +kernel) (by decide +kernel)
set_option maxRecDepth 20000 in
theorem gX0_fewestFor_X0_hangs : GoodIn wsX0_fewestFor (wsV RX0 63 RX0 yX0_hangs wsX0_hangs) := goodIn_app (goodIn_of _ (by decide +kernel)) ggX0_fewestFor_X0_hangs
set_option maxRecDepth 20000 in
theorem ggX0_fewestFor_X0_leftIn : GoodIn wsX0_fewestFor wsX0_leftIn := goodIn_r _ [28, 29, 30, 31, 32, 33, 34, 35, 36, 37, 38] (by decide +kernel) (by decide +kernel)
set_option maxRecDepth 20000 in
theorem gX0_fewestFor_X0_leftIn : GoodIn wsX0_fewestFor (wsV RX0 67 RX0 yX0_leftIn wsX0_leftIn) := goodIn_app (goodIn_of _ (by decide +kernel)) ggX0_fewestFor_X0_leftIn
theorem dX0_fewestFor_0 : decode cX0_fewestFor 0 = .ok (.iconst 0, 1) := by decide +kernel
theorem dX0_fewestFor_1 : decode cX0_fewestFor 1 = .ok (.istore 4, 2) := by decide +kernel
theorem dX0_fewestFor_3 : decode cX0_fewestFor 3 = .ok (.iconst 0, 1) := by decide +kernel
theorem dX0_fewestFor_4 : decode cX0_fewestFor 4 = .ok (.istore 5, 2) := by decide +kernel
theorem dX0_fewestFor_6 : decode cX0_fewestFor 6 = .ok (.iload 5, 2) := by decide +kernel
theorem dX0_fewestFor_8 : decode cX0_fewestFor 8 = .ok (.aload_n 1, 1) := by decide +kernel
theorem dX0_fewestFor_9 : decode cX0_fewestFor 9 = .ok (.invokevirtual 91, 3) := by decide +kernel
theorem dX0_fewestFor_12 : decode cX0_fewestFor 12 = .ok (.if_icmp .ge 75, 3) := by decide +kernel
theorem dX0_fewestFor_15 : decode cX0_fewestFor 15 = .ok (.aload_n 0, 1) := by decide +kernel
theorem dX0_fewestFor_16 : decode cX0_fewestFor 16 = .ok (.getfield 21, 3) := by decide +kernel
theorem dX0_fewestFor_19 : decode cX0_fewestFor 19 = .ok (.iload_n 2, 1) := by decide +kernel
theorem dX0_fewestFor_20 : decode cX0_fewestFor 20 = .ok (.iaload, 1) := by decide +kernel
theorem dX0_fewestFor_21 : decode cX0_fewestFor 21 = .ok (.iload_n 3, 1) := by decide +kernel
theorem dX0_fewestFor_22 : decode cX0_fewestFor 22 = .ok (.iadd, 1) := by decide +kernel
theorem dX0_fewestFor_23 : decode cX0_fewestFor 23 = .ok (.aload_n 0, 1) := by decide +kernel
theorem dX0_fewestFor_24 : decode cX0_fewestFor 24 = .ok (.getfield 30, 3) := by decide +kernel
theorem dX0_fewestFor_27 : decode cX0_fewestFor 27 = .ok (.aload_n 1, 1) := by decide +kernel
theorem dX0_fewestFor_28 : decode cX0_fewestFor 28 = .ok (.iload_n 2, 1) := by decide +kernel
theorem dX0_fewestFor_29 : decode cX0_fewestFor 29 = .ok (.iload 5, 2) := by decide +kernel
theorem dX0_fewestFor_31 : decode cX0_fewestFor 31 = .ok (.invokevirtual 105, 3) := by decide +kernel
theorem dX0_fewestFor_34 : decode cX0_fewestFor 34 = .ok (.imul, 1) := by decide +kernel
theorem dX0_fewestFor_35 : decode cX0_fewestFor 35 = .ok (.isub, 1) := by decide +kernel
theorem dX0_fewestFor_36 : decode cX0_fewestFor 36 = .ok (.aload_n 0, 1) := by decide +kernel
theorem dX0_fewestFor_37 : decode cX0_fewestFor 37 = .ok (.getfield 21, 3) := by decide +kernel
theorem dX0_fewestFor_40 : decode cX0_fewestFor 40 = .ok (.iload 5, 2) := by decide +kernel
theorem dX0_fewestFor_42 : decode cX0_fewestFor 42 = .ok (.iaload, 1) := by decide +kernel
theorem dX0_fewestFor_43 : decode cX0_fewestFor 43 = .ok (.isub, 1) := by decide +kernel
theorem dX0_fewestFor_44 : decode cX0_fewestFor 44 = .ok (.istore 6, 2) := by decide +kernel
theorem dX0_fewestFor_46 : decode cX0_fewestFor 46 = .ok (.iload 6, 2) := by decide +kernel
theorem dX0_fewestFor_48 : decode cX0_fewestFor 48 = .ok (.ifCond .le 33, 3) := by decide +kernel
theorem dX0_fewestFor_51 : decode cX0_fewestFor 51 = .ok (.aload_n 0, 1) := by decide +kernel
theorem dX0_fewestFor_52 : decode cX0_fewestFor 52 = .ok (.iload 5, 2) := by decide +kernel
theorem dX0_fewestFor_54 : decode cX0_fewestFor 54 = .ok (.invokevirtual 63, 3) := by decide +kernel
theorem dX0_fewestFor_57 : decode cX0_fewestFor 57 = .ok (.ifCond .ne 14, 3) := by decide +kernel
theorem dX0_fewestFor_60 : decode cX0_fewestFor 60 = .ok (.aload_n 0, 1) := by decide +kernel
theorem dX0_fewestFor_61 : decode cX0_fewestFor 61 = .ok (.iload 5, 2) := by decide +kernel
theorem dX0_fewestFor_63 : decode cX0_fewestFor 63 = .ok (.invokevirtual 67, 3) := by decide +kernel
theorem dX0_fewestFor_66 : decode cX0_fewestFor 66 = .ok (.iload 6, 2) := by decide +kernel
theorem dX0_fewestFor_68 : decode cX0_fewestFor 68 = .ok (.if_icmp .ge 6, 3) := by decide +kernel
theorem dX0_fewestFor_71 : decode cX0_fewestFor 71 = .ok (.bipush (-9), 2) := by decide +kernel
theorem dX0_fewestFor_73 : decode cX0_fewestFor 73 = .ok (.ireturn, 1) := by decide +kernel
theorem dX0_fewestFor_74 : decode cX0_fewestFor 74 = .ok (.iload 4, 2) := by decide +kernel
theorem dX0_fewestFor_76 : decode cX0_fewestFor 76 = .ok (.iload 6, 2) := by decide +kernel
theorem dX0_fewestFor_78 : decode cX0_fewestFor 78 = .ok (.iadd, 1) := by decide +kernel
theorem dX0_fewestFor_79 : decode cX0_fewestFor 79 = .ok (.istore 4, 2) := by decide +kernel
theorem dX0_fewestFor_81 : decode cX0_fewestFor 81 = .ok (.iinc 5 1, 3) := by decide +kernel
theorem dX0_fewestFor_84 : decode cX0_fewestFor 84 = .ok (.goto (-78), 3) := by decide +kernel
theorem dX0_fewestFor_87 : decode cX0_fewestFor 87 = .ok (.iload 4, 2) := by decide +kernel
theorem dX0_fewestFor_89 : decode cX0_fewestFor 89 = .ok (.ireturn, 1) := by decide +kernel
set_option maxRecDepth 20000 in
theorem ggX0_mostFeasible_X0_fewestFor : GoodIn wsX0_mostFeasible wsX0_fewestFor := goodIn_r _ [5, 6, 7, 8, 9, 10, 11, 12, 13, 14, 15, 16, 17, 18, 19, 20, 21, 22, 23, 24, 25, 26, 4, 27, 28, 29, 30, 31, 32, 33, 34, 35, 36, 37, 38, 39, 40, 41, 42, 43, 44, 45, 46, 47] (by decide +kernel) (by decide +kernel)
set_option maxRecDepth 20000 in
theorem gX0_mostFeasible_X0_fewestFor : GoodIn wsX0_mostFeasible (wsV RX0 108 RX0 yX0_fewestFor wsX0_fewestFor) := goodIn_app (goodIn_of _ (by decide +kernel)) ggX0_mostFeasible_X0_fewestFor
theorem dX0_mostFeasible_0 : decode cX0_mostFeasible 0 = .ok (.iconst 1, 1) := by decide +kernel
theorem dX0_mostFeasible_1 : decode cX0_mostFeasible 1 = .ok (.istore_n 3, 1) := by decide +kernel
theorem dX0_mostFeasible_2 : decode cX0_mostFeasible 2 = .ok (.iload_n 3, 1) := by decide +kernel
theorem dX0_mostFeasible_3 : decode cX0_mostFeasible 3 = .ok (.bipush 54, 2) := by decide +kernel
theorem dX0_mostFeasible_5 : decode cX0_mostFeasible 5 = .ok (.if_icmp .gt 25, 3) := by decide +kernel
theorem dX0_mostFeasible_8 : decode cX0_mostFeasible 8 = .ok (.aload_n 0, 1) := by decide +kernel
theorem dX0_mostFeasible_9 : decode cX0_mostFeasible 9 = .ok (.aload_n 1, 1) := by decide +kernel
theorem dX0_mostFeasible_10 : decode cX0_mostFeasible 10 = .ok (.iload_n 2, 1) := by decide +kernel
theorem dX0_mostFeasible_11 : decode cX0_mostFeasible 11 = .ok (.iload_n 3, 1) := by decide +kernel
theorem dX0_mostFeasible_12 : decode cX0_mostFeasible 12 = .ok (.invokevirtual 108, 3) := by decide +kernel
theorem dX0_mostFeasible_15 : decode cX0_mostFeasible 15 = .ok (.bipush (-9), 2) := by decide +kernel
theorem dX0_mostFeasible_17 : decode cX0_mostFeasible 17 = .ok (.if_icmp .ne 7, 3) := by decide +kernel
theorem dX0_mostFeasible_20 : decode cX0_mostFeasible 20 = .ok (.iload_n 3, 1) := by decide +kernel
theorem dX0_mostFeasible_21 : decode cX0_mostFeasible 21 = .ok (.iconst 1, 1) := by decide +kernel
theorem dX0_mostFeasible_22 : decode cX0_mostFeasible 22 = .ok (.isub, 1) := by decide +kernel
theorem dX0_mostFeasible_23 : decode cX0_mostFeasible 23 = .ok (.ireturn, 1) := by decide +kernel
theorem dX0_mostFeasible_24 : decode cX0_mostFeasible 24 = .ok (.iinc 3 1, 3) := by decide +kernel
theorem dX0_mostFeasible_27 : decode cX0_mostFeasible 27 = .ok (.goto (-25), 3) := by decide +kernel
theorem dX0_mostFeasible_30 : decode cX0_mostFeasible 30 = .ok (.bipush 54, 2) := by decide +kernel
theorem dX0_mostFeasible_32 : decode cX0_mostFeasible 32 = .ok (.ireturn, 1) := by decide +kernel
set_option maxRecDepth 20000 in
theorem ggX0_pointsThatBegin_X2_size : GoodIn wsX0_pointsThatBegin wsX2_size := goodIn_r _ [5, 6, 30, 31, 32, 33, 34] (by decide +kernel) (by decide +kernel)
set_option maxRecDepth 20000 in
theorem gX0_pointsThatBegin_X2_size : GoodIn wsX0_pointsThatBegin (wsV RX0 91 RX2 yX2_size wsX2_size) := goodIn_app (goodIn_of _ (by decide +kernel)) ggX0_pointsThatBegin_X2_size
set_option maxRecDepth 20000 in
theorem ggX0_pointsThatBegin_X0_begins : GoodIn wsX0_pointsThatBegin wsX0_begins := goodIn_r _ [11, 12, 13, 14, 15, 16, 17, 18, 19, 20, 10, 21, 22, 23, 24, 25, 26, 27, 28, 29, 35, 36, 37, 38, 39, 40, 41, 42, 43, 44] (by decide +kernel) (by decide +kernel)
set_option maxRecDepth 20000 in
theorem gX0_pointsThatBegin_X0_begins : GoodIn wsX0_pointsThatBegin (wsV RX0 112 RX0 yX0_begins wsX0_begins) := goodIn_app (goodIn_of _ (by decide +kernel)) ggX0_pointsThatBegin_X0_begins
theorem dX0_pointsThatBegin_0 : decode cX0_pointsThatBegin 0 = .ok (.iconst 0, 1) := by decide +kernel
theorem dX0_pointsThatBegin_1 : decode cX0_pointsThatBegin 1 = .ok (.istore_n 3, 1) := by decide +kernel
theorem dX0_pointsThatBegin_2 : decode cX0_pointsThatBegin 2 = .ok (.iconst 0, 1) := by decide +kernel
theorem dX0_pointsThatBegin_3 : decode cX0_pointsThatBegin 3 = .ok (.istore 4, 2) := by decide +kernel
theorem dX0_pointsThatBegin_5 : decode cX0_pointsThatBegin 5 = .ok (.iload 4, 2) := by decide +kernel
theorem dX0_pointsThatBegin_7 : decode cX0_pointsThatBegin 7 = .ok (.aload_n 1, 1) := by decide +kernel
theorem dX0_pointsThatBegin_8 : decode cX0_pointsThatBegin 8 = .ok (.invokevirtual 91, 3) := by decide +kernel
theorem dX0_pointsThatBegin_11 : decode cX0_pointsThatBegin 11 = .ok (.if_icmp .ge 26, 3) := by decide +kernel
theorem dX0_pointsThatBegin_14 : decode cX0_pointsThatBegin 14 = .ok (.aload_n 0, 1) := by decide +kernel
theorem dX0_pointsThatBegin_15 : decode cX0_pointsThatBegin 15 = .ok (.iload 4, 2) := by decide +kernel
theorem dX0_pointsThatBegin_17 : decode cX0_pointsThatBegin 17 = .ok (.aload_n 2, 1) := by decide +kernel
theorem dX0_pointsThatBegin_18 : decode cX0_pointsThatBegin 18 = .ok (.invokevirtual 112, 3) := by decide +kernel
theorem dX0_pointsThatBegin_21 : decode cX0_pointsThatBegin 21 = .ok (.ifCond .eq 10, 3) := by decide +kernel
theorem dX0_pointsThatBegin_24 : decode cX0_pointsThatBegin 24 = .ok (.iload_n 3, 1) := by decide +kernel
theorem dX0_pointsThatBegin_25 : decode cX0_pointsThatBegin 25 = .ok (.iconst 1, 1) := by decide +kernel
theorem dX0_pointsThatBegin_26 : decode cX0_pointsThatBegin 26 = .ok (.iload 4, 2) := by decide +kernel
theorem dX0_pointsThatBegin_28 : decode cX0_pointsThatBegin 28 = .ok (.ishl, 1) := by decide +kernel
theorem dX0_pointsThatBegin_29 : decode cX0_pointsThatBegin 29 = .ok (.ior, 1) := by decide +kernel
theorem dX0_pointsThatBegin_30 : decode cX0_pointsThatBegin 30 = .ok (.istore_n 3, 1) := by decide +kernel
theorem dX0_pointsThatBegin_31 : decode cX0_pointsThatBegin 31 = .ok (.iinc 4 1, 3) := by decide +kernel
theorem dX0_pointsThatBegin_34 : decode cX0_pointsThatBegin 34 = .ok (.goto (-29), 3) := by decide +kernel
theorem dX0_pointsThatBegin_37 : decode cX0_pointsThatBegin 37 = .ok (.iload_n 3, 1) := by decide +kernel
theorem dX0_pointsThatBegin_38 : decode cX0_pointsThatBegin 38 = .ok (.ireturn, 1) := by decide +kernel
set_option maxRecDepth 20000 in
theorem ggX0_begins_X3_count : GoodIn wsX0_begins wsX3_count := goodIn_r _ [5, 6, 20, 21] (by decide +kernel) (by decide +kernel)
set_option maxRecDepth 20000 in
theorem gX0_begins_X3_count : GoodIn wsX0_begins (wsV RX0 116 RX3 yX3_count wsX3_count) := goodIn_app (goodIn_of _ (by decide +kernel)) ggX0_begins_X3_count
set_option maxRecDepth 20000 in
theorem ggX0_begins_X0_gradeOf : GoodIn wsX0_begins wsX0_gradeOf := goodIn_r _ [11, 12, 13, 14, 22, 23, 24, 25, 26, 27, 28, 29] (by decide +kernel) (by decide +kernel)
set_option maxRecDepth 20000 in
theorem gX0_begins_X0_gradeOf : GoodIn wsX0_begins (wsV RX0 95 RX0 yX0_gradeOf wsX0_gradeOf) := goodIn_app (goodIn_of _ (by decide +kernel)) ggX0_begins_X0_gradeOf
set_option maxRecDepth 20000 in
theorem ggX0_begins_X3_get : GoodIn wsX0_begins wsX3_get := goodIn_r _ [18, 6, 19, 20, 21] (by decide +kernel) (by decide +kernel)
set_option maxRecDepth 20000 in
theorem gX0_begins_X3_get : GoodIn wsX0_begins (wsV RX0 121 RX3 yX3_get wsX3_get) := goodIn_app (goodIn_of _ (by decide +kernel)) ggX0_begins_X3_get
theorem dX0_begins_0 : decode cX0_begins 0 = .ok (.iconst 0, 1) := by decide +kernel
theorem dX0_begins_1 : decode cX0_begins 1 = .ok (.istore_n 3, 1) := by decide +kernel
theorem dX0_begins_2 : decode cX0_begins 2 = .ok (.iload_n 3, 1) := by decide +kernel
theorem dX0_begins_3 : decode cX0_begins 3 = .ok (.aload_n 2, 1) := by decide +kernel
theorem dX0_begins_4 : decode cX0_begins 4 = .ok (.invokevirtual 116, 3) := by decide +kernel
theorem dX0_begins_7 : decode cX0_begins 7 = .ok (.if_icmp .ge 25, 3) := by decide +kernel
theorem dX0_begins_10 : decode cX0_begins 10 = .ok (.aload_n 0, 1) := by decide +kernel
theorem dX0_begins_11 : decode cX0_begins 11 = .ok (.iload_n 1, 1) := by decide +kernel
theorem dX0_begins_12 : decode cX0_begins 12 = .ok (.iload_n 3, 1) := by decide +kernel
theorem dX0_begins_13 : decode cX0_begins 13 = .ok (.invokevirtual 95, 3) := by decide +kernel
theorem dX0_begins_16 : decode cX0_begins 16 = .ok (.aload_n 2, 1) := by decide +kernel
theorem dX0_begins_17 : decode cX0_begins 17 = .ok (.iload_n 3, 1) := by decide +kernel
theorem dX0_begins_18 : decode cX0_begins 18 = .ok (.invokevirtual 121, 3) := by decide +kernel
theorem dX0_begins_21 : decode cX0_begins 21 = .ok (.if_icmp .eq 5, 3) := by decide +kernel
theorem dX0_begins_24 : decode cX0_begins 24 = .ok (.iconst 0, 1) := by decide +kernel
theorem dX0_begins_25 : decode cX0_begins 25 = .ok (.ireturn, 1) := by decide +kernel
theorem dX0_begins_26 : decode cX0_begins 26 = .ok (.iinc 3 1, 3) := by decide +kernel
theorem dX0_begins_29 : decode cX0_begins 29 = .ok (.goto (-27), 3) := by decide +kernel
theorem dX0_begins_32 : decode cX0_begins 32 = .ok (.iconst 1, 1) := by decide +kernel
theorem dX0_begins_33 : decode cX0_begins 33 = .ok (.ireturn, 1) := by decide +kernel
set_option maxRecDepth 20000 in
theorem ggX0_playRound_X2_size : GoodIn wsX0_playRound wsX2_size := goodIn_r _ [5, 6, 70, 71, 72, 73, 74] (by decide +kernel) (by decide +kernel)
set_option maxRecDepth 20000 in
theorem gX0_playRound_X2_size : GoodIn wsX0_playRound (wsV RX0 91 RX2 yX2_size wsX2_size) := goodIn_app (goodIn_of _ (by decide +kernel)) ggX0_playRound_X2_size
set_option maxRecDepth 20000 in
theorem ggX0_playRound_X0_turnHung : GoodIn wsX0_playRound wsX0_turnHung := goodIn_r _ [11, 12, 75, 76, 77, 78, 79, 80, 81, 82] (by decide +kernel) (by decide +kernel)
set_option maxRecDepth 20000 in
theorem gX0_playRound_X0_turnHung : GoodIn wsX0_playRound (wsV RX0 124 RX0 yX0_turnHung wsX0_turnHung) := goodIn_app (goodIn_of _ (by decide +kernel)) ggX0_playRound_X0_turnHung
set_option maxRecDepth 20000 in
theorem ggX0_playRound_X0_takeByOrder : GoodIn wsX0_playRound wsX0_takeByOrder := goodIn_r _ [16, 17, 18, 19, 10, 20, 1, 2, 3, 4, 5, 6, 21, 22, 23, 24, 25, 26, 27, 28, 29, 30, 31, 32, 33, 34, 35, 36, 37, 12, 38, 39, 40, 41, 42, 43, 44, 45, 46, 47, 48, 49, 50, 51, 52, 53, 54, 55, 56, 57, 58, 59, 60, 61, 62, 63, 64, 65, 66, 67, 68, 69, 70, 71, 72, 73, 74, 75, 76, 77, 78, 79, 80, 81, 82] (by decide +kernel) (by decide +kernel)
set_option maxRecDepth 20000 in
theorem gX0_playRound_X0_takeByOrder : GoodIn wsX0_playRound (wsV RX0 127 RX0 yX0_takeByOrder wsX0_takeByOrder) := goodIn_app (goodIn_of _ (by decide +kernel)) ggX0_playRound_X0_takeByOrder
theorem dX0_playRound_0 : decode cX0_playRound 0 = .ok (.aload_n 1, 1) := by decide +kernel
theorem dX0_playRound_1 : decode cX0_playRound 1 = .ok (.invokevirtual 91, 3) := by decide +kernel
theorem dX0_playRound_4 : decode cX0_playRound 4 = .ok (.istore_n 3, 1) := by decide +kernel
theorem dX0_playRound_5 : decode cX0_playRound 5 = .ok (.iload_n 3, 1) := by decide +kernel
theorem dX0_playRound_6 : decode cX0_playRound 6 = .ok (.ifCond .le 18, 3) := by decide +kernel

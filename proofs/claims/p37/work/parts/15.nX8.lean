set_option maxRecDepth 20000 in
theorem ggX8_init_X2_init : GoodIn wsX8_init wsX2_init := goodIn_r _ [35, 36, 2, 3, 37, 38, 39, 40, 41, 113, 114, 115, 116, 117] (by decide +kernel) (by decide +kernel)
set_option maxRecDepth 20000 in
theorem gX8_init_X2_init_n11 : GoodIn wsX8_init (wsX2_init) := ggX8_init_X2_init
set_option maxRecDepth 20000 in
theorem ggX8_init_X0_init : GoodIn wsX8_init wsX0_init := goodIn_r _ [43, 44, 2, 3, 37, 45, 46, 47, 48, 127, 128, 129, 130, 131, 132, 133, 134] (by decide +kernel) (by decide +kernel)
set_option maxRecDepth 20000 in
theorem gX8_init_X0_init_n18 : GoodIn wsX8_init (wsX0_init) := ggX8_init_X0_init
set_option maxRecDepth 20000 in
theorem ggX8_init_X1_init : GoodIn wsX8_init wsX1_init := goodIn_r _ [50, 51, 2, 3, 52, 53, 135, 136] (by decide +kernel) (by decide +kernel)
set_option maxRecDepth 20000 in
theorem gX8_init_X1_init_n28 : GoodIn wsX8_init (wsX1_init) := ggX8_init_X1_init
set_option maxRecDepth 20000 in
theorem ggX8_init_X4_init : GoodIn wsX8_init wsX4_init := goodIn_r _ [56, 57, 2, 3, 58, 59, 9, 10, 42, 43, 44, 37, 45, 46, 47, 48, 137, 138, 139, 127, 128, 129, 130, 131, 132, 133, 134] (by decide +kernel) (by decide +kernel)
set_option maxRecDepth 20000 in
theorem gX8_init_X4_init : GoodIn wsX8_init (wsX4_init) := ggX8_init_X4_init
set_option maxRecDepth 20000 in
theorem ggX8_init_X7_init : GoodIn wsX8_init wsX7_init := goodIn_r _ [62, 63, 2, 3, 64, 65, 66, 67, 9, 10, 42, 43, 44, 37, 45, 46, 47, 48, 140, 141, 127, 128, 129, 130, 131, 132, 133, 134] (by decide +kernel) (by decide +kernel)
set_option maxRecDepth 20000 in
theorem gX8_init_X7_init : GoodIn wsX8_init (wsX7_init) := ggX8_init_X7_init
set_option maxRecDepth 20000 in
theorem ggX8_init_X6_init : GoodIn wsX8_init wsX6_init := goodIn_r _ [69, 70, 2, 3, 37, 71, 72, 73, 74, 75, 76, 142, 143, 144, 145, 146, 147, 148, 149, 150] (by decide +kernel) (by decide +kernel)
set_option maxRecDepth 20000 in
theorem gX8_init_X6_init_n49 : GoodIn wsX8_init (wsX6_init) := ggX8_init_X6_init
set_option maxRecDepth 20000 in
theorem ggX8_init_X3_init : GoodIn wsX8_init wsX3_init := goodIn_r _ [78, 79, 2, 3, 37, 80, 151, 152] (by decide +kernel) (by decide +kernel)
set_option maxRecDepth 20000 in
theorem gX8_init_X3_init_n56 : GoodIn wsX8_init (wsX3_init) := ggX8_init_X3_init
set_option maxRecDepth 20000 in
theorem ggX8_init_X2_shape : GoodIn wsX8_init wsX2_shape := goodIn_r _ [84, 85, 86, 87, 88, 89, 38, 39, 90, 91, 92, 6, 93, 40, 41, 94, 95, 96, 97, 98, 99, 100, 113, 114, 115, 116, 117] (by decide +kernel) (by decide +kernel)
set_option maxRecDepth 20000 in
theorem gX8_init_X2_shape : GoodIn wsX8_init (wsV RX8 64 RX2 yX2_shape wsX2_shape) := goodIn_app (goodIn_of _ (by decide +kernel)) ggX8_init_X2_shape
set_option maxRecDepth 20000 in
theorem ggX8_init_X0_clear : GoodIn wsX8_init wsX0_clear := goodIn_r _ [104, 47, 48, 105, 106, 107, 108, 109, 110, 111, 112, 127, 128, 129, 130, 131, 132, 133, 134] (by decide +kernel) (by decide +kernel)
set_option maxRecDepth 20000 in
theorem gX8_init_X0_clear : GoodIn wsX8_init (wsV RX8 68 RX0 yX0_clear wsX0_clear) := goodIn_app (goodIn_of _ (by decide +kernel)) ggX8_init_X0_clear
theorem dX8_init_0 : decode cX8_init 0 = .ok (.aload_n 0, 1) := by decide +kernel
theorem dX8_init_1 : decode cX8_init 1 = .ok (.invokespecial 3, 3) := by decide +kernel
theorem dX8_init_4 : decode cX8_init 4 = .ok (.aload_n 0, 1) := by decide +kernel
theorem dX8_init_5 : decode cX8_init 5 = .ok (.new 9, 3) := by decide +kernel
theorem dX8_init_8 : decode cX8_init 8 = .ok (.dup, 1) := by decide +kernel
theorem dX8_init_9 : decode cX8_init 9 = .ok (.invokespecial 11, 3) := by decide +kernel
theorem dX8_init_12 : decode cX8_init 12 = .ok (.putfield 12, 3) := by decide +kernel
theorem dX8_init_15 : decode cX8_init 15 = .ok (.aload_n 0, 1) := by decide +kernel
theorem dX8_init_16 : decode cX8_init 16 = .ok (.new 16, 3) := by decide +kernel
theorem dX8_init_19 : decode cX8_init 19 = .ok (.dup, 1) := by decide +kernel
theorem dX8_init_20 : decode cX8_init 20 = .ok (.invokespecial 18, 3) := by decide +kernel
theorem dX8_init_23 : decode cX8_init 23 = .ok (.putfield 19, 3) := by decide +kernel
theorem dX8_init_26 : decode cX8_init 26 = .ok (.aload_n 0, 1) := by decide +kernel
theorem dX8_init_27 : decode cX8_init 27 = .ok (.new 16, 3) := by decide +kernel
theorem dX8_init_30 : decode cX8_init 30 = .ok (.dup, 1) := by decide +kernel
theorem dX8_init_31 : decode cX8_init 31 = .ok (.invokespecial 18, 3) := by decide +kernel
theorem dX8_init_34 : decode cX8_init 34 = .ok (.putfield 23, 3) := by decide +kernel
theorem dX8_init_37 : decode cX8_init 37 = .ok (.aload_n 0, 1) := by decide +kernel
theorem dX8_init_38 : decode cX8_init 38 = .ok (.new 26, 3) := by decide +kernel
theorem dX8_init_41 : decode cX8_init 41 = .ok (.dup, 1) := by decide +kernel
theorem dX8_init_42 : decode cX8_init 42 = .ok (.invokespecial 28, 3) := by decide +kernel
theorem dX8_init_45 : decode cX8_init 45 = .ok (.putfield 29, 3) := by decide +kernel
theorem dX8_init_48 : decode cX8_init 48 = .ok (.aload_n 0, 1) := by decide +kernel
theorem dX8_init_49 : decode cX8_init 49 = .ok (.new 33, 3) := by decide +kernel
theorem dX8_init_52 : decode cX8_init 52 = .ok (.dup, 1) := by decide +kernel
theorem dX8_init_53 : decode cX8_init 53 = .ok (.invokespecial 35, 3) := by decide +kernel
theorem dX8_init_56 : decode cX8_init 56 = .ok (.putfield 36, 3) := by decide +kernel
theorem dX8_init_59 : decode cX8_init 59 = .ok (.aload_n 0, 1) := by decide +kernel
theorem dX8_init_60 : decode cX8_init 60 = .ok (.new 40, 3) := by decide +kernel
theorem dX8_init_63 : decode cX8_init 63 = .ok (.dup, 1) := by decide +kernel
theorem dX8_init_64 : decode cX8_init 64 = .ok (.invokespecial 42, 3) := by decide +kernel
theorem dX8_init_67 : decode cX8_init 67 = .ok (.putfield 43, 3) := by decide +kernel
theorem dX8_init_70 : decode cX8_init 70 = .ok (.aload_n 0, 1) := by decide +kernel
theorem dX8_init_71 : decode cX8_init 71 = .ok (.new 47, 3) := by decide +kernel
theorem dX8_init_74 : decode cX8_init 74 = .ok (.dup, 1) := by decide +kernel
theorem dX8_init_75 : decode cX8_init 75 = .ok (.invokespecial 49, 3) := by decide +kernel
theorem dX8_init_78 : decode cX8_init 78 = .ok (.putfield 50, 3) := by decide +kernel
theorem dX8_init_81 : decode cX8_init 81 = .ok (.aload_n 0, 1) := by decide +kernel
theorem dX8_init_82 : decode cX8_init 82 = .ok (.new 54, 3) := by decide +kernel
theorem dX8_init_85 : decode cX8_init 85 = .ok (.dup, 1) := by decide +kernel
theorem dX8_init_86 : decode cX8_init 86 = .ok (.invokespecial 56, 3) := by decide +kernel
theorem dX8_init_89 : decode cX8_init 89 = .ok (.putfield 57, 3) := by decide +kernel
theorem dX8_init_92 : decode cX8_init 92 = .ok (.aload_n 0, 1) := by decide +kernel
theorem dX8_init_93 : decode cX8_init 93 = .ok (.new 54, 3) := by decide +kernel
theorem dX8_init_96 : decode cX8_init 96 = .ok (.dup, 1) := by decide +kernel
theorem dX8_init_97 : decode cX8_init 97 = .ok (.invokespecial 56, 3) := by decide +kernel
theorem dX8_init_100 : decode cX8_init 100 = .ok (.putfield 61, 3) := by decide +kernel
theorem dX8_init_103 : decode cX8_init 103 = .ok (.aload_n 0, 1) := by decide +kernel
theorem dX8_init_104 : decode cX8_init 104 = .ok (.getfield 12, 3) := by decide +kernel
theorem dX8_init_107 : decode cX8_init 107 = .ok (.iconst 2, 1) := by decide +kernel
theorem dX8_init_108 : decode cX8_init 108 = .ok (.iconst 2, 1) := by decide +kernel
theorem dX8_init_109 : decode cX8_init 109 = .ok (.invokevirtual 64, 3) := by decide +kernel
theorem dX8_init_112 : decode cX8_init 112 = .ok (.aload_n 0, 1) := by decide +kernel
theorem dX8_init_113 : decode cX8_init 113 = .ok (.getfield 19, 3) := by decide +kernel
theorem dX8_init_116 : decode cX8_init 116 = .ok (.iconst 2, 1) := by decide +kernel
theorem dX8_init_117 : decode cX8_init 117 = .ok (.invokevirtual 68, 3) := by decide +kernel
theorem dX8_init_120 : decode cX8_init 120 = .ok (.return_, 1) := by decide +kernel
set_option maxRecDepth 20000 in
theorem ggX8_append_X8_requireRange : GoodIn wsX8_append wsX8_requireRange := goodIn_ca (goodIn_r _ [7, 8, 9] (by decide +kernel) (by decide +kernel)) (goodIn_sub (fun _ h => List.mem_cons_of_mem _ (List.mem_append_right _ h)) (by decide +kernel))
set_option maxRecDepth 20000 in
theorem gX8_append_X8_requireRange : GoodIn wsX8_append (va_wsS RX8 72 yX8_requireRange wsX8_requireRange) := goodIn_app (goodIn_of _ (by decide +kernel)) ggX8_append_X8_requireRange
set_option maxRecDepth 20000 in
theorem ggX8_append_X1_isFull : GoodIn wsX8_append wsX1_isFull := goodIn_r _ [14, 15, 30, 31] (by decide +kernel) (by decide +kernel)
set_option maxRecDepth 20000 in
theorem gX8_append_X1_isFull : GoodIn wsX8_append (wsV RX8 76 RX1 yX1_isFull wsX1_isFull) := goodIn_app (goodIn_of _ (by decide +kernel)) ggX8_append_X1_isFull
set_option maxRecDepth 20000 in
theorem ggX8_append_X1_put : GoodIn wsX8_append wsX1_put := goodIn_r _ [19, 15, 20, 30, 31] (by decide +kernel) (by decide +kernel)
set_option maxRecDepth 20000 in
theorem gX8_append_X1_put : GoodIn wsX8_append (wsV RX8 87 RX1 yX1_put wsX1_put) := goodIn_app (goodIn_of _ (by decide +kernel)) ggX8_append_X1_put
theorem dX8_append_0 : decode cX8_append 0 = .ok (.iload_n 1, 1) := by decide +kernel
theorem dX8_append_1 : decode cX8_append 1 = .ok (.iconst 0, 1) := by decide +kernel
theorem dX8_append_2 : decode cX8_append 2 = .ok (.sipush 255, 3) := by decide +kernel
theorem dX8_append_5 : decode cX8_append 5 = .ok (.invokestatic 72, 3) := by decide +kernel
theorem dX8_append_8 : decode cX8_append 8 = .ok (.aload_n 0, 1) := by decide +kernel
theorem dX8_append_9 : decode cX8_append 9 = .ok (.getfield 29, 3) := by decide +kernel
theorem dX8_append_12 : decode cX8_append 12 = .ok (.invokevirtual 76, 3) := by decide +kernel
theorem dX8_append_15 : decode cX8_append 15 = .ok (.ifCond .eq 13, 3) := by decide +kernel
theorem dX8_append_18 : decode cX8_append 18 = .ok (.new 80, 3) := by decide +kernel
theorem dX8_append_21 : decode cX8_append 21 = .ok (.dup, 1) := by decide +kernel
theorem dX8_append_22 : decode cX8_append 22 = .ok (.ldc 82, 2) := by decide +kernel
theorem dX8_append_24 : decode cX8_append 24 = .ok (.invokespecial 84, 3) := by decide +kernel
theorem dX8_append_27 : decode cX8_append 27 = .ok (.athrow, 1) := by decide +kernel
theorem dX8_append_28 : decode cX8_append 28 = .ok (.aload_n 0, 1) := by decide +kernel
theorem dX8_append_29 : decode cX8_append 29 = .ok (.getfield 29, 3) := by decide +kernel
theorem dX8_append_32 : decode cX8_append 32 = .ok (.iload_n 1, 1) := by decide +kernel
theorem dX8_append_33 : decode cX8_append 33 = .ok (.invokevirtual 87, 3) := by decide +kernel
theorem dX8_append_36 : decode cX8_append 36 = .ok (.ireturn, 1) := by decide +kernel
set_option maxRecDepth 20000 in
theorem ggX8_clearText_X1_clear : GoodIn wsX8_clearText wsX1_clear := goodIn_r _ [6, 7, 17, 18] (by decide +kernel) (by decide +kernel)
set_option maxRecDepth 20000 in
theorem gX8_clearText_X1_clear : GoodIn wsX8_clearText (wsV RX8 91 RX1 yX1_clear wsX1_clear) := goodIn_app (goodIn_of _ (by decide +kernel)) ggX8_clearText_X1_clear
theorem dX8_clearText_0 : decode cX8_clearText 0 = .ok (.aload_n 0, 1) := by decide +kernel
theorem dX8_clearText_1 : decode cX8_clearText 1 = .ok (.getfield 29, 3) := by decide +kernel
theorem dX8_clearText_4 : decode cX8_clearText 4 = .ok (.invokevirtual 91, 3) := by decide +kernel
theorem dX8_clearText_7 : decode cX8_clearText 7 = .ok (.ireturn, 1) := by decide +kernel
set_option maxRecDepth 20000 in
theorem ggX8_errorPosition_X1_findError : GoodIn wsX8_errorPosition wsX1_findError := goodIn_r _ [6, 7, 8, 9, 10, 5, 11, 12, 13, 14, 15, 16, 17, 18, 19, 20, 21, 22, 23, 24, 25, 26, 27, 28, 38, 39] (by decide +kernel) (by decide +kernel)
set_option maxRecDepth 20000 in
theorem gX8_errorPosition_X1_findError : GoodIn wsX8_errorPosition (wsV RX8 94 RX1 yX1_findError wsX1_findError) := goodIn_app (goodIn_of _ (by decide +kernel)) ggX8_errorPosition_X1_findError
theorem dX8_errorPosition_0 : decode cX8_errorPosition 0 = .ok (.aload_n 0, 1) := by decide +kernel
theorem dX8_errorPosition_1 : decode cX8_errorPosition 1 = .ok (.getfield 29, 3) := by decide +kernel
theorem dX8_errorPosition_4 : decode cX8_errorPosition 4 = .ok (.invokevirtual 94, 3) := by decide +kernel
theorem dX8_errorPosition_7 : decode cX8_errorPosition 7 = .ok (.ireturn, 1) := by decide +kernel
set_option maxRecDepth 20000 in
theorem ggX8_load_X1_findError : GoodIn wsX8_load wsX1_findError := goodIn_r _ [12, 13, 14, 15, 16, 11, 17, 18, 19, 20, 21, 22, 23, 24, 25, 26, 27, 28, 29, 30, 31, 32, 33, 34, 116, 117] (by decide +kernel) (by decide +kernel)
set_option maxRecDepth 20000 in
theorem gX8_load_X1_findError : GoodIn wsX8_load (wsV RX8 94 RX1 yX1_findError wsX1_findError) := goodIn_app (goodIn_of _ (by decide +kernel)) ggX8_load_X1_findError
set_option maxRecDepth 20000 in
theorem ggX8_load_X1_build : GoodIn wsX8_load wsX1_build := goodIn_r _ [38, 27, 28, 29, 11, 30, 18, 19, 20, 21, 13, 22, 39, 40, 41, 42, 43, 44, 45, 46, 47, 48, 49, 50, 51, 52, 53, 54, 55, 56, 57, 58, 59, 60, 61, 62, 63, 64, 65, 66, 67, 68, 69, 70, 71, 72, 73, 74, 75, 76, 77, 78, 79, 80, 81, 82, 83, 84, 85, 86, 87, 88, 89, 90, 91, 92, 116, 117, 118, 119, 120, 121, 122, 123, 124, 125, 126, 127, 128, 129, 130] (by decide +kernel) (by decide +kernel)
set_option maxRecDepth 20000 in
theorem gX8_load_X1_build : GoodIn wsX8_load (wsV RX8 99 RX1 yX1_build wsX1_build) := goodIn_app (goodIn_of _ (by decide +kernel)) ggX8_load_X1_build
set_option maxRecDepth 20000 in
theorem ggX8_load_X4_forget : GoodIn wsX8_load wsX4_forget := goodIn_r _ [97, 98, 99, 131, 132, 133] (by decide +kernel) (by decide +kernel)
set_option maxRecDepth 20000 in
theorem gX8_load_X4_forget : GoodIn wsX8_load (wsV RX8 103 RX4 yX4_forget wsX4_forget) := goodIn_app (goodIn_of _ (by decide +kernel)) ggX8_load_X4_forget
set_option maxRecDepth 20000 in
theorem ggX8_load_X7_forget : GoodIn wsX8_load wsX7_forget := goodIn_r _ [104, 105, 134, 135] (by decide +kernel) (by decide +kernel)
set_option maxRecDepth 20000 in
theorem gX8_load_X7_forget : GoodIn wsX8_load (wsV RX8 106 RX7 yX7_forget wsX7_forget) := goodIn_app (goodIn_of _ (by decide +kernel)) ggX8_load_X7_forget
set_option maxRecDepth 20000 in
theorem ggX8_load_X2_size : GoodIn wsX8_load wsX2_size := goodIn_r _ [82, 48, 118, 119, 120, 121, 122] (by decide +kernel) (by decide +kernel)
set_option maxRecDepth 20000 in
theorem gX8_load_X2_size : GoodIn wsX8_load (wsV RX8 107 RX2 yX2_size wsX2_size) := goodIn_app (goodIn_of _ (by decide +kernel)) ggX8_load_X2_size
theorem dX8_load_0 : decode cX8_load 0 = .ok (.aload_n 0, 1) := by decide +kernel
theorem dX8_load_1 : decode cX8_load 1 = .ok (.getfield 29, 3) := by decide +kernel
theorem dX8_load_4 : decode cX8_load 4 = .ok (.invokevirtual 94, 3) := by decide +kernel
theorem dX8_load_7 : decode cX8_load 7 = .ok (.bipush (-9), 2) := by decide +kernel
theorem dX8_load_9 : decode cX8_load 9 = .ok (.if_icmp .eq 13, 3) := by decide +kernel
theorem dX8_load_12 : decode cX8_load 12 = .ok (.new 80, 3) := by decide +kernel
theorem dX8_load_15 : decode cX8_load 15 = .ok (.dup, 1) := by decide +kernel
theorem dX8_load_16 : decode cX8_load 16 = .ok (.ldc 97, 2) := by decide +kernel
theorem dX8_load_18 : decode cX8_load 18 = .ok (.invokespecial 84, 3) := by decide +kernel
theorem dX8_load_21 : decode cX8_load 21 = .ok (.athrow, 1) := by decide +kernel
theorem dX8_load_22 : decode cX8_load 22 = .ok (.aload_n 0, 1) := by decide +kernel
theorem dX8_load_23 : decode cX8_load 23 = .ok (.getfield 29, 3) := by decide +kernel
theorem dX8_load_26 : decode cX8_load 26 = .ok (.aload_n 0, 1) := by decide +kernel
theorem dX8_load_27 : decode cX8_load 27 = .ok (.getfield 12, 3) := by decide +kernel
theorem dX8_load_30 : decode cX8_load 30 = .ok (.aload_n 0, 1) := by decide +kernel
theorem dX8_load_31 : decode cX8_load 31 = .ok (.getfield 19, 3) := by decide +kernel
theorem dX8_load_34 : decode cX8_load 34 = .ok (.invokevirtual 99, 3) := by decide +kernel
theorem dX8_load_37 : decode cX8_load 37 = .ok (.aload_n 0, 1) := by decide +kernel
theorem dX8_load_38 : decode cX8_load 38 = .ok (.getfield 36, 3) := by decide +kernel
theorem dX8_load_41 : decode cX8_load 41 = .ok (.invokevirtual 103, 3) := by decide +kernel
theorem dX8_load_44 : decode cX8_load 44 = .ok (.aload_n 0, 1) := by decide +kernel
theorem dX8_load_45 : decode cX8_load 45 = .ok (.getfield 43, 3) := by decide +kernel
theorem dX8_load_48 : decode cX8_load 48 = .ok (.invokevirtual 106, 3) := by decide +kernel
theorem dX8_load_51 : decode cX8_load 51 = .ok (.aload_n 0, 1) := by decide +kernel
theorem dX8_load_52 : decode cX8_load 52 = .ok (.getfield 12, 3) := by decide +kernel
theorem dX8_load_55 : decode cX8_load 55 = .ok (.invokevirtual 107, 3) := by decide +kernel
theorem dX8_load_58 : decode cX8_load 58 = .ok (.ireturn, 1) := by decide +kernel
set_option maxRecDepth 20000 in
theorem ggX8_pointCount_X2_size : GoodIn wsX8_pointCount wsX2_size := goodIn_r _ [6, 7, 17, 18, 19, 20, 21] (by decide +kernel) (by decide +kernel)
set_option maxRecDepth 20000 in
theorem gX8_pointCount_X2_size : GoodIn wsX8_pointCount (wsV RX8 107 RX2 yX2_size wsX2_size) := goodIn_app (goodIn_of _ (by decide +kernel)) ggX8_pointCount_X2_size
theorem dX8_pointCount_0 : decode cX8_pointCount 0 = .ok (.aload_n 0, 1) := by decide +kernel
theorem dX8_pointCount_1 : decode cX8_pointCount 1 = .ok (.getfield 12, 3) := by decide +kernel
theorem dX8_pointCount_4 : decode cX8_pointCount 4 = .ok (.invokevirtual 107, 3) := by decide +kernel
theorem dX8_pointCount_7 : decode cX8_pointCount 7 = .ok (.ireturn, 1) := by decide +kernel
set_option maxRecDepth 20000 in
theorem ggX8_bound_X0_limit : GoodIn wsX8_bound wsX0_limit := goodIn_r _ [6, 7, 17, 18, 19, 20, 21, 22, 23, 24] (by decide +kernel) (by decide +kernel)
set_option maxRecDepth 20000 in
theorem gX8_bound_X0_limit : GoodIn wsX8_bound (wsV RX8 110 RX0 yX0_limit wsX0_limit) := goodIn_app (goodIn_of _ (by decide +kernel)) ggX8_bound_X0_limit
theorem dX8_bound_0 : decode cX8_bound 0 = .ok (.aload_n 0, 1) := by decide +kernel
theorem dX8_bound_1 : decode cX8_bound 1 = .ok (.getfield 19, 3) := by decide +kernel
theorem dX8_bound_4 : decode cX8_bound 4 = .ok (.invokevirtual 110, 3) := by decide +kernel
theorem dX8_bound_7 : decode cX8_bound 7 = .ok (.ireturn, 1) := by decide +kernel
set_option maxRecDepth 20000 in
theorem ggX8_drawn_X8_requirePoint : GoodIn wsX8_drawn wsX8_requirePoint := goodIn_ca (goodIn_r _ [6, 7, 8, 9, 10, 11, 12, 13, 14, 15, 22, 23, 24, 25, 26, 27, 28, 29, 30, 31, 32, 33, 34, 35] (by decide +kernel) (by decide +kernel)) (goodIn_sub (fun _ h => List.mem_cons_of_mem _ (List.mem_append_right _ h)) (by decide +kernel))
set_option maxRecDepth 20000 in
theorem gX8_drawn_X8_requirePoint : GoodIn wsX8_drawn (wsV RX8 113 RX8 yX8_requirePoint wsX8_requirePoint) := goodIn_app (goodIn_of _ (by decide +kernel)) ggX8_drawn_X8_requirePoint
set_option maxRecDepth 20000 in
theorem ggX8_drawn_X0_drawnFrom : GoodIn wsX8_drawn wsX0_drawnFrom := goodIn_r _ [20, 21, 36, 37, 38, 39, 40, 41, 42, 43] (by decide +kernel) (by decide +kernel)
set_option maxRecDepth 20000 in
theorem gX8_drawn_X0_drawnFrom : GoodIn wsX8_drawn (wsV RX8 116 RX0 yX0_drawnFrom wsX0_drawnFrom) := goodIn_app (goodIn_of _ (by decide +kernel)) ggX8_drawn_X0_drawnFrom
theorem dX8_drawn_0 : decode cX8_drawn 0 = .ok (.aload_n 0, 1) := by decide +kernel
theorem dX8_drawn_1 : decode cX8_drawn 1 = .ok (.iload_n 1, 1) := by decide +kernel
theorem dX8_drawn_2 : decode cX8_drawn 2 = .ok (.invokevirtual 113, 3) := by decide +kernel
theorem dX8_drawn_5 : decode cX8_drawn 5 = .ok (.aload_n 0, 1) := by decide +kernel
theorem dX8_drawn_6 : decode cX8_drawn 6 = .ok (.getfield 19, 3) := by decide +kernel
theorem dX8_drawn_9 : decode cX8_drawn 9 = .ok (.iload_n 1, 1) := by decide +kernel
theorem dX8_drawn_10 : decode cX8_drawn 10 = .ok (.invokevirtual 116, 3) := by decide +kernel
theorem dX8_drawn_13 : decode cX8_drawn 13 = .ok (.ireturn, 1) := by decide +kernel
set_option maxRecDepth 20000 in
theorem ggX8_remaining_X8_requirePoint : GoodIn wsX8_remaining wsX8_requirePoint := goodIn_ca (goodIn_r _ [6, 7, 8, 9, 10, 11, 12, 13, 14, 15, 23, 24, 25, 26, 27, 28, 29, 30, 31, 32, 33, 34, 35, 36] (by decide +kernel) (by decide +kernel)) (goodIn_sub (fun _ h => List.mem_cons_of_mem _ (List.mem_append_right _ h)) (by decide +kernel))
set_option maxRecDepth 20000 in
theorem gX8_remaining_X8_requirePoint : GoodIn wsX8_remaining (wsV RX8 113 RX8 yX8_requirePoint wsX8_requirePoint) := goodIn_app (goodIn_of _ (by decide +kernel)) ggX8_remaining_X8_requirePoint
set_option maxRecDepth 20000 in
theorem ggX8_remaining_X0_leftIn : GoodIn wsX8_remaining wsX0_leftIn := goodIn_r _ [20, 21, 22, 37, 38, 39, 40, 41, 42, 43, 44] (by decide +kernel) (by decide +kernel)
set_option maxRecDepth 20000 in
theorem gX8_remaining_X0_leftIn : GoodIn wsX8_remaining (wsV RX8 119 RX0 yX0_leftIn wsX0_leftIn) := goodIn_app (goodIn_of _ (by decide +kernel)) ggX8_remaining_X0_leftIn
theorem dX8_remaining_0 : decode cX8_remaining 0 = .ok (.aload_n 0, 1) := by decide +kernel
theorem dX8_remaining_1 : decode cX8_remaining 1 = .ok (.iload_n 1, 1) := by decide +kernel
theorem dX8_remaining_2 : decode cX8_remaining 2 = .ok (.invokevirtual 113, 3) := by decide +kernel
theorem dX8_remaining_5 : decode cX8_remaining 5 = .ok (.aload_n 0, 1) := by decide +kernel
theorem dX8_remaining_6 : decode cX8_remaining 6 = .ok (.getfield 19, 3) := by decide +kernel
theorem dX8_remaining_9 : decode cX8_remaining 9 = .ok (.iload_n 1, 1) := by decide +kernel
theorem dX8_remaining_10 : decode cX8_remaining 10 = .ok (.invokevirtual 119, 3) := by decide +kernel
theorem dX8_remaining_13 : decode cX8_remaining 13 = .ok (.ireturn, 1) := by decide +kernel
set_option maxRecDepth 20000 in
theorem ggX8_sliceCount_X8_requirePoint : GoodIn wsX8_sliceCount wsX8_requirePoint := goodIn_ca (goodIn_r _ [6, 7, 8, 9, 10, 11, 12, 13, 14, 15, 22, 23, 24, 25, 26, 27, 28, 29, 30, 31, 32, 33, 34, 35] (by decide +kernel) (by decide +kernel)) (goodIn_sub (fun _ h => List.mem_cons_of_mem _ (List.mem_append_right _ h)) (by decide +kernel))
set_option maxRecDepth 20000 in
theorem gX8_sliceCount_X8_requirePoint : GoodIn wsX8_sliceCount (wsV RX8 113 RX8 yX8_requirePoint wsX8_requirePoint) := goodIn_app (goodIn_of _ (by decide +kernel)) ggX8_sliceCount_X8_requirePoint
set_option maxRecDepth 20000 in
theorem ggX8_sliceCount_X0_height : GoodIn wsX8_sliceCount wsX0_height := goodIn_r _ [20, 21, 36, 37, 38, 39, 40, 41, 42, 43] (by decide +kernel) (by decide +kernel)
set_option maxRecDepth 20000 in
theorem gX8_sliceCount_X0_height : GoodIn wsX8_sliceCount (wsV RX8 122 RX0 yX0_height wsX0_height) := goodIn_app (goodIn_of _ (by decide +kernel)) ggX8_sliceCount_X0_height
theorem dX8_sliceCount_0 : decode cX8_sliceCount 0 = .ok (.aload_n 0, 1) := by decide +kernel
theorem dX8_sliceCount_1 : decode cX8_sliceCount 1 = .ok (.iload_n 1, 1) := by decide +kernel
theorem dX8_sliceCount_2 : decode cX8_sliceCount 2 = .ok (.invokevirtual 113, 3) := by decide +kernel
theorem dX8_sliceCount_5 : decode cX8_sliceCount 5 = .ok (.aload_n 0, 1) := by decide +kernel
theorem dX8_sliceCount_6 : decode cX8_sliceCount 6 = .ok (.getfield 19, 3) := by decide +kernel
theorem dX8_sliceCount_9 : decode cX8_sliceCount 9 = .ok (.iload_n 1, 1) := by decide +kernel
theorem dX8_sliceCount_10 : decode cX8_sliceCount 10 = .ok (.invokevirtual 122, 3) := by decide +kernel
theorem dX8_sliceCount_13 : decode cX8_sliceCount 13 = .ok (.ireturn, 1) := by decide +kernel
set_option maxRecDepth 20000 in
theorem ggX8_gradeAhead_X8_requirePoint : GoodIn wsX8_gradeAhead wsX8_requirePoint := goodIn_ca (goodIn_r _ [6, 7, 8, 9, 10, 11, 12, 13, 14, 15, 29, 30, 31, 32, 33, 34, 35, 36, 37, 38, 39, 40, 41, 42] (by decide +kernel) (by decide +kernel)) (goodIn_sub (fun _ h => List.mem_cons_of_mem _ (List.mem_append_left _ (List.mem_append_right _ h))) (by decide +kernel))
set_option maxRecDepth 20000 in
theorem gX8_gradeAhead_X8_requirePoint : GoodIn wsX8_gradeAhead (wsV RX8 113 RX8 yX8_requirePoint wsX8_requirePoint) := goodIn_app (goodIn_of _ (by decide +kernel)) ggX8_gradeAhead_X8_requirePoint
set_option maxRecDepth 20000 in
theorem ggX8_gradeAhead_X8_requireRange : GoodIn wsX8_gradeAhead wsX8_requireRange := goodIn_ca (goodIn_r _ [18, 19, 20] (by decide +kernel) (by decide +kernel)) (goodIn_sub (fun _ h => List.mem_cons_of_mem _ (List.mem_append_right _ h)) (by decide +kernel))
set_option maxRecDepth 20000 in
theorem gX8_gradeAhead_X8_requireRange : GoodIn wsX8_gradeAhead (va_wsS RX8 72 yX8_requireRange wsX8_requireRange) := goodIn_app (goodIn_of _ (by decide +kernel)) ggX8_gradeAhead_X8_requireRange
set_option maxRecDepth 20000 in
theorem ggX8_gradeAhead_X0_gradeOf : GoodIn wsX8_gradeAhead wsX0_gradeOf := goodIn_r _ [25, 26, 27, 28, 43, 44, 45, 46, 47, 48, 49, 50] (by decide +kernel) (by decide +kernel)
set_option maxRecDepth 20000 in
theorem gX8_gradeAhead_X0_gradeOf : GoodIn wsX8_gradeAhead (wsV RX8 125 RX0 yX0_gradeOf wsX0_gradeOf) := goodIn_app (goodIn_of _ (by decide +kernel)) ggX8_gradeAhead_X0_gradeOf
theorem dX8_gradeAhead_0 : decode cX8_gradeAhead 0 = .ok (.aload_n 0, 1) := by decide +kernel
theorem dX8_gradeAhead_1 : decode cX8_gradeAhead 1 = .ok (.iload_n 1, 1) := by decide +kernel
theorem dX8_gradeAhead_2 : decode cX8_gradeAhead 2 = .ok (.invokevirtual 113, 3) := by decide +kernel
theorem dX8_gradeAhead_5 : decode cX8_gradeAhead 5 = .ok (.iload_n 2, 1) := by decide +kernel
theorem dX8_gradeAhead_6 : decode cX8_gradeAhead 6 = .ok (.iconst 0, 1) := by decide +kernel
theorem dX8_gradeAhead_7 : decode cX8_gradeAhead 7 = .ok (.bipush 99, 2) := by decide +kernel
theorem dX8_gradeAhead_9 : decode cX8_gradeAhead 9 = .ok (.invokestatic 72, 3) := by decide +kernel
theorem dX8_gradeAhead_12 : decode cX8_gradeAhead 12 = .ok (.aload_n 0, 1) := by decide +kernel
theorem dX8_gradeAhead_13 : decode cX8_gradeAhead 13 = .ok (.getfield 19, 3) := by decide +kernel
theorem dX8_gradeAhead_16 : decode cX8_gradeAhead 16 = .ok (.iload_n 1, 1) := by decide +kernel
theorem dX8_gradeAhead_17 : decode cX8_gradeAhead 17 = .ok (.iload_n 2, 1) := by decide +kernel
theorem dX8_gradeAhead_18 : decode cX8_gradeAhead 18 = .ok (.invokevirtual 125, 3) := by decide +kernel
theorem dX8_gradeAhead_21 : decode cX8_gradeAhead 21 = .ok (.ireturn, 1) := by decide +kernel
set_option maxRecDepth 20000 in
theorem ggX8_isHung_X8_requirePoint : GoodIn wsX8_isHung wsX8_requirePoint := goodIn_ca (goodIn_r _ [6, 7, 8, 9, 10, 11, 12, 13, 14, 15, 22, 23, 24, 25, 26, 27, 28, 29, 30, 31, 32, 33, 34, 35] (by decide +kernel) (by decide +kernel)) (goodIn_sub (fun _ h => List.mem_cons_of_mem _ (List.mem_append_right _ h)) (by decide +kernel))
set_option maxRecDepth 20000 in
theorem gX8_isHung_X8_requirePoint : GoodIn wsX8_isHung (wsV RX8 113 RX8 yX8_requirePoint wsX8_requirePoint) := goodIn_app (goodIn_of _ (by decide +kernel)) ggX8_isHung_X8_requirePoint
set_option maxRecDepth 20000 in
theorem ggX8_isHung_X0_hangs : GoodIn wsX8_isHung wsX0_hangs := goodIn_r _ [20, 21, 36, 37, 38, 39, 40, 41, 42, 43] (by decide +kernel) (by decide +kernel)
set_option maxRecDepth 20000 in
theorem gX8_isHung_X0_hangs : GoodIn wsX8_isHung (wsV RX8 129 RX0 yX0_hangs wsX0_hangs) := goodIn_app (goodIn_of _ (by decide +kernel)) ggX8_isHung_X0_hangs
theorem dX8_isHung_0 : decode cX8_isHung 0 = .ok (.aload_n 0, 1) := by decide +kernel
theorem dX8_isHung_1 : decode cX8_isHung 1 = .ok (.iload_n 1, 1) := by decide +kernel
theorem dX8_isHung_2 : decode cX8_isHung 2 = .ok (.invokevirtual 113, 3) := by decide +kernel
theorem dX8_isHung_5 : decode cX8_isHung 5 = .ok (.aload_n 0, 1) := by decide +kernel
theorem dX8_isHung_6 : decode cX8_isHung 6 = .ok (.getfield 19, 3) := by decide +kernel
theorem dX8_isHung_9 : decode cX8_isHung 9 = .ok (.iload_n 1, 1) := by decide +kernel
theorem dX8_isHung_10 : decode cX8_isHung 10 = .ok (.invokevirtual 129, 3) := by decide +kernel
theorem dX8_isHung_13 : decode cX8_isHung 13 = .ok (.ireturn, 1) := by decide +kernel
set_option maxRecDepth 20000 in
theorem ggX8_totalBuckets_X0_bucketSum : GoodIn wsX8_totalBuckets wsX0_bucketSum := goodIn_r _ [6, 7, 17, 18, 19, 20, 21, 22, 23, 24] (by decide +kernel) (by decide +kernel)
set_option maxRecDepth 20000 in
theorem gX8_totalBuckets_X0_bucketSum : GoodIn wsX8_totalBuckets (wsV RX8 133 RX0 yX0_bucketSum wsX0_bucketSum) := goodIn_app (goodIn_of _ (by decide +kernel)) ggX8_totalBuckets_X0_bucketSum
theorem dX8_totalBuckets_0 : decode cX8_totalBuckets 0 = .ok (.aload_n 0, 1) := by decide +kernel
theorem dX8_totalBuckets_1 : decode cX8_totalBuckets 1 = .ok (.getfield 19, 3) := by decide +kernel
theorem dX8_totalBuckets_4 : decode cX8_totalBuckets 4 = .ok (.invokevirtual 133, 3) := by decide +kernel
theorem dX8_totalBuckets_7 : decode cX8_totalBuckets 7 = .ok (.ireturn, 1) := by decide +kernel
set_option maxRecDepth 20000 in
theorem ggX8_totalGrade_X0_gradeSum : GoodIn wsX8_totalGrade wsX0_gradeSum := goodIn_r _ [6, 7, 17, 18, 19, 20, 21, 22, 23, 24] (by decide +kernel) (by decide +kernel)
set_option maxRecDepth 20000 in
theorem gX8_totalGrade_X0_gradeSum : GoodIn wsX8_totalGrade (wsV RX8 136 RX0 yX0_gradeSum wsX0_gradeSum) := goodIn_app (goodIn_of _ (by decide +kernel)) ggX8_totalGrade_X0_gradeSum
theorem dX8_totalGrade_0 : decode cX8_totalGrade 0 = .ok (.aload_n 0, 1) := by decide +kernel
theorem dX8_totalGrade_1 : decode cX8_totalGrade 1 = .ok (.getfield 19, 3) := by decide +kernel
theorem dX8_totalGrade_4 : decode cX8_totalGrade 4 = .ok (.invokevirtual 136, 3) := by decide +kernel
theorem dX8_totalGrade_7 : decode cX8_totalGrade 7 = .ok (.ireturn, 1) := by decide +kernel
set_option maxRecDepth 20000 in
theorem ggX8_draw_X8_requirePoint : GoodIn wsX8_draw wsX8_requirePoint := goodIn_ca (goodIn_r _ [10, 11, 12, 4, 13, 14, 15, 16, 17, 18, 82, 83, 84, 85, 86, 87, 88, 89, 90, 91, 92, 93, 94, 95] (by decide +kernel) (by decide +kernel)) (goodIn_sub (fun _ h => List.mem_cons_of_mem _ (List.mem_append_right _ h)) (by decide +kernel))
set_option maxRecDepth 20000 in
theorem gX8_draw_X8_requirePoint : GoodIn wsX8_draw (wsV RX8 113 RX8 yX8_requirePoint wsX8_requirePoint) := goodIn_app (goodIn_of _ (by decide +kernel)) ggX8_draw_X8_requirePoint
set_option maxRecDepth 20000 in
theorem ggX8_draw_X0_ready : GoodIn wsX8_draw wsX0_ready := goodIn_r _ [23, 24, 25, 26, 22, 27, 28, 29, 30, 31, 32, 33, 34, 35, 36, 37, 38, 39, 40, 41, 42, 43, 44, 45, 46, 47, 48, 49, 50, 16, 51, 52, 53, 54, 96, 97, 98, 99, 100, 101, 102, 103, 91, 92, 93, 94, 95] (by decide +kernel) (by decide +kernel)
set_option maxRecDepth 20000 in
theorem gX8_draw_X0_ready : GoodIn wsX8_draw (wsV RX8 139 RX0 yX0_ready wsX0_ready) := goodIn_app (goodIn_of _ (by decide +kernel)) ggX8_draw_X0_ready
set_option maxRecDepth 20000 in
theorem ggX8_draw_X4_remember : GoodIn wsX8_draw wsX4_remember := goodIn_r _ [59, 60, 61, 62, 63, 64, 65, 22, 66, 47, 67, 68, 69, 70, 71, 46, 28, 29, 41, 72, 73, 104, 105, 106, 96, 97, 98, 99, 100, 101, 102, 103] (by decide +kernel) (by decide +kernel)
set_option maxRecDepth 20000 in
theorem gX8_draw_X4_remember : GoodIn wsX8_draw (wsV RX8 145 RX4 yX4_remember wsX4_remember) := goodIn_app (goodIn_of _ (by decide +kernel)) ggX8_draw_X4_remember
set_option maxRecDepth 20000 in
theorem ggX8_draw_X0_take : GoodIn wsX8_draw wsX0_take := goodIn_r _ [77, 46, 71, 47, 28, 72, 73, 78, 79, 80, 22, 81, 67, 68, 69, 70, 96, 97, 98, 99, 100, 101, 102, 103] (by decide +kernel) (by decide +kernel)
set_option maxRecDepth 20000 in
theorem gX8_draw_X0_take : GoodIn wsX8_draw (wsV RX8 149 RX0 yX0_take wsX0_take) := goodIn_app (goodIn_of _ (by decide +kernel)) ggX8_draw_X0_take
theorem dX8_draw_0 : decode cX8_draw 0 = .ok (.aload_n 0, 1) := by decide +kernel
theorem dX8_draw_1 : decode cX8_draw 1 = .ok (.iload_n 1, 1) := by decide +kernel
theorem dX8_draw_2 : decode cX8_draw 2 = .ok (.invokevirtual 113, 3) := by decide +kernel
theorem dX8_draw_5 : decode cX8_draw 5 = .ok (.aload_n 0, 1) := by decide +kernel
theorem dX8_draw_6 : decode cX8_draw 6 = .ok (.getfield 19, 3) := by decide +kernel
theorem dX8_draw_9 : decode cX8_draw 9 = .ok (.aload_n 0, 1) := by decide +kernel
theorem dX8_draw_10 : decode cX8_draw 10 = .ok (.getfield 12, 3) := by decide +kernel
theorem dX8_draw_13 : decode cX8_draw 13 = .ok (.iload_n 1, 1) := by decide +kernel
theorem dX8_draw_14 : decode cX8_draw 14 = .ok (.invokevirtual 139, 3) := by decide +kernel
theorem dX8_draw_17 : decode cX8_draw 17 = .ok (.ifCond .ne 13, 3) := by decide +kernel
theorem dX8_draw_20 : decode cX8_draw 20 = .ok (.new 80, 3) := by decide +kernel
theorem dX8_draw_23 : decode cX8_draw 23 = .ok (.dup, 1) := by decide +kernel
theorem dX8_draw_24 : decode cX8_draw 24 = .ok (.ldc 143, 2) := by decide +kernel
theorem dX8_draw_26 : decode cX8_draw 26 = .ok (.invokespecial 84, 3) := by decide +kernel
theorem dX8_draw_29 : decode cX8_draw 29 = .ok (.athrow, 1) := by decide +kernel
theorem dX8_draw_30 : decode cX8_draw 30 = .ok (.aload_n 0, 1) := by decide +kernel
theorem dX8_draw_31 : decode cX8_draw 31 = .ok (.getfield 36, 3) := by decide +kernel
theorem dX8_draw_34 : decode cX8_draw 34 = .ok (.aload_n 0, 1) := by decide +kernel
theorem dX8_draw_35 : decode cX8_draw 35 = .ok (.getfield 19, 3) := by decide +kernel
theorem dX8_draw_38 : decode cX8_draw 38 = .ok (.invokevirtual 145, 3) := by decide +kernel
theorem dX8_draw_41 : decode cX8_draw 41 = .ok (.aload_n 0, 1) := by decide +kernel
theorem dX8_draw_42 : decode cX8_draw 42 = .ok (.getfield 19, 3) := by decide +kernel
theorem dX8_draw_45 : decode cX8_draw 45 = .ok (.iload_n 1, 1) := by decide +kernel
theorem dX8_draw_46 : decode cX8_draw 46 = .ok (.invokevirtual 149, 3) := by decide +kernel
theorem dX8_draw_49 : decode cX8_draw 49 = .ok (.ireturn, 1) := by decide +kernel
set_option maxRecDepth 20000 in
theorem ggX8_drawByOrder_X8_requireRange : GoodIn wsX8_drawByOrder wsX8_requireRange := goodIn_ca (goodIn_r _ [7, 8, 9] (by decide +kernel) (by decide +kernel)) (goodIn_sub (fun _ h => List.mem_cons_of_mem _ (List.mem_append_right _ h)) (by decide +kernel))
set_option maxRecDepth 20000 in
theorem gX8_drawByOrder_X8_requireRange : GoodIn wsX8_drawByOrder (va_wsS RX8 72 yX8_requireRange wsX8_requireRange) := goodIn_app (goodIn_of _ (by decide +kernel)) ggX8_drawByOrder_X8_requireRange
set_option maxRecDepth 20000 in
theorem ggX8_drawByOrder_X4_remember : GoodIn wsX8_drawByOrder wsX4_remember := goodIn_r _ [14, 15, 16, 17, 18, 19, 20, 21, 22, 23, 24, 25, 26, 27, 28, 29, 30, 31, 32, 33, 34, 96, 97, 98, 99, 100, 101, 102, 103, 104, 105, 106] (by decide +kernel) (by decide +kernel)
set_option maxRecDepth 20000 in
theorem gX8_drawByOrder_X4_remember : GoodIn wsX8_drawByOrder (wsV RX8 145 RX4 yX4_remember wsX4_remember) := goodIn_app (goodIn_of _ (by decide +kernel)) ggX8_drawByOrder_X4_remember
set_option maxRecDepth 20000 in
theorem ggX8_drawByOrder_X0_takeByOrder : GoodIn wsX8_drawByOrder wsX0_takeByOrder := goodIn_r _ [38, 39, 40, 41, 21, 42, 43, 44, 45, 46, 47, 48, 49, 50, 51, 52, 30, 31, 53, 54, 55, 56, 57, 58, 59, 60, 61, 62, 63, 32, 64, 65, 66, 67, 29, 23, 68, 69, 70, 71, 72, 73, 74, 75, 76, 77, 78, 28, 79, 80, 81, 82, 33, 34, 83, 84, 85, 86, 24, 25, 26, 27, 107, 108, 109, 110, 111, 99, 100, 101, 102, 103, 104, 105, 106] (by decide +kernel) (by decide +kernel)
set_option maxRecDepth 20000 in
theorem gX8_drawByOrder_X0_takeByOrder : GoodIn wsX8_drawByOrder (wsV RX8 152 RX0 yX0_takeByOrder wsX0_takeByOrder) := goodIn_app (goodIn_of _ (by decide +kernel)) ggX8_drawByOrder_X0_takeByOrder
theorem dX8_drawByOrder_0 : decode cX8_drawByOrder 0 = .ok (.iload_n 1, 1) := by decide +kernel
theorem dX8_drawByOrder_1 : decode cX8_drawByOrder 1 = .ok (.iconst 1, 1) := by decide +kernel
theorem dX8_drawByOrder_2 : decode cX8_drawByOrder 2 = .ok (.bipush 99, 2) := by decide +kernel
theorem dX8_drawByOrder_4 : decode cX8_drawByOrder 4 = .ok (.invokestatic 72, 3) := by decide +kernel
theorem dX8_drawByOrder_7 : decode cX8_drawByOrder 7 = .ok (.aload_n 0, 1) := by decide +kernel
theorem dX8_drawByOrder_8 : decode cX8_drawByOrder 8 = .ok (.getfield 36, 3) := by decide +kernel
theorem dX8_drawByOrder_11 : decode cX8_drawByOrder 11 = .ok (.aload_n 0, 1) := by decide +kernel
theorem dX8_drawByOrder_12 : decode cX8_drawByOrder 12 = .ok (.getfield 19, 3) := by decide +kernel
theorem dX8_drawByOrder_15 : decode cX8_drawByOrder 15 = .ok (.invokevirtual 145, 3) := by decide +kernel
theorem dX8_drawByOrder_18 : decode cX8_drawByOrder 18 = .ok (.aload_n 0, 1) := by decide +kernel
theorem dX8_drawByOrder_19 : decode cX8_drawByOrder 19 = .ok (.getfield 19, 3) := by decide +kernel
theorem dX8_drawByOrder_22 : decode cX8_drawByOrder 22 = .ok (.aload_n 0, 1) := by decide +kernel
theorem dX8_drawByOrder_23 : decode cX8_drawByOrder 23 = .ok (.getfield 12, 3) := by decide +kernel
theorem dX8_drawByOrder_26 : decode cX8_drawByOrder 26 = .ok (.iload_n 1, 1) := by decide +kernel
theorem dX8_drawByOrder_27 : decode cX8_drawByOrder 27 = .ok (.invokevirtual 152, 3) := by decide +kernel
theorem dX8_drawByOrder_30 : decode cX8_drawByOrder 30 = .ok (.ireturn, 1) := by decide +kernel
set_option maxRecDepth 20000 in
theorem ggX8_hang_X8_requirePoint : GoodIn wsX8_hang wsX8_requirePoint := goodIn_ca (goodIn_r _ [9, 10, 11, 12, 13, 14, 15, 16, 17, 18, 63, 64, 65, 66, 67, 68, 69, 70, 71, 72, 73, 74, 75, 76] (by decide +kernel) (by decide +kernel)) (goodIn_sub (fun _ h => List.mem_cons_of_mem _ (List.mem_append_right _ h)) (by decide +kernel))
set_option maxRecDepth 20000 in
theorem gX8_hang_X8_requirePoint : GoodIn wsX8_hang (wsV RX8 113 RX8 yX8_requirePoint wsX8_requirePoint) := goodIn_app (goodIn_of _ (by decide +kernel)) ggX8_hang_X8_requirePoint
set_option maxRecDepth 20000 in
theorem ggX8_hang_X0_hangs : GoodIn wsX8_hang wsX0_hangs := goodIn_r _ [23, 24, 77, 78, 79, 80, 81, 82, 83, 84] (by decide +kernel) (by decide +kernel)
set_option maxRecDepth 20000 in
theorem gX8_hang_X0_hangs : GoodIn wsX8_hang (wsV RX8 129 RX0 yX0_hangs wsX0_hangs) := goodIn_app (goodIn_of _ (by decide +kernel)) ggX8_hang_X0_hangs
set_option maxRecDepth 20000 in
theorem ggX8_hang_X4_remember : GoodIn wsX8_hang wsX4_remember := goodIn_r _ [29, 30, 31, 32, 33, 34, 35, 22, 36, 37, 38, 39, 40, 41, 42, 43, 44, 45, 24, 46, 47, 85, 86, 87, 77, 78, 79, 80, 81, 82, 83, 84] (by decide +kernel) (by decide +kernel)
set_option maxRecDepth 20000 in
theorem gX8_hang_X4_remember : GoodIn wsX8_hang (wsV RX8 145 RX4 yX4_remember wsX4_remember) := goodIn_app (goodIn_of _ (by decide +kernel)) ggX8_hang_X4_remember
set_option maxRecDepth 20000 in
theorem ggX8_hang_X0_turnHung : GoodIn wsX8_hang wsX0_turnHung := goodIn_r _ [51, 24, 77, 78, 79, 80, 81, 82, 83, 84] (by decide +kernel) (by decide +kernel)
set_option maxRecDepth 20000 in
theorem gX8_hang_X0_turnHung : GoodIn wsX8_hang (wsV RX8 158 RX0 yX0_turnHung wsX0_turnHung) := goodIn_app (goodIn_of _ (by decide +kernel)) ggX8_hang_X0_turnHung
set_option maxRecDepth 20000 in
theorem ggX8_hang_X0_hungCount : GoodIn wsX8_hang wsX0_hungCount := goodIn_r _ [55, 24, 56, 57, 58, 59, 60, 61, 62, 77, 78, 79, 80, 81, 82, 83, 84] (by decide +kernel) (by decide +kernel)
set_option maxRecDepth 20000 in
theorem gX8_hang_X0_hungCount : GoodIn wsX8_hang (wsV RX8 161 RX0 yX0_hungCount wsX0_hungCount) := goodIn_app (goodIn_of _ (by decide +kernel)) ggX8_hang_X0_hungCount
theorem dX8_hang_0 : decode cX8_hang 0 = .ok (.aload_n 0, 1) := by decide +kernel
theorem dX8_hang_1 : decode cX8_hang 1 = .ok (.iload_n 1, 1) := by decide +kernel
theorem dX8_hang_2 : decode cX8_hang 2 = .ok (.invokevirtual 113, 3) := by decide +kernel
theorem dX8_hang_5 : decode cX8_hang 5 = .ok (.aload_n 0, 1) := by decide +kernel
theorem dX8_hang_6 : decode cX8_hang 6 = .ok (.getfield 19, 3) := by decide +kernel
theorem dX8_hang_9 : decode cX8_hang 9 = .ok (.iload_n 1, 1) := by decide +kernel
theorem dX8_hang_10 : decode cX8_hang 10 = .ok (.invokevirtual 129, 3) := by decide +kernel
theorem dX8_hang_13 : decode cX8_hang 13 = .ok (.ifCond .eq 13, 3) := by decide +kernel
theorem dX8_hang_16 : decode cX8_hang 16 = .ok (.new 80, 3) := by decide +kernel
theorem dX8_hang_19 : decode cX8_hang 19 = .ok (.dup, 1) := by decide +kernel
theorem dX8_hang_20 : decode cX8_hang 20 = .ok (.ldc 156, 2) := by decide +kernel
theorem dX8_hang_22 : decode cX8_hang 22 = .ok (.invokespecial 84, 3) := by decide +kernel
theorem dX8_hang_25 : decode cX8_hang 25 = .ok (.athrow, 1) := by decide +kernel
theorem dX8_hang_26 : decode cX8_hang 26 = .ok (.aload_n 0, 1) := by decide +kernel
theorem dX8_hang_27 : decode cX8_hang 27 = .ok (.getfield 36, 3) := by decide +kernel
theorem dX8_hang_30 : decode cX8_hang 30 = .ok (.aload_n 0, 1) := by decide +kernel
theorem dX8_hang_31 : decode cX8_hang 31 = .ok (.getfield 19, 3) := by decide +kernel
theorem dX8_hang_34 : decode cX8_hang 34 = .ok (.invokevirtual 145, 3) := by decide +kernel
theorem dX8_hang_37 : decode cX8_hang 37 = .ok (.aload_n 0, 1) := by decide +kernel
theorem dX8_hang_38 : decode cX8_hang 38 = .ok (.getfield 19, 3) := by decide +kernel
theorem dX8_hang_41 : decode cX8_hang 41 = .ok (.iload_n 1, 1) := by decide +kernel
theorem dX8_hang_42 : decode cX8_hang 42 = .ok (.invokevirtual 158, 3) := by decide +kernel
theorem dX8_hang_45 : decode cX8_hang 45 = .ok (.aload_n 0, 1) := by decide +kernel
theorem dX8_hang_46 : decode cX8_hang 46 = .ok (.getfield 19, 3) := by decide +kernel
theorem dX8_hang_49 : decode cX8_hang 49 = .ok (.invokevirtual 161, 3) := by decide +kernel
theorem dX8_hang_52 : decode cX8_hang 52 = .ok (.ireturn, 1) := by decide +kernel
set_option maxRecDepth 20000 in
theorem ggX8_release_X8_requirePoint : GoodIn wsX8_release wsX8_requirePoint := goodIn_ca (goodIn_r _ [9, 10, 11, 12, 13, 14, 15, 16, 17, 18, 63, 64, 65, 66, 67, 68, 69, 70, 71, 72, 73, 74, 75, 76] (by decide +kernel) (by decide +kernel)) (goodIn_sub (fun _ h => List.mem_cons_of_mem _ (List.mem_append_right _ h)) (by decide +kernel))
set_option maxRecDepth 20000 in
theorem gX8_release_X8_requirePoint : GoodIn wsX8_release (wsV RX8 113 RX8 yX8_requirePoint wsX8_requirePoint) := goodIn_app (goodIn_of _ (by decide +kernel)) ggX8_release_X8_requirePoint
set_option maxRecDepth 20000 in
theorem ggX8_release_X0_hangs : GoodIn wsX8_release wsX0_hangs := goodIn_r _ [23, 24, 77, 78, 79, 80, 81, 82, 83, 84] (by decide +kernel) (by decide +kernel)
set_option maxRecDepth 20000 in
theorem gX8_release_X0_hangs : GoodIn wsX8_release (wsV RX8 129 RX0 yX0_hangs wsX0_hangs) := goodIn_app (goodIn_of _ (by decide +kernel)) ggX8_release_X0_hangs
set_option maxRecDepth 20000 in
theorem ggX8_release_X4_remember : GoodIn wsX8_release wsX4_remember := goodIn_r _ [29, 30, 31, 32, 33, 34, 35, 22, 36, 37, 38, 39, 40, 41, 42, 43, 44, 45, 24, 46, 47, 85, 86, 87, 77, 78, 79, 80, 81, 82, 83, 84] (by decide +kernel) (by decide +kernel)
set_option maxRecDepth 20000 in
theorem gX8_release_X4_remember : GoodIn wsX8_release (wsV RX8 145 RX4 yX4_remember wsX4_remember) := goodIn_app (goodIn_of _ (by decide +kernel)) ggX8_release_X4_remember
set_option maxRecDepth 20000 in
theorem ggX8_release_X0_turnHung : GoodIn wsX8_release wsX0_turnHung := goodIn_r _ [51, 24, 77, 78, 79, 80, 81, 82, 83, 84] (by decide +kernel) (by decide +kernel)
set_option maxRecDepth 20000 in
theorem gX8_release_X0_turnHung : GoodIn wsX8_release (wsV RX8 158 RX0 yX0_turnHung wsX0_turnHung) := goodIn_app (goodIn_of _ (by decide +kernel)) ggX8_release_X0_turnHung
set_option maxRecDepth 20000 in
theorem ggX8_release_X0_hungCount : GoodIn wsX8_release wsX0_hungCount := goodIn_r _ [55, 24, 56, 57, 58, 59, 60, 61, 62, 77, 78, 79, 80, 81, 82, 83, 84] (by decide +kernel) (by decide +kernel)
set_option maxRecDepth 20000 in
theorem gX8_release_X0_hungCount : GoodIn wsX8_release (wsV RX8 161 RX0 yX0_hungCount wsX0_hungCount) := goodIn_app (goodIn_of _ (by decide +kernel)) ggX8_release_X0_hungCount
theorem dX8_release_0 : decode cX8_release 0 = .ok (.aload_n 0, 1) := by decide +kernel
theorem dX8_release_1 : decode cX8_release 1 = .ok (.iload_n 1, 1) := by decide +kernel
theorem dX8_release_2 : decode cX8_release 2 = .ok (.invokevirtual 113, 3) := by decide +kernel
theorem dX8_release_5 : decode cX8_release 5 = .ok (.aload_n 0, 1) := by decide +kernel
theorem dX8_release_6 : decode cX8_release 6 = .ok (.getfield 19, 3) := by decide +kernel
theorem dX8_release_9 : decode cX8_release 9 = .ok (.iload_n 1, 1) := by decide +kernel
theorem dX8_release_10 : decode cX8_release 10 = .ok (.invokevirtual 129, 3) := by decide +kernel
theorem dX8_release_13 : decode cX8_release 13 = .ok (.ifCond .ne 13, 3) := by decide +kernel
theorem dX8_release_16 : decode cX8_release 16 = .ok (.new 80, 3) := by decide +kernel
theorem dX8_release_19 : decode cX8_release 19 = .ok (.dup, 1) := by decide +kernel
theorem dX8_release_20 : decode cX8_release 20 = .ok (.ldc 164, 2) := by decide +kernel
theorem dX8_release_22 : decode cX8_release 22 = .ok (.invokespecial 84, 3) := by decide +kernel
theorem dX8_release_25 : decode cX8_release 25 = .ok (.athrow, 1) := by decide +kernel
theorem dX8_release_26 : decode cX8_release 26 = .ok (.aload_n 0, 1) := by decide +kernel
theorem dX8_release_27 : decode cX8_release 27 = .ok (.getfield 36, 3) := by decide +kernel
theorem dX8_release_30 : decode cX8_release 30 = .ok (.aload_n 0, 1) := by decide +kernel
theorem dX8_release_31 : decode cX8_release 31 = .ok (.getfield 19, 3) := by decide +kernel
theorem dX8_release_34 : decode cX8_release 34 = .ok (.invokevirtual 145, 3) := by decide +kernel
theorem dX8_release_37 : decode cX8_release 37 = .ok (.aload_n 0, 1) := by decide +kernel
theorem dX8_release_38 : decode cX8_release 38 = .ok (.getfield 19, 3) := by decide +kernel
theorem dX8_release_41 : decode cX8_release 41 = .ok (.iload_n 1, 1) := by decide +kernel
theorem dX8_release_42 : decode cX8_release 42 = .ok (.invokevirtual 158, 3) := by decide +kernel
theorem dX8_release_45 : decode cX8_release 45 = .ok (.aload_n 0, 1) := by decide +kernel
theorem dX8_release_46 : decode cX8_release 46 = .ok (.getfield 19, 3) := by decide +kernel
theorem dX8_release_49 : decode cX8_release 49 = .ok (.invokevirtual 161, 3) := by decide +kernel
theorem dX8_release_52 : decode cX8_release 52 = .ok (.ireturn, 1) := by decide +kernel
set_option maxRecDepth 20000 in
theorem ggX8_addSlice_X8_requirePoint : GoodIn wsX8_addSlice wsX8_requirePoint := goodIn_ca (goodIn_r _ [9, 10, 11, 12, 13, 14, 15, 16, 17, 18, 57, 58, 59, 60, 61, 62, 63, 64, 65, 66, 67, 68, 69, 70] (by decide +kernel) (by decide +kernel)) (goodIn_sub (fun _ h => List.mem_cons_of_mem _ (List.mem_append_left _ (List.mem_append_right _ h))) (by decide +kernel))
set_option maxRecDepth 20000 in
theorem gX8_addSlice_X8_requirePoint : GoodIn wsX8_addSlice (wsV RX8 113 RX8 yX8_requirePoint wsX8_requirePoint) := goodIn_app (goodIn_of _ (by decide +kernel)) ggX8_addSlice_X8_requirePoint
set_option maxRecDepth 20000 in
theorem ggX8_addSlice_X8_requireRange : GoodIn wsX8_addSlice wsX8_requireRange := goodIn_ca (goodIn_r _ [21, 22, 23] (by decide +kernel) (by decide +kernel)) (goodIn_sub (fun _ h => List.mem_cons_of_mem _ (List.mem_append_right _ h)) (by decide +kernel))
set_option maxRecDepth 20000 in
theorem gX8_addSlice_X8_requireRange : GoodIn wsX8_addSlice (va_wsS RX8 72 yX8_requireRange wsX8_requireRange) := goodIn_app (goodIn_of _ (by decide +kernel)) ggX8_addSlice_X8_requireRange
set_option maxRecDepth 20000 in
theorem ggX8_addSlice_X0_height : GoodIn wsX8_addSlice wsX0_height := goodIn_r _ [28, 29, 71, 72, 73, 74, 75, 76, 77, 78] (by decide +kernel) (by decide +kernel)
set_option maxRecDepth 20000 in
theorem gX8_addSlice_X0_height : GoodIn wsX8_addSlice (wsV RX8 122 RX0 yX0_height wsX0_height) := goodIn_app (goodIn_of _ (by decide +kernel)) ggX8_addSlice_X0_height
set_option maxRecDepth 20000 in
theorem ggX8_addSlice_X4_remember : GoodIn wsX8_addSlice wsX4_remember := goodIn_r _ [34, 35, 36, 37, 38, 39, 40, 27, 41, 42, 43, 44, 45, 46, 47, 29, 48, 49, 50, 51, 52, 79, 80, 81, 71, 72, 73, 74, 75, 76, 77, 78] (by decide +kernel) (by decide +kernel)
set_option maxRecDepth 20000 in
theorem gX8_addSlice_X4_remember : GoodIn wsX8_addSlice (wsV RX8 145 RX4 yX4_remember wsX4_remember) := goodIn_app (goodIn_of _ (by decide +kernel)) ggX8_addSlice_X4_remember
set_option maxRecDepth 20000 in
theorem ggX8_addSlice_X0_pile : GoodIn wsX8_addSlice wsX0_pile := goodIn_r _ [56, 29, 42, 47, 71, 72, 73, 74, 75, 76, 77, 78] (by decide +kernel) (by decide +kernel)
set_option maxRecDepth 20000 in
theorem gX8_addSlice_X0_pile : GoodIn wsX8_addSlice (wsV RX8 168 RX0 yX0_pile wsX0_pile) := goodIn_app (goodIn_of _ (by decide +kernel)) ggX8_addSlice_X0_pile
theorem dX8_addSlice_0 : decode cX8_addSlice 0 = .ok (.aload_n 0, 1) := by decide +kernel
theorem dX8_addSlice_1 : decode cX8_addSlice 1 = .ok (.iload_n 1, 1) := by decide +kernel
theorem dX8_addSlice_2 : decode cX8_addSlice 2 = .ok (.invokevirtual 113, 3) := by decide +kernel
theorem dX8_addSlice_5 : decode cX8_addSlice 5 = .ok (.iload_n 2, 1) := by decide +kernel
theorem dX8_addSlice_6 : decode cX8_addSlice 6 = .ok (.iconst 1, 1) := by decide +kernel
theorem dX8_addSlice_7 : decode cX8_addSlice 7 = .ok (.bipush 9, 2) := by decide +kernel
theorem dX8_addSlice_9 : decode cX8_addSlice 9 = .ok (.invokestatic 72, 3) := by decide +kernel
theorem dX8_addSlice_12 : decode cX8_addSlice 12 = .ok (.iload_n 3, 1) := by decide +kernel
theorem dX8_addSlice_13 : decode cX8_addSlice 13 = .ok (.iconst 0, 1) := by decide +kernel
theorem dX8_addSlice_14 : decode cX8_addSlice 14 = .ok (.bipush 9, 2) := by decide +kernel
theorem dX8_addSlice_16 : decode cX8_addSlice 16 = .ok (.invokestatic 72, 3) := by decide +kernel
theorem dX8_addSlice_19 : decode cX8_addSlice 19 = .ok (.aload_n 0, 1) := by decide +kernel
theorem dX8_addSlice_20 : decode cX8_addSlice 20 = .ok (.getfield 19, 3) := by decide +kernel
theorem dX8_addSlice_23 : decode cX8_addSlice 23 = .ok (.iload_n 1, 1) := by decide +kernel
theorem dX8_addSlice_24 : decode cX8_addSlice 24 = .ok (.invokevirtual 122, 3) := by decide +kernel
theorem dX8_addSlice_27 : decode cX8_addSlice 27 = .ok (.bipush 6, 2) := by decide +kernel
theorem dX8_addSlice_29 : decode cX8_addSlice 29 = .ok (.if_icmp .lt 13, 3) := by decide +kernel
theorem dX8_addSlice_32 : decode cX8_addSlice 32 = .ok (.new 80, 3) := by decide +kernel
theorem dX8_addSlice_35 : decode cX8_addSlice 35 = .ok (.dup, 1) := by decide +kernel
theorem dX8_addSlice_36 : decode cX8_addSlice 36 = .ok (.ldc 166, 2) := by decide +kernel
theorem dX8_addSlice_38 : decode cX8_addSlice 38 = .ok (.invokespecial 84, 3) := by decide +kernel
theorem dX8_addSlice_41 : decode cX8_addSlice 41 = .ok (.athrow, 1) := by decide +kernel
theorem dX8_addSlice_42 : decode cX8_addSlice 42 = .ok (.aload_n 0, 1) := by decide +kernel
theorem dX8_addSlice_43 : decode cX8_addSlice 43 = .ok (.getfield 36, 3) := by decide +kernel
theorem dX8_addSlice_46 : decode cX8_addSlice 46 = .ok (.aload_n 0, 1) := by decide +kernel
theorem dX8_addSlice_47 : decode cX8_addSlice 47 = .ok (.getfield 19, 3) := by decide +kernel
theorem dX8_addSlice_50 : decode cX8_addSlice 50 = .ok (.invokevirtual 145, 3) := by decide +kernel
theorem dX8_addSlice_53 : decode cX8_addSlice 53 = .ok (.aload_n 0, 1) := by decide +kernel
theorem dX8_addSlice_54 : decode cX8_addSlice 54 = .ok (.getfield 19, 3) := by decide +kernel
theorem dX8_addSlice_57 : decode cX8_addSlice 57 = .ok (.iload_n 1, 1) := by decide +kernel
theorem dX8_addSlice_58 : decode cX8_addSlice 58 = .ok (.iload_n 2, 1) := by decide +kernel
theorem dX8_addSlice_59 : decode cX8_addSlice 59 = .ok (.iload_n 3, 1) := by decide +kernel
theorem dX8_addSlice_60 : decode cX8_addSlice 60 = .ok (.invokevirtual 168, 3) := by decide +kernel
theorem dX8_addSlice_63 : decode cX8_addSlice 63 = .ok (.aload_n 0, 1) := by decide +kernel
theorem dX8_addSlice_64 : decode cX8_addSlice 64 = .ok (.getfield 19, 3) := by decide +kernel
theorem dX8_addSlice_67 : decode cX8_addSlice 67 = .ok (.iload_n 1, 1) := by decide +kernel
theorem dX8_addSlice_68 : decode cX8_addSlice 68 = .ok (.invokevirtual 122, 3) := by decide +kernel
theorem dX8_addSlice_71 : decode cX8_addSlice 71 = .ok (.ireturn, 1) := by decide +kernel
set_option maxRecDepth 20000 in
theorem ggX8_setBound_X8_requireRange : GoodIn wsX8_setBound wsX8_requireRange := goodIn_ca (goodIn_r _ [9, 10, 11] (by decide +kernel) (by decide +kernel)) (goodIn_sub (fun _ h => List.mem_cons_of_mem _ (List.mem_append_right _ h)) (by decide +kernel))
set_option maxRecDepth 20000 in
theorem gX8_setBound_X8_requireRange : GoodIn wsX8_setBound (va_wsS RX8 72 yX8_requireRange wsX8_requireRange) := goodIn_app (goodIn_of _ (by decide +kernel)) ggX8_setBound_X8_requireRange
set_option maxRecDepth 20000 in
theorem ggX8_setBound_X0_fits : GoodIn wsX8_setBound wsX0_fits := goodIn_r _ [16, 17, 18, 19, 20, 21, 22, 23, 24, 25, 26, 27, 28, 29, 30, 31, 32, 33, 74, 75, 76, 77, 78, 79, 80, 81, 82, 83, 84, 85, 86] (by decide +kernel) (by decide +kernel)
set_option maxRecDepth 20000 in
theorem gX8_setBound_X0_fits : GoodIn wsX8_setBound (wsV RX8 171 RX0 yX0_fits wsX0_fits) := goodIn_app (goodIn_of _ (by decide +kernel)) ggX8_setBound_X0_fits
set_option maxRecDepth 20000 in
theorem ggX8_setBound_X4_remember : GoodIn wsX8_setBound wsX4_remember := goodIn_r _ [38, 39, 40, 41, 42, 43, 44, 15, 45, 46, 47, 48, 49, 50, 51, 52, 17, 53, 54, 55, 56, 87, 88, 89, 74, 75, 76, 77, 78, 79, 80, 81] (by decide +kernel) (by decide +kernel)
set_option maxRecDepth 20000 in
theorem gX8_setBound_X4_remember : GoodIn wsX8_setBound (wsV RX8 145 RX4 yX4_remember wsX4_remember) := goodIn_app (goodIn_of _ (by decide +kernel)) ggX8_setBound_X4_remember

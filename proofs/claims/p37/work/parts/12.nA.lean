theorem dX0_playRound_9 : decode cX0_playRound 9 = .ok (.iload_n 2, 1) := by decide +kernel
theorem dX0_playRound_10 : decode cX0_playRound 10 = .ok (.iconst 4, 1) := by decide +kernel
theorem dX0_playRound_11 : decode cX0_playRound 11 = .ok (.irem, 1) := by decide +kernel
theorem dX0_playRound_12 : decode cX0_playRound 12 = .ok (.ifCond .ne 12, 3) := by decide +kernel
theorem dX0_playRound_15 : decode cX0_playRound 15 = .ok (.aload_n 0, 1) := by decide +kernel
theorem dX0_playRound_16 : decode cX0_playRound 16 = .ok (.iload_n 2, 1) := by decide +kernel
theorem dX0_playRound_17 : decode cX0_playRound 17 = .ok (.iconst 4, 1) := by decide +kernel
theorem dX0_playRound_18 : decode cX0_playRound 18 = .ok (.idiv, 1) := by decide +kernel
theorem dX0_playRound_19 : decode cX0_playRound 19 = .ok (.iload_n 3, 1) := by decide +kernel
theorem dX0_playRound_20 : decode cX0_playRound 20 = .ok (.irem, 1) := by decide +kernel
theorem dX0_playRound_21 : decode cX0_playRound 21 = .ok (.invokevirtual 124, 3) := by decide +kernel
theorem dX0_playRound_24 : decode cX0_playRound 24 = .ok (.aload_n 0, 1) := by decide +kernel
theorem dX0_playRound_25 : decode cX0_playRound 25 = .ok (.aload_n 1, 1) := by decide +kernel
theorem dX0_playRound_26 : decode cX0_playRound 26 = .ok (.iconst 1, 1) := by decide +kernel
theorem dX0_playRound_27 : decode cX0_playRound 27 = .ok (.invokevirtual 127, 3) := by decide +kernel
theorem dX0_playRound_30 : decode cX0_playRound 30 = .ok (.pop, 1) := by decide +kernel
theorem dX0_playRound_31 : decode cX0_playRound 31 = .ok (.return_, 1) := by decide +kernel
theorem dX1_init_0 : decode cX1_init 0 = .ok (.aload_n 0, 1) := by decide +kernel
theorem dX1_init_1 : decode cX1_init 1 = .ok (.invokespecial 3, 3) := by decide +kernel
theorem dX1_init_4 : decode cX1_init 4 = .ok (.aload_n 0, 1) := by decide +kernel
theorem dX1_init_5 : decode cX1_init 5 = .ok (.bipush 120, 2) := by decide +kernel
theorem dX1_init_7 : decode cX1_init 7 = .ok (.newarray .char, 2) := by decide +kernel
theorem dX1_init_9 : decode cX1_init 9 = .ok (.putfield 9, 3) := by decide +kernel
theorem dX1_init_12 : decode cX1_init 12 = .ok (.return_, 1) := by decide +kernel
theorem dX1_isFull_0 : decode cX1_isFull 0 = .ok (.aload_n 0, 1) := by decide +kernel
theorem dX1_isFull_1 : decode cX1_isFull 1 = .ok (.getfield 15, 3) := by decide +kernel
theorem dX1_isFull_4 : decode cX1_isFull 4 = .ok (.bipush 120, 2) := by decide +kernel
theorem dX1_isFull_6 : decode cX1_isFull 6 = .ok (.if_icmp .lt 7, 3) := by decide +kernel
theorem dX1_isFull_9 : decode cX1_isFull 9 = .ok (.iconst 1, 1) := by decide +kernel
theorem dX1_isFull_10 : decode cX1_isFull 10 = .ok (.goto 4, 3) := by decide +kernel
theorem dX1_isFull_13 : decode cX1_isFull 13 = .ok (.iconst 0, 1) := by decide +kernel
theorem dX1_isFull_14 : decode cX1_isFull 14 = .ok (.ireturn, 1) := by decide +kernel
theorem dX1_put_0 : decode cX1_put 0 = .ok (.aload_n 0, 1) := by decide +kernel
theorem dX1_put_1 : decode cX1_put 1 = .ok (.getfield 15, 3) := by decide +kernel
theorem dX1_put_4 : decode cX1_put 4 = .ok (.bipush 120, 2) := by decide +kernel
theorem dX1_put_6 : decode cX1_put 6 = .ok (.if_icmp .ge 24, 3) := by decide +kernel
theorem dX1_put_9 : decode cX1_put 9 = .ok (.aload_n 0, 1) := by decide +kernel
theorem dX1_put_10 : decode cX1_put 10 = .ok (.getfield 9, 3) := by decide +kernel
theorem dX1_put_13 : decode cX1_put 13 = .ok (.aload_n 0, 1) := by decide +kernel
theorem dX1_put_14 : decode cX1_put 14 = .ok (.getfield 15, 3) := by decide +kernel
theorem dX1_put_17 : decode cX1_put 17 = .ok (.iload_n 1, 1) := by decide +kernel
theorem dX1_put_18 : decode cX1_put 18 = .ok (.i2c, 1) := by decide +kernel
theorem dX1_put_19 : decode cX1_put 19 = .ok (.castore, 1) := by decide +kernel
theorem dX1_put_20 : decode cX1_put 20 = .ok (.aload_n 0, 1) := by decide +kernel
theorem dX1_put_21 : decode cX1_put 21 = .ok (.dup, 1) := by decide +kernel
theorem dX1_put_22 : decode cX1_put 22 = .ok (.getfield 15, 3) := by decide +kernel
theorem dX1_put_25 : decode cX1_put 25 = .ok (.iconst 1, 1) := by decide +kernel
theorem dX1_put_26 : decode cX1_put 26 = .ok (.iadd, 1) := by decide +kernel
theorem dX1_put_27 : decode cX1_put 27 = .ok (.putfield 15, 3) := by decide +kernel
theorem dX1_put_30 : decode cX1_put 30 = .ok (.aload_n 0, 1) := by decide +kernel
theorem dX1_put_31 : decode cX1_put 31 = .ok (.getfield 15, 3) := by decide +kernel
theorem dX1_put_34 : decode cX1_put 34 = .ok (.ireturn, 1) := by decide +kernel
theorem dX1_clear_0 : decode cX1_clear 0 = .ok (.aload_n 0, 1) := by decide +kernel
theorem dX1_clear_1 : decode cX1_clear 1 = .ok (.getfield 15, 3) := by decide +kernel
theorem dX1_clear_4 : decode cX1_clear 4 = .ok (.istore_n 1, 1) := by decide +kernel
theorem dX1_clear_5 : decode cX1_clear 5 = .ok (.aload_n 0, 1) := by decide +kernel
theorem dX1_clear_6 : decode cX1_clear 6 = .ok (.iconst 0, 1) := by decide +kernel
theorem dX1_clear_7 : decode cX1_clear 7 = .ok (.putfield 15, 3) := by decide +kernel
theorem dX1_clear_10 : decode cX1_clear 10 = .ok (.iload_n 1, 1) := by decide +kernel
theorem dX1_clear_11 : decode cX1_clear 11 = .ok (.ireturn, 1) := by decide +kernel
theorem dX1_sign_0 : decode cX1_sign 0 = .ok (.iload_n 1, 1) := by decide +kernel
theorem dX1_sign_1 : decode cX1_sign 1 = .ok (.ifCond .lt 20, 3) := by decide +kernel
theorem dX1_sign_4 : decode cX1_sign 4 = .ok (.iload_n 1, 1) := by decide +kernel
theorem dX1_sign_5 : decode cX1_sign 5 = .ok (.aload_n 0, 1) := by decide +kernel
theorem dX1_sign_6 : decode cX1_sign 6 = .ok (.getfield 15, 3) := by decide +kernel
theorem dX1_sign_9 : decode cX1_sign 9 = .ok (.if_icmp .ge 12, 3) := by decide +kernel
theorem dX1_sign_12 : decode cX1_sign 12 = .ok (.aload_n 0, 1) := by decide +kernel
theorem dX1_sign_13 : decode cX1_sign 13 = .ok (.getfield 9, 3) := by decide +kernel
theorem dX1_sign_16 : decode cX1_sign 16 = .ok (.iload_n 1, 1) := by decide +kernel
theorem dX1_sign_17 : decode cX1_sign 17 = .ok (.caload, 1) := by decide +kernel
theorem dX1_sign_18 : decode cX1_sign 18 = .ok (.goto 4, 3) := by decide +kernel
theorem dX1_sign_21 : decode cX1_sign 21 = .ok (.iconst (-1), 1) := by decide +kernel
theorem dX1_sign_22 : decode cX1_sign 22 = .ok (.ireturn, 1) := by decide +kernel
set_option maxRecDepth 20000 in
theorem ggX1_digit_X1_sign : GoodIn wsX1_digit wsX1_sign := goodIn_r _ [5, 6, 7, 8, 9] (by decide +kernel) (by decide +kernel)
set_option maxRecDepth 20000 in
theorem gX1_digit_X1_sign : GoodIn wsX1_digit (wsV RX1 19 RX1 yX1_sign wsX1_sign) := goodIn_app (goodIn_of _ (by decide +kernel)) ggX1_digit_X1_sign
theorem dX1_digit_0 : decode cX1_digit 0 = .ok (.aload_n 0, 1) := by decide +kernel
theorem dX1_digit_1 : decode cX1_digit 1 = .ok (.iload_n 1, 1) := by decide +kernel
theorem dX1_digit_2 : decode cX1_digit 2 = .ok (.invokevirtual 19, 3) := by decide +kernel
theorem dX1_digit_5 : decode cX1_digit 5 = .ok (.bipush 48, 2) := by decide +kernel
theorem dX1_digit_7 : decode cX1_digit 7 = .ok (.isub, 1) := by decide +kernel
theorem dX1_digit_8 : decode cX1_digit 8 = .ok (.ireturn, 1) := by decide +kernel
set_option maxRecDepth 20000 in
theorem ggX1_isDigit_X1_digit : GoodIn wsX1_isDigit wsX1_digit := goodIn_r _ [5, 6, 7, 8, 4, 9, 10, 11, 12, 13] (by decide +kernel) (by decide +kernel)
set_option maxRecDepth 20000 in
theorem gX1_isDigit_X1_digit : GoodIn wsX1_isDigit (wsV RX1 23 RX1 yX1_digit wsX1_digit) := goodIn_app (goodIn_of _ (by decide +kernel)) ggX1_isDigit_X1_digit
theorem dX1_isDigit_0 : decode cX1_isDigit 0 = .ok (.aload_n 0, 1) := by decide +kernel
theorem dX1_isDigit_1 : decode cX1_isDigit 1 = .ok (.iload_n 1, 1) := by decide +kernel
theorem dX1_isDigit_2 : decode cX1_isDigit 2 = .ok (.invokevirtual 23, 3) := by decide +kernel
theorem dX1_isDigit_5 : decode cX1_isDigit 5 = .ok (.iload_n 2, 1) := by decide +kernel
theorem dX1_isDigit_6 : decode cX1_isDigit 6 = .ok (.if_icmp .lt 16, 3) := by decide +kernel
theorem dX1_isDigit_9 : decode cX1_isDigit 9 = .ok (.aload_n 0, 1) := by decide +kernel
theorem dX1_isDigit_10 : decode cX1_isDigit 10 = .ok (.iload_n 1, 1) := by decide +kernel
theorem dX1_isDigit_11 : decode cX1_isDigit 11 = .ok (.invokevirtual 23, 3) := by decide +kernel
theorem dX1_isDigit_14 : decode cX1_isDigit 14 = .ok (.iload_n 3, 1) := by decide +kernel
theorem dX1_isDigit_15 : decode cX1_isDigit 15 = .ok (.if_icmp .gt 7, 3) := by decide +kernel
theorem dX1_isDigit_18 : decode cX1_isDigit 18 = .ok (.iconst 1, 1) := by decide +kernel
theorem dX1_isDigit_19 : decode cX1_isDigit 19 = .ok (.goto 4, 3) := by decide +kernel
theorem dX1_isDigit_22 : decode cX1_isDigit 22 = .ok (.iconst 0, 1) := by decide +kernel
theorem dX1_isDigit_23 : decode cX1_isDigit 23 = .ok (.ireturn, 1) := by decide +kernel
set_option maxRecDepth 20000 in
theorem ggX1_findError_X1_findHeadError : GoodIn wsX1_findError wsX1_findHeadError := goodIn_r _ [6, 7, 8, 9, 5, 10, 1, 11, 12, 13, 14, 15, 16, 17, 18, 19, 24, 25] (by decide +kernel) (by decide +kernel)
set_option maxRecDepth 20000 in
theorem gX1_findError_X1_findHeadError : GoodIn wsX1_findError (wsV RX1 26 RX1 yX1_findHeadError wsX1_findHeadError) := goodIn_app (goodIn_of _ (by decide +kernel)) ggX1_findError_X1_findHeadError
set_option maxRecDepth 20000 in
theorem ggX1_findError_X1_digit : GoodIn wsX1_findError wsX1_digit := goodIn_r _ [19, 7, 8, 9, 5, 10, 1, 11, 24, 25] (by decide +kernel) (by decide +kernel)
set_option maxRecDepth 20000 in
theorem gX1_findError_X1_digit : GoodIn wsX1_findError (wsV RX1 23 RX1 yX1_digit wsX1_digit) := goodIn_app (goodIn_of _ (by decide +kernel)) ggX1_findError_X1_digit
set_option maxRecDepth 20000 in
theorem ggX1_findError_X1_columnEnd : GoodIn wsX1_findError wsX1_columnEnd := goodIn_r _ [23, 7, 8, 9, 5, 10, 1, 11, 12, 13, 14, 15, 16, 17, 18, 19, 24, 25] (by decide +kernel) (by decide +kernel)
set_option maxRecDepth 20000 in
theorem gX1_findError_X1_columnEnd : GoodIn wsX1_findError (wsV RX1 30 RX1 yX1_columnEnd wsX1_columnEnd) := goodIn_app (goodIn_of _ (by decide +kernel)) ggX1_findError_X1_columnEnd
theorem dX1_findError_0 : decode cX1_findError 0 = .ok (.aload_n 0, 1) := by decide +kernel
theorem dX1_findError_1 : decode cX1_findError 1 = .ok (.invokevirtual 26, 3) := by decide +kernel
theorem dX1_findError_4 : decode cX1_findError 4 = .ok (.istore_n 1, 1) := by decide +kernel
theorem dX1_findError_5 : decode cX1_findError 5 = .ok (.iload_n 1, 1) := by decide +kernel
theorem dX1_findError_6 : decode cX1_findError 6 = .ok (.bipush (-9), 2) := by decide +kernel
theorem dX1_findError_8 : decode cX1_findError 8 = .ok (.if_icmp .eq 5, 3) := by decide +kernel
theorem dX1_findError_11 : decode cX1_findError 11 = .ok (.iload_n 1, 1) := by decide +kernel
theorem dX1_findError_12 : decode cX1_findError 12 = .ok (.ireturn, 1) := by decide +kernel
theorem dX1_findError_13 : decode cX1_findError 13 = .ok (.aload_n 0, 1) := by decide +kernel
theorem dX1_findError_14 : decode cX1_findError 14 = .ok (.iconst 1, 1) := by decide +kernel
theorem dX1_findError_15 : decode cX1_findError 15 = .ok (.invokevirtual 23, 3) := by decide +kernel
theorem dX1_findError_18 : decode cX1_findError 18 = .ok (.aload_n 0, 1) := by decide +kernel
theorem dX1_findError_19 : decode cX1_findError 19 = .ok (.iconst 2, 1) := by decide +kernel
theorem dX1_findError_20 : decode cX1_findError 20 = .ok (.invokevirtual 23, 3) := by decide +kernel
theorem dX1_findError_23 : decode cX1_findError 23 = .ok (.imul, 1) := by decide +kernel
theorem dX1_findError_24 : decode cX1_findError 24 = .ok (.istore_n 2, 1) := by decide +kernel
theorem dX1_findError_25 : decode cX1_findError 25 = .ok (.iconst 4, 1) := by decide +kernel
theorem dX1_findError_26 : decode cX1_findError 26 = .ok (.istore_n 3, 1) := by decide +kernel
theorem dX1_findError_27 : decode cX1_findError 27 = .ok (.iconst 0, 1) := by decide +kernel
theorem dX1_findError_28 : decode cX1_findError 28 = .ok (.istore 4, 2) := by decide +kernel
theorem dX1_findError_30 : decode cX1_findError 30 = .ok (.iload 4, 2) := by decide +kernel
theorem dX1_findError_32 : decode cX1_findError 32 = .ok (.iload_n 2, 1) := by decide +kernel
theorem dX1_findError_33 : decode cX1_findError 33 = .ok (.if_icmp .ge 23, 3) := by decide +kernel
theorem dX1_findError_36 : decode cX1_findError 36 = .ok (.aload_n 0, 1) := by decide +kernel
theorem dX1_findError_37 : decode cX1_findError 37 = .ok (.iload_n 3, 1) := by decide +kernel
theorem dX1_findError_38 : decode cX1_findError 38 = .ok (.invokevirtual 30, 3) := by decide +kernel
theorem dX1_findError_41 : decode cX1_findError 41 = .ok (.istore_n 3, 1) := by decide +kernel
theorem dX1_findError_42 : decode cX1_findError 42 = .ok (.iload_n 3, 1) := by decide +kernel
theorem dX1_findError_43 : decode cX1_findError 43 = .ok (.ifCond .ge 7, 3) := by decide +kernel
theorem dX1_findError_46 : decode cX1_findError 46 = .ok (.iload_n 3, 1) := by decide +kernel
theorem dX1_findError_47 : decode cX1_findError 47 = .ok (.iconst (-1), 1) := by decide +kernel
theorem dX1_findError_48 : decode cX1_findError 48 = .ok (.ixor, 1) := by decide +kernel
theorem dX1_findError_49 : decode cX1_findError 49 = .ok (.ireturn, 1) := by decide +kernel
theorem dX1_findError_50 : decode cX1_findError 50 = .ok (.iinc 4 1, 3) := by decide +kernel
theorem dX1_findError_53 : decode cX1_findError 53 = .ok (.goto (-23), 3) := by decide +kernel
theorem dX1_findError_56 : decode cX1_findError 56 = .ok (.iload_n 3, 1) := by decide +kernel
theorem dX1_findError_57 : decode cX1_findError 57 = .ok (.aload_n 0, 1) := by decide +kernel
theorem dX1_findError_58 : decode cX1_findError 58 = .ok (.getfield 15, 3) := by decide +kernel
theorem dX1_findError_61 : decode cX1_findError 61 = .ok (.if_icmp .ge 7, 3) := by decide +kernel
theorem dX1_findError_64 : decode cX1_findError 64 = .ok (.iload_n 3, 1) := by decide +kernel
theorem dX1_findError_65 : decode cX1_findError 65 = .ok (.goto 5, 3) := by decide +kernel
theorem dX1_findError_68 : decode cX1_findError 68 = .ok (.bipush (-9), 2) := by decide +kernel
theorem dX1_findError_70 : decode cX1_findError 70 = .ok (.ireturn, 1) := by decide +kernel
set_option maxRecDepth 20000 in
theorem ggX1_findHeadError_X1_sign : GoodIn wsX1_findHeadError wsX1_sign := goodIn_r _ [5, 6, 7, 16, 17] (by decide +kernel) (by decide +kernel)
set_option maxRecDepth 20000 in
theorem gX1_findHeadError_X1_sign : GoodIn wsX1_findHeadError (wsV RX1 19 RX1 yX1_sign wsX1_sign) := goodIn_app (goodIn_of _ (by decide +kernel)) ggX1_findHeadError_X1_sign
set_option maxRecDepth 20000 in
theorem ggX1_findHeadError_X1_isDigit : GoodIn wsX1_findHeadError wsX1_isDigit := goodIn_r _ [11, 12, 13, 14, 4, 15, 1, 2, 3, 5, 6, 7, 16, 17] (by decide +kernel) (by decide +kernel)
set_option maxRecDepth 20000 in
theorem gX1_findHeadError_X1_isDigit : GoodIn wsX1_findHeadError (wsV RX1 33 RX1 yX1_isDigit wsX1_isDigit) := goodIn_app (goodIn_of _ (by decide +kernel)) ggX1_findHeadError_X1_isDigit
theorem dX1_findHeadError_0 : decode cX1_findHeadError 0 = .ok (.aload_n 0, 1) := by decide +kernel
theorem dX1_findHeadError_1 : decode cX1_findHeadError 1 = .ok (.iconst 0, 1) := by decide +kernel
theorem dX1_findHeadError_2 : decode cX1_findHeadError 2 = .ok (.invokevirtual 19, 3) := by decide +kernel
theorem dX1_findHeadError_5 : decode cX1_findHeadError 5 = .ok (.bipush 68, 2) := by decide +kernel
theorem dX1_findHeadError_7 : decode cX1_findHeadError 7 = .ok (.if_icmp .eq 5, 3) := by decide +kernel
theorem dX1_findHeadError_10 : decode cX1_findHeadError 10 = .ok (.iconst 0, 1) := by decide +kernel
theorem dX1_findHeadError_11 : decode cX1_findHeadError 11 = .ok (.ireturn, 1) := by decide +kernel
theorem dX1_findHeadError_12 : decode cX1_findHeadError 12 = .ok (.aload_n 0, 1) := by decide +kernel
theorem dX1_findHeadError_13 : decode cX1_findHeadError 13 = .ok (.iconst 1, 1) := by decide +kernel
theorem dX1_findHeadError_14 : decode cX1_findHeadError 14 = .ok (.iconst 1, 1) := by decide +kernel
theorem dX1_findHeadError_15 : decode cX1_findHeadError 15 = .ok (.iconst 4, 1) := by decide +kernel
theorem dX1_findHeadError_16 : decode cX1_findHeadError 16 = .ok (.invokevirtual 33, 3) := by decide +kernel
theorem dX1_findHeadError_19 : decode cX1_findHeadError 19 = .ok (.ifCond .ne 5, 3) := by decide +kernel
theorem dX1_findHeadError_22 : decode cX1_findHeadError 22 = .ok (.iconst 1, 1) := by decide +kernel
theorem dX1_findHeadError_23 : decode cX1_findHeadError 23 = .ok (.ireturn, 1) := by decide +kernel
theorem dX1_findHeadError_24 : decode cX1_findHeadError 24 = .ok (.aload_n 0, 1) := by decide +kernel
theorem dX1_findHeadError_25 : decode cX1_findHeadError 25 = .ok (.iconst 2, 1) := by decide +kernel
theorem dX1_findHeadError_26 : decode cX1_findHeadError 26 = .ok (.iconst 1, 1) := by decide +kernel
theorem dX1_findHeadError_27 : decode cX1_findHeadError 27 = .ok (.iconst 4, 1) := by decide +kernel
theorem dX1_findHeadError_28 : decode cX1_findHeadError 28 = .ok (.invokevirtual 33, 3) := by decide +kernel
theorem dX1_findHeadError_31 : decode cX1_findHeadError 31 = .ok (.ifCond .ne 5, 3) := by decide +kernel
theorem dX1_findHeadError_34 : decode cX1_findHeadError 34 = .ok (.iconst 2, 1) := by decide +kernel
theorem dX1_findHeadError_35 : decode cX1_findHeadError 35 = .ok (.ireturn, 1) := by decide +kernel
theorem dX1_findHeadError_36 : decode cX1_findHeadError 36 = .ok (.aload_n 0, 1) := by decide +kernel
theorem dX1_findHeadError_37 : decode cX1_findHeadError 37 = .ok (.iconst 3, 1) := by decide +kernel
theorem dX1_findHeadError_38 : decode cX1_findHeadError 38 = .ok (.iconst 1, 1) := by decide +kernel
theorem dX1_findHeadError_39 : decode cX1_findHeadError 39 = .ok (.bipush 9, 2) := by decide +kernel
theorem dX1_findHeadError_41 : decode cX1_findHeadError 41 = .ok (.invokevirtual 33, 3) := by decide +kernel
theorem dX1_findHeadError_44 : decode cX1_findHeadError 44 = .ok (.ifCond .eq 8, 3) := by decide +kernel
theorem dX1_findHeadError_47 : decode cX1_findHeadError 47 = .ok (.bipush (-9), 2) := by decide +kernel
theorem dX1_findHeadError_49 : decode cX1_findHeadError 49 = .ok (.goto 4, 3) := by decide +kernel
theorem dX1_findHeadError_52 : decode cX1_findHeadError 52 = .ok (.iconst 3, 1) := by decide +kernel
theorem dX1_findHeadError_53 : decode cX1_findHeadError 53 = .ok (.ireturn, 1) := by decide +kernel
set_option maxRecDepth 20000 in
theorem ggX1_columnEnd_X1_sign : GoodIn wsX1_columnEnd wsX1_sign := goodIn_r _ [5, 6, 7, 16, 17] (by decide +kernel) (by decide +kernel)
set_option maxRecDepth 20000 in
theorem gX1_columnEnd_X1_sign : GoodIn wsX1_columnEnd (wsV RX1 19 RX1 yX1_sign wsX1_sign) := goodIn_app (goodIn_of _ (by decide +kernel)) ggX1_columnEnd_X1_sign
set_option maxRecDepth 20000 in
theorem ggX1_columnEnd_X1_isDigit : GoodIn wsX1_columnEnd wsX1_isDigit := goodIn_r _ [11, 12, 13, 14, 4, 15, 1, 2, 3, 5, 6, 7, 16, 17] (by decide +kernel) (by decide +kernel)
set_option maxRecDepth 20000 in
theorem gX1_columnEnd_X1_isDigit : GoodIn wsX1_columnEnd (wsV RX1 33 RX1 yX1_isDigit wsX1_isDigit) := goodIn_app (goodIn_of _ (by decide +kernel)) ggX1_columnEnd_X1_isDigit
theorem dX1_columnEnd_0 : decode cX1_columnEnd 0 = .ok (.iload_n 1, 1) := by decide +kernel
theorem dX1_columnEnd_1 : decode cX1_columnEnd 1 = .ok (.istore_n 2, 1) := by decide +kernel
theorem dX1_columnEnd_2 : decode cX1_columnEnd 2 = .ok (.iconst 0, 1) := by decide +kernel
theorem dX1_columnEnd_3 : decode cX1_columnEnd 3 = .ok (.istore_n 3, 1) := by decide +kernel
theorem dX1_columnEnd_4 : decode cX1_columnEnd 4 = .ok (.iload_n 3, 1) := by decide +kernel
theorem dX1_columnEnd_5 : decode cX1_columnEnd 5 = .ok (.bipush 6, 2) := by decide +kernel
theorem dX1_columnEnd_7 : decode cX1_columnEnd 7 = .ok (.if_icmp .ge 56, 3) := by decide +kernel
theorem dX1_columnEnd_10 : decode cX1_columnEnd 10 = .ok (.aload_n 0, 1) := by decide +kernel
theorem dX1_columnEnd_11 : decode cX1_columnEnd 11 = .ok (.iload_n 2, 1) := by decide +kernel
theorem dX1_columnEnd_12 : decode cX1_columnEnd 12 = .ok (.invokevirtual 19, 3) := by decide +kernel
theorem dX1_columnEnd_15 : decode cX1_columnEnd 15 = .ok (.bipush 59, 2) := by decide +kernel
theorem dX1_columnEnd_17 : decode cX1_columnEnd 17 = .ok (.if_icmp .eq 46, 3) := by decide +kernel
theorem dX1_columnEnd_20 : decode cX1_columnEnd 20 = .ok (.aload_n 0, 1) := by decide +kernel
theorem dX1_columnEnd_21 : decode cX1_columnEnd 21 = .ok (.iload_n 2, 1) := by decide +kernel
theorem dX1_columnEnd_22 : decode cX1_columnEnd 22 = .ok (.iconst 1, 1) := by decide +kernel
theorem dX1_columnEnd_23 : decode cX1_columnEnd 23 = .ok (.bipush 9, 2) := by decide +kernel
theorem dX1_columnEnd_25 : decode cX1_columnEnd 25 = .ok (.invokevirtual 33, 3) := by decide +kernel
theorem dX1_columnEnd_28 : decode cX1_columnEnd 28 = .ok (.ifCond .ne 7, 3) := by decide +kernel
theorem dX1_columnEnd_31 : decode cX1_columnEnd 31 = .ok (.iload_n 2, 1) := by decide +kernel
theorem dX1_columnEnd_32 : decode cX1_columnEnd 32 = .ok (.iconst (-1), 1) := by decide +kernel
theorem dX1_columnEnd_33 : decode cX1_columnEnd 33 = .ok (.ixor, 1) := by decide +kernel
theorem dX1_columnEnd_34 : decode cX1_columnEnd 34 = .ok (.ireturn, 1) := by decide +kernel
theorem dX1_columnEnd_35 : decode cX1_columnEnd 35 = .ok (.aload_n 0, 1) := by decide +kernel
theorem dX1_columnEnd_36 : decode cX1_columnEnd 36 = .ok (.iload_n 2, 1) := by decide +kernel
theorem dX1_columnEnd_37 : decode cX1_columnEnd 37 = .ok (.iconst 1, 1) := by decide +kernel
theorem dX1_columnEnd_38 : decode cX1_columnEnd 38 = .ok (.iadd, 1) := by decide +kernel
theorem dX1_columnEnd_39 : decode cX1_columnEnd 39 = .ok (.iconst 0, 1) := by decide +kernel
theorem dX1_columnEnd_40 : decode cX1_columnEnd 40 = .ok (.bipush 9, 2) := by decide +kernel
theorem dX1_columnEnd_42 : decode cX1_columnEnd 42 = .ok (.invokevirtual 33, 3) := by decide +kernel
theorem dX1_columnEnd_45 : decode cX1_columnEnd 45 = .ok (.ifCond .ne 9, 3) := by decide +kernel
theorem dX1_columnEnd_48 : decode cX1_columnEnd 48 = .ok (.iload_n 2, 1) := by decide +kernel
theorem dX1_columnEnd_49 : decode cX1_columnEnd 49 = .ok (.iconst 1, 1) := by decide +kernel
theorem dX1_columnEnd_50 : decode cX1_columnEnd 50 = .ok (.iadd, 1) := by decide +kernel
theorem dX1_columnEnd_51 : decode cX1_columnEnd 51 = .ok (.iconst (-1), 1) := by decide +kernel
theorem dX1_columnEnd_52 : decode cX1_columnEnd 52 = .ok (.ixor, 1) := by decide +kernel
theorem dX1_columnEnd_53 : decode cX1_columnEnd 53 = .ok (.ireturn, 1) := by decide +kernel
theorem dX1_columnEnd_54 : decode cX1_columnEnd 54 = .ok (.iinc 2 2, 3) := by decide +kernel
theorem dX1_columnEnd_57 : decode cX1_columnEnd 57 = .ok (.iinc 3 1, 3) := by decide +kernel
theorem dX1_columnEnd_60 : decode cX1_columnEnd 60 = .ok (.goto (-56), 3) := by decide +kernel
theorem dX1_columnEnd_63 : decode cX1_columnEnd 63 = .ok (.aload_n 0, 1) := by decide +kernel
theorem dX1_columnEnd_64 : decode cX1_columnEnd 64 = .ok (.iload_n 2, 1) := by decide +kernel
theorem dX1_columnEnd_65 : decode cX1_columnEnd 65 = .ok (.invokevirtual 19, 3) := by decide +kernel
theorem dX1_columnEnd_68 : decode cX1_columnEnd 68 = .ok (.bipush 59, 2) := by decide +kernel
theorem dX1_columnEnd_70 : decode cX1_columnEnd 70 = .ok (.if_icmp .ne 9, 3) := by decide +kernel
theorem dX1_columnEnd_73 : decode cX1_columnEnd 73 = .ok (.iload_n 2, 1) := by decide +kernel
theorem dX1_columnEnd_74 : decode cX1_columnEnd 74 = .ok (.iconst 1, 1) := by decide +kernel
theorem dX1_columnEnd_75 : decode cX1_columnEnd 75 = .ok (.iadd, 1) := by decide +kernel
theorem dX1_columnEnd_76 : decode cX1_columnEnd 76 = .ok (.goto 6, 3) := by decide +kernel
theorem dX1_columnEnd_79 : decode cX1_columnEnd 79 = .ok (.iload_n 2, 1) := by decide +kernel
theorem dX1_columnEnd_80 : decode cX1_columnEnd 80 = .ok (.iconst (-1), 1) := by decide +kernel
theorem dX1_columnEnd_81 : decode cX1_columnEnd 81 = .ok (.ixor, 1) := by decide +kernel
theorem dX1_columnEnd_82 : decode cX1_columnEnd 82 = .ok (.ireturn, 1) := by decide +kernel
set_option maxRecDepth 20000 in
theorem ggX1_build_X1_digit : GoodIn wsX1_build wsX1_digit := goodIn_r _ [5, 6, 7, 8, 4, 9, 10, 11, 66, 67] (by decide +kernel) (by decide +kernel)
set_option maxRecDepth 20000 in
theorem gX1_build_X1_digit : GoodIn wsX1_build (wsV RX1 23 RX1 yX1_digit wsX1_digit) := goodIn_app (goodIn_of _ (by decide +kernel)) ggX1_build_X1_digit
set_option maxRecDepth 20000 in
theorem ggX1_build_X2_shape : GoodIn wsX1_build wsX2_shape := goodIn_r _ [16, 17, 18, 19, 20, 21, 22, 23, 24, 25, 26, 15, 27, 28, 29, 30, 31, 32, 33, 34, 35, 36, 68, 69, 70, 71, 72] (by decide +kernel) (by decide +kernel)
set_option maxRecDepth 20000 in
theorem gX1_build_X2_shape : GoodIn wsX1_build (wsV RX1 37 RX2 yX2_shape wsX2_shape) := goodIn_app (goodIn_of _ (by decide +kernel)) ggX1_build_X2_shape
set_option maxRecDepth 20000 in
theorem ggX1_build_X0_clear : GoodIn wsX1_build wsX0_clear := goodIn_r _ [41, 42, 43, 44, 45, 46, 47, 48, 49, 50, 51, 73, 74, 75, 76, 77, 78, 79, 80] (by decide +kernel) (by decide +kernel)
set_option maxRecDepth 20000 in
theorem gX1_build_X0_clear : GoodIn wsX1_build (wsV RX1 43 RX0 yX0_clear wsX0_clear) := goodIn_app (goodIn_of _ (by decide +kernel)) ggX1_build_X0_clear
set_option maxRecDepth 20000 in
theorem ggX1_build_X2_size : GoodIn wsX1_build wsX2_size := goodIn_r _ [55, 21, 68, 69, 70, 71, 72] (by decide +kernel) (by decide +kernel)
set_option maxRecDepth 20000 in
theorem gX1_build_X2_size : GoodIn wsX1_build (wsV RX1 49 RX2 yX2_size wsX2_size) := goodIn_app (goodIn_of _ (by decide +kernel)) ggX1_build_X2_size
set_option maxRecDepth 20000 in
theorem ggX1_build_X1_buildColumn : GoodIn wsX1_build wsX1_buildColumn := goodIn_r _ [59, 6, 7, 8, 4, 9, 10, 11, 1, 2, 3, 5, 60, 61, 62, 40, 63, 42, 64, 65, 66, 67, 73, 74, 75, 76, 77, 78, 79, 80] (by decide +kernel) (by decide +kernel)
set_option maxRecDepth 20000 in
theorem gX1_build_X1_buildColumn : GoodIn wsX1_build (wsV RX1 52 RX1 yX1_buildColumn wsX1_buildColumn) := goodIn_app (goodIn_of _ (by decide +kernel)) ggX1_build_X1_buildColumn
theorem dX1_build_0 : decode cX1_build 0 = .ok (.aload_n 1, 1) := by decide +kernel
theorem dX1_build_1 : decode cX1_build 1 = .ok (.aload_n 0, 1) := by decide +kernel
theorem dX1_build_2 : decode cX1_build 2 = .ok (.iconst 1, 1) := by decide +kernel
theorem dX1_build_3 : decode cX1_build 3 = .ok (.invokevirtual 23, 3) := by decide +kernel
theorem dX1_build_6 : decode cX1_build 6 = .ok (.aload_n 0, 1) := by decide +kernel
theorem dX1_build_7 : decode cX1_build 7 = .ok (.iconst 2, 1) := by decide +kernel
theorem dX1_build_8 : decode cX1_build 8 = .ok (.invokevirtual 23, 3) := by decide +kernel
theorem dX1_build_11 : decode cX1_build 11 = .ok (.invokevirtual 37, 3) := by decide +kernel
theorem dX1_build_14 : decode cX1_build 14 = .ok (.aload_n 2, 1) := by decide +kernel
theorem dX1_build_15 : decode cX1_build 15 = .ok (.aload_n 0, 1) := by decide +kernel
theorem dX1_build_16 : decode cX1_build 16 = .ok (.iconst 3, 1) := by decide +kernel
theorem dX1_build_17 : decode cX1_build 17 = .ok (.invokevirtual 23, 3) := by decide +kernel
theorem dX1_build_20 : decode cX1_build 20 = .ok (.invokevirtual 43, 3) := by decide +kernel
theorem dX1_build_23 : decode cX1_build 23 = .ok (.iconst 4, 1) := by decide +kernel
theorem dX1_build_24 : decode cX1_build 24 = .ok (.istore_n 3, 1) := by decide +kernel
theorem dX1_build_25 : decode cX1_build 25 = .ok (.iconst 0, 1) := by decide +kernel
theorem dX1_build_26 : decode cX1_build 26 = .ok (.istore 4, 2) := by decide +kernel
theorem dX1_build_28 : decode cX1_build 28 = .ok (.iload 4, 2) := by decide +kernel
theorem dX1_build_30 : decode cX1_build 30 = .ok (.aload_n 1, 1) := by decide +kernel
theorem dX1_build_31 : decode cX1_build 31 = .ok (.invokevirtual 49, 3) := by decide +kernel
theorem dX1_build_34 : decode cX1_build 34 = .ok (.if_icmp .ge 18, 3) := by decide +kernel
theorem dX1_build_37 : decode cX1_build 37 = .ok (.aload_n 0, 1) := by decide +kernel
theorem dX1_build_38 : decode cX1_build 38 = .ok (.aload_n 2, 1) := by decide +kernel
theorem dX1_build_39 : decode cX1_build 39 = .ok (.iload 4, 2) := by decide +kernel
theorem dX1_build_41 : decode cX1_build 41 = .ok (.iload_n 3, 1) := by decide +kernel
theorem dX1_build_42 : decode cX1_build 42 = .ok (.invokevirtual 52, 3) := by decide +kernel
theorem dX1_build_45 : decode cX1_build 45 = .ok (.istore_n 3, 1) := by decide +kernel
theorem dX1_build_46 : decode cX1_build 46 = .ok (.iinc 4 1, 3) := by decide +kernel
theorem dX1_build_49 : decode cX1_build 49 = .ok (.goto (-21), 3) := by decide +kernel
theorem dX1_build_52 : decode cX1_build 52 = .ok (.return_, 1) := by decide +kernel
set_option maxRecDepth 20000 in
theorem ggX1_buildColumn_X1_sign : GoodIn wsX1_buildColumn wsX1_sign := goodIn_r _ [5, 6, 7, 20, 21] (by decide +kernel) (by decide +kernel)
set_option maxRecDepth 20000 in
theorem gX1_buildColumn_X1_sign : GoodIn wsX1_buildColumn (wsV RX1 19 RX1 yX1_sign wsX1_sign) := goodIn_app (goodIn_of _ (by decide +kernel)) ggX1_buildColumn_X1_sign
set_option maxRecDepth 20000 in
theorem ggX1_buildColumn_X1_digit : GoodIn wsX1_buildColumn wsX1_digit := goodIn_r _ [11, 1, 2, 3, 4, 5, 6, 7, 20, 21] (by decide +kernel) (by decide +kernel)
set_option maxRecDepth 20000 in
theorem gX1_buildColumn_X1_digit : GoodIn wsX1_buildColumn (wsV RX1 23 RX1 yX1_digit wsX1_digit) := goodIn_app (goodIn_of _ (by decide +kernel)) ggX1_buildColumn_X1_digit
set_option maxRecDepth 20000 in
theorem ggX1_buildColumn_X0_pile : GoodIn wsX1_buildColumn wsX0_pile := goodIn_r _ [16, 17, 18, 19, 22, 23, 24, 25, 26, 27, 28, 29] (by decide +kernel) (by decide +kernel)
set_option maxRecDepth 20000 in
theorem gX1_buildColumn_X0_pile : GoodIn wsX1_buildColumn (wsV RX1 56 RX0 yX0_pile wsX0_pile) := goodIn_app (goodIn_of _ (by decide +kernel)) ggX1_buildColumn_X0_pile
theorem dX1_buildColumn_0 : decode cX1_buildColumn 0 = .ok (.iload_n 3, 1) := by decide +kernel
theorem dX1_buildColumn_1 : decode cX1_buildColumn 1 = .ok (.istore 4, 2) := by decide +kernel
theorem dX1_buildColumn_3 : decode cX1_buildColumn 3 = .ok (.iconst 0, 1) := by decide +kernel
theorem dX1_buildColumn_4 : decode cX1_buildColumn 4 = .ok (.istore 5, 2) := by decide +kernel
theorem dX1_buildColumn_6 : decode cX1_buildColumn 6 = .ok (.iload 5, 2) := by decide +kernel
theorem dX1_buildColumn_8 : decode cX1_buildColumn 8 = .ok (.bipush 6, 2) := by decide +kernel
theorem dX1_buildColumn_10 : decode cX1_buildColumn 10 = .ok (.if_icmp .ge 42, 3) := by decide +kernel
theorem dX1_buildColumn_13 : decode cX1_buildColumn 13 = .ok (.aload_n 0, 1) := by decide +kernel
theorem dX1_buildColumn_14 : decode cX1_buildColumn 14 = .ok (.iload 4, 2) := by decide +kernel
theorem dX1_buildColumn_16 : decode cX1_buildColumn 16 = .ok (.invokevirtual 19, 3) := by decide +kernel
theorem dX1_buildColumn_19 : decode cX1_buildColumn 19 = .ok (.bipush 59, 2) := by decide +kernel
theorem dX1_buildColumn_21 : decode cX1_buildColumn 21 = .ok (.if_icmp .eq 31, 3) := by decide +kernel
theorem dX1_buildColumn_24 : decode cX1_buildColumn 24 = .ok (.aload_n 1, 1) := by decide +kernel
theorem dX1_buildColumn_25 : decode cX1_buildColumn 25 = .ok (.iload_n 2, 1) := by decide +kernel
theorem dX1_buildColumn_26 : decode cX1_buildColumn 26 = .ok (.aload_n 0, 1) := by decide +kernel
theorem dX1_buildColumn_27 : decode cX1_buildColumn 27 = .ok (.iload 4, 2) := by decide +kernel
theorem dX1_buildColumn_29 : decode cX1_buildColumn 29 = .ok (.invokevirtual 23, 3) := by decide +kernel
theorem dX1_buildColumn_32 : decode cX1_buildColumn 32 = .ok (.aload_n 0, 1) := by decide +kernel
theorem dX1_buildColumn_33 : decode cX1_buildColumn 33 = .ok (.iload 4, 2) := by decide +kernel
theorem dX1_buildColumn_35 : decode cX1_buildColumn 35 = .ok (.iconst 1, 1) := by decide +kernel
theorem dX1_buildColumn_36 : decode cX1_buildColumn 36 = .ok (.iadd, 1) := by decide +kernel
theorem dX1_buildColumn_37 : decode cX1_buildColumn 37 = .ok (.invokevirtual 23, 3) := by decide +kernel
theorem dX1_buildColumn_40 : decode cX1_buildColumn 40 = .ok (.invokevirtual 56, 3) := by decide +kernel
theorem dX1_buildColumn_43 : decode cX1_buildColumn 43 = .ok (.iinc 4 2, 3) := by decide +kernel
theorem dX1_buildColumn_46 : decode cX1_buildColumn 46 = .ok (.iinc 5 1, 3) := by decide +kernel
theorem dX1_buildColumn_49 : decode cX1_buildColumn 49 = .ok (.goto (-43), 3) := by decide +kernel
theorem dX1_buildColumn_52 : decode cX1_buildColumn 52 = .ok (.iload 4, 2) := by decide +kernel
theorem dX1_buildColumn_54 : decode cX1_buildColumn 54 = .ok (.iconst 1, 1) := by decide +kernel
theorem dX1_buildColumn_55 : decode cX1_buildColumn 55 = .ok (.iadd, 1) := by decide +kernel
theorem dX1_buildColumn_56 : decode cX1_buildColumn 56 = .ok (.ireturn, 1) := by decide +kernel
theorem dX2_init_0 : decode cX2_init 0 = .ok (.aload_n 0, 1) := by decide +kernel
theorem dX2_init_1 : decode cX2_init 1 = .ok (.invokespecial 3, 3) := by decide +kernel
theorem dX2_init_4 : decode cX2_init 4 = .ok (.aload_n 0, 1) := by decide +kernel
theorem dX2_init_5 : decode cX2_init 5 = .ok (.bipush 16, 2) := by decide +kernel
theorem dX2_init_7 : decode cX2_init 7 = .ok (.newarray .int, 2) := by decide +kernel
theorem dX2_init_9 : decode cX2_init 9 = .ok (.putfield 9, 3) := by decide +kernel
theorem dX2_init_12 : decode cX2_init 12 = .ok (.aload_n 0, 1) := by decide +kernel
theorem dX2_init_13 : decode cX2_init 13 = .ok (.bipush 16, 2) := by decide +kernel
theorem dX2_init_15 : decode cX2_init 15 = .ok (.newarray .int, 2) := by decide +kernel
theorem dX2_init_17 : decode cX2_init 17 = .ok (.putfield 15, 3) := by decide +kernel
theorem dX2_init_20 : decode cX2_init 20 = .ok (.aload_n 0, 1) := by decide +kernel
theorem dX2_init_21 : decode cX2_init 21 = .ok (.bipush 64, 2) := by decide +kernel
theorem dX2_init_23 : decode cX2_init 23 = .ok (.newarray .int, 2) := by decide +kernel
theorem dX2_init_25 : decode cX2_init 25 = .ok (.putfield 18, 3) := by decide +kernel
theorem dX2_init_28 : decode cX2_init 28 = .ok (.aload_n 0, 1) := by decide +kernel
theorem dX2_init_29 : decode cX2_init 29 = .ok (.bipush 16, 2) := by decide +kernel
theorem dX2_init_31 : decode cX2_init 31 = .ok (.newarray .int, 2) := by decide +kernel
theorem dX2_init_33 : decode cX2_init 33 = .ok (.putfield 21, 3) := by decide +kernel
theorem dX2_init_36 : decode cX2_init 36 = .ok (.return_, 1) := by decide +kernel
set_option maxRecDepth 20000 in
theorem ggX2_shape_X2_findNeighbours : GoodIn wsX2_shape wsX2_findNeighbours := goodIn_r _ [12, 5, 13, 14, 15, 16, 17, 11, 18, 6, 19, 20, 3, 21, 7, 22, 23, 24, 25, 26] (by decide +kernel) (by decide +kernel)
set_option maxRecDepth 20000 in
theorem gX2_shape_X2_findNeighbours : GoodIn wsX2_shape (wsV RX2 34 RX2 yX2_findNeighbours wsX2_findNeighbours) := goodIn_app (goodIn_of _ (by decide +kernel)) ggX2_shape_X2_findNeighbours
theorem dX2_shape_0 : decode cX2_shape 0 = .ok (.aload_n 0, 1) := by decide +kernel
theorem dX2_shape_1 : decode cX2_shape 1 = .ok (.iload_n 1, 1) := by decide +kernel
theorem dX2_shape_2 : decode cX2_shape 2 = .ok (.iload_n 2, 1) := by decide +kernel
theorem dX2_shape_3 : decode cX2_shape 3 = .ok (.imul, 1) := by decide +kernel
theorem dX2_shape_4 : decode cX2_shape 4 = .ok (.bipush 16, 2) := by decide +kernel
theorem dX2_shape_6 : decode cX2_shape 6 = .ok (.invokestatic 24, 3) := by decide +kernel
theorem dX2_shape_9 : decode cX2_shape 9 = .ok (.putfield 30, 3) := by decide +kernel
theorem dX2_shape_12 : decode cX2_shape 12 = .ok (.iconst 0, 1) := by decide +kernel
theorem dX2_shape_13 : decode cX2_shape 13 = .ok (.istore_n 3, 1) := by decide +kernel
theorem dX2_shape_14 : decode cX2_shape 14 = .ok (.iconst 0, 1) := by decide +kernel
theorem dX2_shape_15 : decode cX2_shape 15 = .ok (.istore 4, 2) := by decide +kernel
theorem dX2_shape_17 : decode cX2_shape 17 = .ok (.iconst 0, 1) := by decide +kernel
theorem dX2_shape_18 : decode cX2_shape 18 = .ok (.istore 5, 2) := by decide +kernel
theorem dX2_shape_20 : decode cX2_shape 20 = .ok (.iload 5, 2) := by decide +kernel
theorem dX2_shape_22 : decode cX2_shape 22 = .ok (.aload_n 0, 1) := by decide +kernel
theorem dX2_shape_23 : decode cX2_shape 23 = .ok (.getfield 30, 3) := by decide +kernel
theorem dX2_shape_26 : decode cX2_shape 26 = .ok (.if_icmp .ge 41, 3) := by decide +kernel
theorem dX2_shape_29 : decode cX2_shape 29 = .ok (.aload_n 0, 1) := by decide +kernel
theorem dX2_shape_30 : decode cX2_shape 30 = .ok (.getfield 9, 3) := by decide +kernel
theorem dX2_shape_33 : decode cX2_shape 33 = .ok (.iload 5, 2) := by decide +kernel
theorem dX2_shape_35 : decode cX2_shape 35 = .ok (.iload_n 3, 1) := by decide +kernel
theorem dX2_shape_36 : decode cX2_shape 36 = .ok (.iastore, 1) := by decide +kernel
theorem dX2_shape_37 : decode cX2_shape 37 = .ok (.aload_n 0, 1) := by decide +kernel
theorem dX2_shape_38 : decode cX2_shape 38 = .ok (.getfield 15, 3) := by decide +kernel
theorem dX2_shape_41 : decode cX2_shape 41 = .ok (.iload 5, 2) := by decide +kernel
theorem dX2_shape_43 : decode cX2_shape 43 = .ok (.iload 4, 2) := by decide +kernel
theorem dX2_shape_45 : decode cX2_shape 45 = .ok (.iastore, 1) := by decide +kernel
theorem dX2_shape_46 : decode cX2_shape 46 = .ok (.iinc 4 1, 3) := by decide +kernel
theorem dX2_shape_49 : decode cX2_shape 49 = .ok (.iload 4, 2) := by decide +kernel
theorem dX2_shape_51 : decode cX2_shape 51 = .ok (.iload_n 2, 1) := by decide +kernel
theorem dX2_shape_52 : decode cX2_shape 52 = .ok (.if_icmp .ne 9, 3) := by decide +kernel
theorem dX2_shape_55 : decode cX2_shape 55 = .ok (.iconst 0, 1) := by decide +kernel
theorem dX2_shape_56 : decode cX2_shape 56 = .ok (.istore 4, 2) := by decide +kernel
theorem dX2_shape_58 : decode cX2_shape 58 = .ok (.iinc 3 1, 3) := by decide +kernel
theorem dX2_shape_61 : decode cX2_shape 61 = .ok (.iinc 5 1, 3) := by decide +kernel
theorem dX2_shape_64 : decode cX2_shape 64 = .ok (.goto (-44), 3) := by decide +kernel
theorem dX2_shape_67 : decode cX2_shape 67 = .ok (.iconst 0, 1) := by decide +kernel
theorem dX2_shape_68 : decode cX2_shape 68 = .ok (.istore 5, 2) := by decide +kernel
theorem dX2_shape_70 : decode cX2_shape 70 = .ok (.iload 5, 2) := by decide +kernel
theorem dX2_shape_72 : decode cX2_shape 72 = .ok (.aload_n 0, 1) := by decide +kernel
theorem dX2_shape_73 : decode cX2_shape 73 = .ok (.getfield 30, 3) := by decide +kernel
theorem dX2_shape_76 : decode cX2_shape 76 = .ok (.if_icmp .ge 15, 3) := by decide +kernel
theorem dX2_shape_79 : decode cX2_shape 79 = .ok (.aload_n 0, 1) := by decide +kernel
theorem dX2_shape_80 : decode cX2_shape 80 = .ok (.iload 5, 2) := by decide +kernel
theorem dX2_shape_82 : decode cX2_shape 82 = .ok (.invokevirtual 34, 3) := by decide +kernel
theorem dX2_shape_85 : decode cX2_shape 85 = .ok (.iinc 5 1, 3) := by decide +kernel
theorem dX2_shape_88 : decode cX2_shape 88 = .ok (.goto (-18), 3) := by decide +kernel
theorem dX2_shape_91 : decode cX2_shape 91 = .ok (.return_, 1) := by decide +kernel
set_option maxRecDepth 20000 in
theorem ggX2_findNeighbours_X2_distance : GoodIn wsX2_findNeighbours wsX2_distance := goodIn_r _ [8, 9, 10, 11, 12, 13, 14, 15, 16, 17, 18, 19] (by decide +kernel) (by decide +kernel)
set_option maxRecDepth 20000 in
theorem gX2_findNeighbours_X2_distance : GoodIn wsX2_findNeighbours (wsV RX2 38 RX2 yX2_distance wsX2_distance) := goodIn_app (goodIn_of _ (by decide +kernel)) ggX2_findNeighbours_X2_distance
theorem dX2_findNeighbours_0 : decode cX2_findNeighbours 0 = .ok (.iconst 0, 1) := by decide +kernel
theorem dX2_findNeighbours_1 : decode cX2_findNeighbours 1 = .ok (.istore_n 2, 1) := by decide +kernel
theorem dX2_findNeighbours_2 : decode cX2_findNeighbours 2 = .ok (.iconst 0, 1) := by decide +kernel
theorem dX2_findNeighbours_3 : decode cX2_findNeighbours 3 = .ok (.istore_n 3, 1) := by decide +kernel
theorem dX2_findNeighbours_4 : decode cX2_findNeighbours 4 = .ok (.iload_n 3, 1) := by decide +kernel
theorem dX2_findNeighbours_5 : decode cX2_findNeighbours 5 = .ok (.aload_n 0, 1) := by decide +kernel
theorem dX2_findNeighbours_6 : decode cX2_findNeighbours 6 = .ok (.getfield 30, 3) := by decide +kernel
theorem dX2_findNeighbours_9 : decode cX2_findNeighbours 9 = .ok (.if_icmp .ge 38, 3) := by decide +kernel
theorem dX2_findNeighbours_12 : decode cX2_findNeighbours 12 = .ok (.iload_n 2, 1) := by decide +kernel
theorem dX2_findNeighbours_13 : decode cX2_findNeighbours 13 = .ok (.iconst 4, 1) := by decide +kernel
theorem dX2_findNeighbours_14 : decode cX2_findNeighbours 14 = .ok (.if_icmp .ge 33, 3) := by decide +kernel
theorem dX2_findNeighbours_17 : decode cX2_findNeighbours 17 = .ok (.aload_n 0, 1) := by decide +kernel
theorem dX2_findNeighbours_18 : decode cX2_findNeighbours 18 = .ok (.iload_n 1, 1) := by decide +kernel
theorem dX2_findNeighbours_19 : decode cX2_findNeighbours 19 = .ok (.iload_n 3, 1) := by decide +kernel
theorem dX2_findNeighbours_20 : decode cX2_findNeighbours 20 = .ok (.invokevirtual 38, 3) := by decide +kernel
theorem dX2_findNeighbours_23 : decode cX2_findNeighbours 23 = .ok (.iconst 1, 1) := by decide +kernel
theorem dX2_findNeighbours_24 : decode cX2_findNeighbours 24 = .ok (.if_icmp .ne 17, 3) := by decide +kernel
theorem dX2_findNeighbours_27 : decode cX2_findNeighbours 27 = .ok (.aload_n 0, 1) := by decide +kernel
theorem dX2_findNeighbours_28 : decode cX2_findNeighbours 28 = .ok (.getfield 18, 3) := by decide +kernel
theorem dX2_findNeighbours_31 : decode cX2_findNeighbours 31 = .ok (.iload_n 1, 1) := by decide +kernel
theorem dX2_findNeighbours_32 : decode cX2_findNeighbours 32 = .ok (.iconst 4, 1) := by decide +kernel
theorem dX2_findNeighbours_33 : decode cX2_findNeighbours 33 = .ok (.imul, 1) := by decide +kernel
theorem dX2_findNeighbours_34 : decode cX2_findNeighbours 34 = .ok (.iload_n 2, 1) := by decide +kernel
theorem dX2_findNeighbours_35 : decode cX2_findNeighbours 35 = .ok (.iadd, 1) := by decide +kernel
theorem dX2_findNeighbours_36 : decode cX2_findNeighbours 36 = .ok (.iload_n 3, 1) := by decide +kernel
theorem dX2_findNeighbours_37 : decode cX2_findNeighbours 37 = .ok (.iastore, 1) := by decide +kernel
theorem dX2_findNeighbours_38 : decode cX2_findNeighbours 38 = .ok (.iinc 2 1, 3) := by decide +kernel
theorem dX2_findNeighbours_41 : decode cX2_findNeighbours 41 = .ok (.iinc 3 1, 3) := by decide +kernel
theorem dX2_findNeighbours_44 : decode cX2_findNeighbours 44 = .ok (.goto (-40), 3) := by decide +kernel
theorem dX2_findNeighbours_47 : decode cX2_findNeighbours 47 = .ok (.aload_n 0, 1) := by decide +kernel
theorem dX2_findNeighbours_48 : decode cX2_findNeighbours 48 = .ok (.getfield 21, 3) := by decide +kernel
theorem dX2_findNeighbours_51 : decode cX2_findNeighbours 51 = .ok (.iload_n 1, 1) := by decide +kernel
theorem dX2_findNeighbours_52 : decode cX2_findNeighbours 52 = .ok (.iload_n 2, 1) := by decide +kernel
theorem dX2_findNeighbours_53 : decode cX2_findNeighbours 53 = .ok (.iastore, 1) := by decide +kernel
theorem dX2_findNeighbours_54 : decode cX2_findNeighbours 54 = .ok (.return_, 1) := by decide +kernel
theorem dX2_size_0 : decode cX2_size 0 = .ok (.aload_n 0, 1) := by decide +kernel
theorem dX2_size_1 : decode cX2_size 1 = .ok (.getfield 30, 3) := by decide +kernel
theorem dX2_size_4 : decode cX2_size 4 = .ok (.ireturn, 1) := by decide +kernel
theorem dX2_has_0 : decode cX2_has 0 = .ok (.iload_n 1, 1) := by decide +kernel
theorem dX2_has_1 : decode cX2_has 1 = .ok (.ifCond .lt 15, 3) := by decide +kernel
theorem dX2_has_4 : decode cX2_has 4 = .ok (.iload_n 1, 1) := by decide +kernel
theorem dX2_has_5 : decode cX2_has 5 = .ok (.aload_n 0, 1) := by decide +kernel
theorem dX2_has_6 : decode cX2_has 6 = .ok (.getfield 30, 3) := by decide +kernel
theorem dX2_has_9 : decode cX2_has 9 = .ok (.if_icmp .ge 7, 3) := by decide +kernel
theorem dX2_has_12 : decode cX2_has 12 = .ok (.iconst 1, 1) := by decide +kernel
theorem dX2_has_13 : decode cX2_has 13 = .ok (.goto 4, 3) := by decide +kernel
theorem dX2_has_16 : decode cX2_has 16 = .ok (.iconst 0, 1) := by decide +kernel
theorem dX2_has_17 : decode cX2_has 17 = .ok (.ireturn, 1) := by decide +kernel
theorem dX2_distance_0 : decode cX2_distance 0 = .ok (.aload_n 0, 1) := by decide +kernel
theorem dX2_distance_1 : decode cX2_distance 1 = .ok (.getfield 9, 3) := by decide +kernel
theorem dX2_distance_4 : decode cX2_distance 4 = .ok (.iload_n 1, 1) := by decide +kernel
theorem dX2_distance_5 : decode cX2_distance 5 = .ok (.iaload, 1) := by decide +kernel
theorem dX2_distance_6 : decode cX2_distance 6 = .ok (.aload_n 0, 1) := by decide +kernel
theorem dX2_distance_7 : decode cX2_distance 7 = .ok (.getfield 9, 3) := by decide +kernel
theorem dX2_distance_10 : decode cX2_distance 10 = .ok (.iload_n 2, 1) := by decide +kernel
theorem dX2_distance_11 : decode cX2_distance 11 = .ok (.iaload, 1) := by decide +kernel
theorem dX2_distance_12 : decode cX2_distance 12 = .ok (.isub, 1) := by decide +kernel
theorem dX2_distance_13 : decode cX2_distance 13 = .ok (.invokestatic 41, 3) := by decide +kernel
theorem dX2_distance_16 : decode cX2_distance 16 = .ok (.aload_n 0, 1) := by decide +kernel
theorem dX2_distance_17 : decode cX2_distance 17 = .ok (.getfield 15, 3) := by decide +kernel
theorem dX2_distance_20 : decode cX2_distance 20 = .ok (.iload_n 1, 1) := by decide +kernel
theorem dX2_distance_21 : decode cX2_distance 21 = .ok (.iaload, 1) := by decide +kernel
theorem dX2_distance_22 : decode cX2_distance 22 = .ok (.aload_n 0, 1) := by decide +kernel
theorem dX2_distance_23 : decode cX2_distance 23 = .ok (.getfield 15, 3) := by decide +kernel
theorem dX2_distance_26 : decode cX2_distance 26 = .ok (.iload_n 2, 1) := by decide +kernel
theorem dX2_distance_27 : decode cX2_distance 27 = .ok (.iaload, 1) := by decide +kernel
theorem dX2_distance_28 : decode cX2_distance 28 = .ok (.isub, 1) := by decide +kernel
theorem dX2_distance_29 : decode cX2_distance 29 = .ok (.invokestatic 41, 3) := by decide +kernel
theorem dX2_distance_32 : decode cX2_distance 32 = .ok (.iadd, 1) := by decide +kernel
theorem dX2_distance_33 : decode cX2_distance 33 = .ok (.ireturn, 1) := by decide +kernel
theorem dX2_degree_0 : decode cX2_degree 0 = .ok (.aload_n 0, 1) := by decide +kernel
theorem dX2_degree_1 : decode cX2_degree 1 = .ok (.getfield 21, 3) := by decide +kernel
theorem dX2_degree_4 : decode cX2_degree 4 = .ok (.iload_n 1, 1) := by decide +kernel
theorem dX2_degree_5 : decode cX2_degree 5 = .ok (.iaload, 1) := by decide +kernel
theorem dX2_degree_6 : decode cX2_degree 6 = .ok (.ireturn, 1) := by decide +kernel
theorem dX2_neighbour_0 : decode cX2_neighbour 0 = .ok (.aload_n 0, 1) := by decide +kernel
theorem dX2_neighbour_1 : decode cX2_neighbour 1 = .ok (.getfield 18, 3) := by decide +kernel
theorem dX2_neighbour_4 : decode cX2_neighbour 4 = .ok (.iload_n 1, 1) := by decide +kernel
theorem dX2_neighbour_5 : decode cX2_neighbour 5 = .ok (.iconst 4, 1) := by decide +kernel
theorem dX2_neighbour_6 : decode cX2_neighbour 6 = .ok (.imul, 1) := by decide +kernel
theorem dX2_neighbour_7 : decode cX2_neighbour 7 = .ok (.iload_n 2, 1) := by decide +kernel
theorem dX2_neighbour_8 : decode cX2_neighbour 8 = .ok (.iadd, 1) := by decide +kernel
theorem dX2_neighbour_9 : decode cX2_neighbour 9 = .ok (.iaload, 1) := by decide +kernel
theorem dX2_neighbour_10 : decode cX2_neighbour 10 = .ok (.ireturn, 1) := by decide +kernel
theorem dX2_room_0 : decode cX2_room 0 = .ok (.bipush 54, 2) := by decide +kernel
theorem dX2_room_2 : decode cX2_room 2 = .ok (.istore 4, 2) := by decide +kernel
theorem dX2_room_4 : decode cX2_room 4 = .ok (.iconst 0, 1) := by decide +kernel
theorem dX2_room_5 : decode cX2_room 5 = .ok (.istore 5, 2) := by decide +kernel
theorem dX2_room_7 : decode cX2_room 7 = .ok (.iload 5, 2) := by decide +kernel
theorem dX2_room_9 : decode cX2_room 9 = .ok (.aload_n 0, 1) := by decide +kernel
theorem dX2_room_10 : decode cX2_room 10 = .ok (.getfield 21, 3) := by decide +kernel
theorem dX2_room_13 : decode cX2_room 13 = .ok (.iload_n 1, 1) := by decide +kernel
theorem dX2_room_14 : decode cX2_room 14 = .ok (.iaload, 1) := by decide +kernel
theorem dX2_room_15 : decode cX2_room 15 = .ok (.if_icmp .ge 39, 3) := by decide +kernel
theorem dX2_room_18 : decode cX2_room 18 = .ok (.aload_n 0, 1) := by decide +kernel
theorem dX2_room_19 : decode cX2_room 19 = .ok (.getfield 18, 3) := by decide +kernel
theorem dX2_room_22 : decode cX2_room 22 = .ok (.iload_n 1, 1) := by decide +kernel
theorem dX2_room_23 : decode cX2_room 23 = .ok (.iconst 4, 1) := by decide +kernel
theorem dX2_room_24 : decode cX2_room 24 = .ok (.imul, 1) := by decide +kernel
theorem dX2_room_25 : decode cX2_room 25 = .ok (.iload 5, 2) := by decide +kernel
theorem dX2_room_27 : decode cX2_room 27 = .ok (.iadd, 1) := by decide +kernel
theorem dX2_room_28 : decode cX2_room 28 = .ok (.iaload, 1) := by decide +kernel
theorem dX2_room_29 : decode cX2_room 29 = .ok (.istore 6, 2) := by decide +kernel
theorem dX2_room_31 : decode cX2_room 31 = .ok (.iload 4, 2) := by decide +kernel
theorem dX2_room_33 : decode cX2_room 33 = .ok (.iload_n 3, 1) := by decide +kernel
theorem dX2_room_34 : decode cX2_room 34 = .ok (.aload_n 2, 1) := by decide +kernel
theorem dX2_room_35 : decode cX2_room 35 = .ok (.iload 6, 2) := by decide +kernel
theorem dX2_room_37 : decode cX2_room 37 = .ok (.iaload, 1) := by decide +kernel
theorem dX2_room_38 : decode cX2_room 38 = .ok (.iadd, 1) := by decide +kernel
theorem dX2_room_39 : decode cX2_room 39 = .ok (.aload_n 2, 1) := by decide +kernel
theorem dX2_room_40 : decode cX2_room 40 = .ok (.iload_n 1, 1) := by decide +kernel
theorem dX2_room_41 : decode cX2_room 41 = .ok (.iaload, 1) := by decide +kernel
theorem dX2_room_42 : decode cX2_room 42 = .ok (.isub, 1) := by decide +kernel
theorem dX2_room_43 : decode cX2_room 43 = .ok (.invokestatic 24, 3) := by decide +kernel
theorem dX2_room_46 : decode cX2_room 46 = .ok (.istore 4, 2) := by decide +kernel
theorem dX2_room_48 : decode cX2_room 48 = .ok (.iinc 5 1, 3) := by decide +kernel
theorem dX2_room_51 : decode cX2_room 51 = .ok (.goto (-44), 3) := by decide +kernel
theorem dX2_room_54 : decode cX2_room 54 = .ok (.iload 4, 2) := by decide +kernel
theorem dX2_room_56 : decode cX2_room 56 = .ok (.ireturn, 1) := by decide +kernel
theorem dX3_init_0 : decode cX3_init 0 = .ok (.aload_n 0, 1) := by decide +kernel
theorem dX3_init_1 : decode cX3_init 1 = .ok (.invokespecial 3, 3) := by decide +kernel
theorem dX3_init_4 : decode cX3_init 4 = .ok (.aload_n 0, 1) := by decide +kernel
theorem dX3_init_5 : decode cX3_init 5 = .ok (.bipush 9, 2) := by decide +kernel
theorem dX3_init_7 : decode cX3_init 7 = .ok (.newarray .int, 2) := by decide +kernel
theorem dX3_init_9 : decode cX3_init 9 = .ok (.putfield 11, 3) := by decide +kernel
theorem dX3_init_12 : decode cX3_init 12 = .ok (.return_, 1) := by decide +kernel
theorem dX3_split_0 : decode cX3_split 0 = .ok (.lload_n 1, 1) := by decide +kernel
theorem dX3_split_1 : decode cX3_split 1 = .ok (.lconst 0, 1) := by decide +kernel
theorem dX3_split_2 : decode cX3_split 2 = .ok (.lcmp, 1) := by decide +kernel
theorem dX3_split_3 : decode cX3_split 3 = .ok (.ifCond .lt 15, 3) := by decide +kernel
theorem dX3_split_6 : decode cX3_split 6 = .ok (.iload_n 3, 1) := by decide +kernel
theorem dX3_split_7 : decode cX3_split 7 = .ok (.bipush 9, 2) := by decide +kernel
theorem dX3_split_9 : decode cX3_split 9 = .ok (.if_icmp .gt 9, 3) := by decide +kernel
theorem dX3_split_12 : decode cX3_split 12 = .ok (.iload 4, 2) := by decide +kernel
theorem dX3_split_14 : decode cX3_split 14 = .ok (.iconst 1, 1) := by decide +kernel
theorem dX3_split_15 : decode cX3_split 15 = .ok (.if_icmp .ge 5, 3) := by decide +kernel
theorem dX3_split_18 : decode cX3_split 18 = .ok (.iconst 0, 1) := by decide +kernel
theorem dX3_split_19 : decode cX3_split 19 = .ok (.ireturn, 1) := by decide +kernel
theorem dX3_split_20 : decode cX3_split 20 = .ok (.lload_n 1, 1) := by decide +kernel
theorem dX3_split_21 : decode cX3_split 21 = .ok (.lstore 5, 2) := by decide +kernel
theorem dX3_split_23 : decode cX3_split 23 = .ok (.iload_n 3, 1) := by decide +kernel
theorem dX3_split_24 : decode cX3_split 24 = .ok (.iconst 1, 1) := by decide +kernel
theorem dX3_split_25 : decode cX3_split 25 = .ok (.isub, 1) := by decide +kernel
theorem dX3_split_26 : decode cX3_split 26 = .ok (.istore 7, 2) := by decide +kernel
theorem dX3_split_28 : decode cX3_split 28 = .ok (.iload 7, 2) := by decide +kernel
theorem dX3_split_30 : decode cX3_split 30 = .ok (.ifCond .lt 31, 3) := by decide +kernel
theorem dX3_split_33 : decode cX3_split 33 = .ok (.aload_n 0, 1) := by decide +kernel
theorem dX3_split_34 : decode cX3_split 34 = .ok (.getfield 11, 3) := by decide +kernel
theorem dX3_split_37 : decode cX3_split 37 = .ok (.iload 7, 2) := by decide +kernel
theorem dX3_split_39 : decode cX3_split 39 = .ok (.lload 5, 2) := by decide +kernel
theorem dX3_split_41 : decode cX3_split 41 = .ok (.iload 4, 2) := by decide +kernel
theorem dX3_split_43 : decode cX3_split 43 = .ok (.i2l, 1) := by decide +kernel
theorem dX3_split_44 : decode cX3_split 44 = .ok (.lrem, 1) := by decide +kernel
theorem dX3_split_45 : decode cX3_split 45 = .ok (.l2i, 1) := by decide +kernel
theorem dX3_split_46 : decode cX3_split 46 = .ok (.iastore, 1) := by decide +kernel
theorem dX3_split_47 : decode cX3_split 47 = .ok (.lload 5, 2) := by decide +kernel
theorem dX3_split_49 : decode cX3_split 49 = .ok (.iload 4, 2) := by decide +kernel
theorem dX3_split_51 : decode cX3_split 51 = .ok (.i2l, 1) := by decide +kernel
theorem dX3_split_52 : decode cX3_split 52 = .ok (.ldiv, 1) := by decide +kernel
theorem dX3_split_53 : decode cX3_split 53 = .ok (.lstore 5, 2) := by decide +kernel
theorem dX3_split_55 : decode cX3_split 55 = .ok (.iinc 7 (-1), 3) := by decide +kernel
theorem dX3_split_58 : decode cX3_split 58 = .ok (.goto (-30), 3) := by decide +kernel
theorem dX3_split_61 : decode cX3_split 61 = .ok (.aload_n 0, 1) := by decide +kernel
theorem dX3_split_62 : decode cX3_split 62 = .ok (.iload_n 3, 1) := by decide +kernel
theorem dX3_split_63 : decode cX3_split 63 = .ok (.putfield 15, 3) := by decide +kernel
theorem dX3_split_66 : decode cX3_split 66 = .ok (.lload 5, 2) := by decide +kernel
theorem dX3_split_68 : decode cX3_split 68 = .ok (.lconst 0, 1) := by decide +kernel
theorem dX3_split_69 : decode cX3_split 69 = .ok (.lcmp, 1) := by decide +kernel
theorem dX3_split_70 : decode cX3_split 70 = .ok (.ifCond .ne 7, 3) := by decide +kernel
theorem dX3_split_73 : decode cX3_split 73 = .ok (.iconst 1, 1) := by decide +kernel
theorem dX3_split_74 : decode cX3_split 74 = .ok (.goto 4, 3) := by decide +kernel
theorem dX3_split_77 : decode cX3_split 77 = .ok (.iconst 0, 1) := by decide +kernel
theorem dX3_split_78 : decode cX3_split 78 = .ok (.ireturn, 1) := by decide +kernel
theorem dX3_count_0 : decode cX3_count 0 = .ok (.aload_n 0, 1) := by decide +kernel
theorem dX3_count_1 : decode cX3_count 1 = .ok (.getfield 15, 3) := by decide +kernel
theorem dX3_count_4 : decode cX3_count 4 = .ok (.ireturn, 1) := by decide +kernel
theorem dX3_get_0 : decode cX3_get 0 = .ok (.iload_n 1, 1) := by decide +kernel
theorem dX3_get_1 : decode cX3_get 1 = .ok (.ifCond .lt 20, 3) := by decide +kernel
theorem dX3_get_4 : decode cX3_get 4 = .ok (.iload_n 1, 1) := by decide +kernel
theorem dX3_get_5 : decode cX3_get 5 = .ok (.aload_n 0, 1) := by decide +kernel
theorem dX3_get_6 : decode cX3_get 6 = .ok (.getfield 15, 3) := by decide +kernel
theorem dX3_get_9 : decode cX3_get 9 = .ok (.if_icmp .ge 12, 3) := by decide +kernel
theorem dX3_get_12 : decode cX3_get 12 = .ok (.aload_n 0, 1) := by decide +kernel
theorem dX3_get_13 : decode cX3_get 13 = .ok (.getfield 11, 3) := by decide +kernel
theorem dX3_get_16 : decode cX3_get 16 = .ok (.iload_n 1, 1) := by decide +kernel
theorem dX3_get_17 : decode cX3_get 17 = .ok (.iaload, 1) := by decide +kernel
theorem dX3_get_18 : decode cX3_get 18 = .ok (.goto 5, 3) := by decide +kernel
theorem dX3_get_21 : decode cX3_get 21 = .ok (.bipush (-9), 2) := by decide +kernel
theorem dX3_get_23 : decode cX3_get 23 = .ok (.ireturn, 1) := by decide +kernel
set_option maxRecDepth 20000 in
theorem ggX4_init_X0_init : GoodIn wsX4_init wsX0_init := goodIn_r _ [9, 10, 2, 3, 11, 12, 13, 14, 15, 19, 20, 21, 22, 23, 24, 25, 26] (by decide +kernel) (by decide +kernel)
set_option maxRecDepth 20000 in
theorem gX4_init_X0_init_n17 : GoodIn wsX4_init (wsX0_init) := ggX4_init_X0_init
theorem dX4_init_0 : decode cX4_init 0 = .ok (.aload_n 0, 1) := by decide +kernel
theorem dX4_init_1 : decode cX4_init 1 = .ok (.invokespecial 3, 3) := by decide +kernel
theorem dX4_init_4 : decode cX4_init 4 = .ok (.aload_n 0, 1) := by decide +kernel
theorem dX4_init_5 : decode cX4_init 5 = .ok (.bipush 14, 2) := by decide +kernel
theorem dX4_init_7 : decode cX4_init 7 = .ok (.anewarray 9, 3) := by decide +kernel
theorem dX4_init_10 : decode cX4_init 10 = .ok (.putfield 11, 3) := by decide +kernel
theorem dX4_init_13 : decode cX4_init 13 = .ok (.iconst 0, 1) := by decide +kernel
theorem dX4_init_14 : decode cX4_init 14 = .ok (.istore_n 1, 1) := by decide +kernel
theorem dX4_init_15 : decode cX4_init 15 = .ok (.iload_n 1, 1) := by decide +kernel
theorem dX4_init_16 : decode cX4_init 16 = .ok (.bipush 14, 2) := by decide +kernel
theorem dX4_init_18 : decode cX4_init 18 = .ok (.if_icmp .ge 22, 3) := by decide +kernel
theorem dX4_init_21 : decode cX4_init 21 = .ok (.aload_n 0, 1) := by decide +kernel
theorem dX4_init_22 : decode cX4_init 22 = .ok (.getfield 11, 3) := by decide +kernel
theorem dX4_init_25 : decode cX4_init 25 = .ok (.iload_n 1, 1) := by decide +kernel
theorem dX4_init_26 : decode cX4_init 26 = .ok (.new 9, 3) := by decide +kernel
theorem dX4_init_29 : decode cX4_init 29 = .ok (.dup, 1) := by decide +kernel
theorem dX4_init_30 : decode cX4_init 30 = .ok (.invokespecial 17, 3) := by decide +kernel
theorem dX4_init_33 : decode cX4_init 33 = .ok (.aastore, 1) := by decide +kernel
theorem dX4_init_34 : decode cX4_init 34 = .ok (.iinc 1 1, 3) := by decide +kernel
theorem dX4_init_37 : decode cX4_init 37 = .ok (.goto (-22), 3) := by decide +kernel
theorem dX4_init_40 : decode cX4_init 40 = .ok (.return_, 1) := by decide +kernel
set_option maxRecDepth 20000 in
theorem ggX4_remember_X0_become : GoodIn wsX4_remember wsX0_become := goodIn_r _ [8, 9, 10, 11, 12, 13, 14, 15, 16, 17, 18, 19, 20, 24, 25, 26, 27, 28, 29, 30, 31] (by decide +kernel) (by decide +kernel)
set_option maxRecDepth 20000 in
theorem gX4_remember_X0_become : GoodIn wsX4_remember (wsV RX4 25 RX0 yX0_become wsX0_become) := goodIn_app (goodIn_of _ (by decide +kernel)) ggX4_remember_X0_become
theorem dX4_remember_0 : decode cX4_remember 0 = .ok (.aload_n 0, 1) := by decide +kernel
theorem dX4_remember_1 : decode cX4_remember 1 = .ok (.getfield 18, 3) := by decide +kernel
theorem dX4_remember_4 : decode cX4_remember 4 = .ok (.bipush 14, 2) := by decide +kernel
theorem dX4_remember_6 : decode cX4_remember 6 = .ok (.if_icmp .ne 26, 3) := by decide +kernel
theorem dX4_remember_9 : decode cX4_remember 9 = .ok (.aload_n 0, 1) := by decide +kernel
theorem dX4_remember_10 : decode cX4_remember 10 = .ok (.aload_n 0, 1) := by decide +kernel
theorem dX4_remember_11 : decode cX4_remember 11 = .ok (.getfield 22, 3) := by decide +kernel
theorem dX4_remember_14 : decode cX4_remember 14 = .ok (.iconst 1, 1) := by decide +kernel
theorem dX4_remember_15 : decode cX4_remember 15 = .ok (.iadd, 1) := by decide +kernel
theorem dX4_remember_16 : decode cX4_remember 16 = .ok (.bipush 14, 2) := by decide +kernel
theorem dX4_remember_18 : decode cX4_remember 18 = .ok (.irem, 1) := by decide +kernel
theorem dX4_remember_19 : decode cX4_remember 19 = .ok (.putfield 22, 3) := by decide +kernel
theorem dX4_remember_22 : decode cX4_remember 22 = .ok (.aload_n 0, 1) := by decide +kernel
theorem dX4_remember_23 : decode cX4_remember 23 = .ok (.dup, 1) := by decide +kernel
theorem dX4_remember_24 : decode cX4_remember 24 = .ok (.getfield 18, 3) := by decide +kernel
theorem dX4_remember_27 : decode cX4_remember 27 = .ok (.iconst 1, 1) := by decide +kernel
theorem dX4_remember_28 : decode cX4_remember 28 = .ok (.isub, 1) := by decide +kernel
theorem dX4_remember_29 : decode cX4_remember 29 = .ok (.putfield 18, 3) := by decide +kernel
theorem dX4_remember_32 : decode cX4_remember 32 = .ok (.aload_n 0, 1) := by decide +kernel
theorem dX4_remember_33 : decode cX4_remember 33 = .ok (.getfield 11, 3) := by decide +kernel
theorem dX4_remember_36 : decode cX4_remember 36 = .ok (.aload_n 0, 1) := by decide +kernel
theorem dX4_remember_37 : decode cX4_remember 37 = .ok (.getfield 22, 3) := by decide +kernel
theorem dX4_remember_40 : decode cX4_remember 40 = .ok (.aload_n 0, 1) := by decide +kernel
theorem dX4_remember_41 : decode cX4_remember 41 = .ok (.getfield 18, 3) := by decide +kernel
theorem dX4_remember_44 : decode cX4_remember 44 = .ok (.iadd, 1) := by decide +kernel
theorem dX4_remember_45 : decode cX4_remember 45 = .ok (.bipush 14, 2) := by decide +kernel
theorem dX4_remember_47 : decode cX4_remember 47 = .ok (.irem, 1) := by decide +kernel
theorem dX4_remember_48 : decode cX4_remember 48 = .ok (.aaload, 1) := by decide +kernel
theorem dX4_remember_49 : decode cX4_remember 49 = .ok (.aload_n 1, 1) := by decide +kernel
theorem dX4_remember_50 : decode cX4_remember 50 = .ok (.invokevirtual 25, 3) := by decide +kernel
theorem dX4_remember_53 : decode cX4_remember 53 = .ok (.aload_n 0, 1) := by decide +kernel
theorem dX4_remember_54 : decode cX4_remember 54 = .ok (.dup, 1) := by decide +kernel
theorem dX4_remember_55 : decode cX4_remember 55 = .ok (.getfield 18, 3) := by decide +kernel
theorem dX4_remember_58 : decode cX4_remember 58 = .ok (.iconst 1, 1) := by decide +kernel
theorem dX4_remember_59 : decode cX4_remember 59 = .ok (.iadd, 1) := by decide +kernel
theorem dX4_remember_60 : decode cX4_remember 60 = .ok (.putfield 18, 3) := by decide +kernel
theorem dX4_remember_63 : decode cX4_remember 63 = .ok (.return_, 1) := by decide +kernel
theorem dX4_isEmpty_0 : decode cX4_isEmpty 0 = .ok (.aload_n 0, 1) := by decide +kernel
theorem dX4_isEmpty_1 : decode cX4_isEmpty 1 = .ok (.getfield 18, 3) := by decide +kernel
theorem dX4_isEmpty_4 : decode cX4_isEmpty 4 = .ok (.ifCond .ne 7, 3) := by decide +kernel
theorem dX4_isEmpty_7 : decode cX4_isEmpty 7 = .ok (.iconst 1, 1) := by decide +kernel
theorem dX4_isEmpty_8 : decode cX4_isEmpty 8 = .ok (.goto 4, 3) := by decide +kernel
theorem dX4_isEmpty_11 : decode cX4_isEmpty 11 = .ok (.iconst 0, 1) := by decide +kernel
theorem dX4_isEmpty_12 : decode cX4_isEmpty 12 = .ok (.ireturn, 1) := by decide +kernel
set_option maxRecDepth 20000 in
theorem ggX4_takeBack_X0_become : GoodIn wsX4_takeBack wsX0_become := goodIn_r _ [8, 9, 10, 11, 12, 13, 14, 15, 16, 17, 18, 19, 20, 24, 25, 26, 27, 28, 29, 30, 31] (by decide +kernel) (by decide +kernel)
set_option maxRecDepth 20000 in
theorem gX4_takeBack_X0_become : GoodIn wsX4_takeBack (wsV RX4 25 RX0 yX0_become wsX0_become) := goodIn_app (goodIn_of _ (by decide +kernel)) ggX4_takeBack_X0_become
theorem dX4_takeBack_0 : decode cX4_takeBack 0 = .ok (.aload_n 0, 1) := by decide +kernel
theorem dX4_takeBack_1 : decode cX4_takeBack 1 = .ok (.getfield 18, 3) := by decide +kernel
theorem dX4_takeBack_4 : decode cX4_takeBack 4 = .ok (.ifCond .le 34, 3) := by decide +kernel
theorem dX4_takeBack_7 : decode cX4_takeBack 7 = .ok (.aload_n 0, 1) := by decide +kernel
theorem dX4_takeBack_8 : decode cX4_takeBack 8 = .ok (.dup, 1) := by decide +kernel
theorem dX4_takeBack_9 : decode cX4_takeBack 9 = .ok (.getfield 18, 3) := by decide +kernel
theorem dX4_takeBack_12 : decode cX4_takeBack 12 = .ok (.iconst 1, 1) := by decide +kernel
theorem dX4_takeBack_13 : decode cX4_takeBack 13 = .ok (.isub, 1) := by decide +kernel
theorem dX4_takeBack_14 : decode cX4_takeBack 14 = .ok (.putfield 18, 3) := by decide +kernel
theorem dX4_takeBack_17 : decode cX4_takeBack 17 = .ok (.aload_n 1, 1) := by decide +kernel
theorem dX4_takeBack_18 : decode cX4_takeBack 18 = .ok (.aload_n 0, 1) := by decide +kernel
theorem dX4_takeBack_19 : decode cX4_takeBack 19 = .ok (.getfield 11, 3) := by decide +kernel
theorem dX4_takeBack_22 : decode cX4_takeBack 22 = .ok (.aload_n 0, 1) := by decide +kernel
theorem dX4_takeBack_23 : decode cX4_takeBack 23 = .ok (.getfield 22, 3) := by decide +kernel
theorem dX4_takeBack_26 : decode cX4_takeBack 26 = .ok (.aload_n 0, 1) := by decide +kernel
theorem dX4_takeBack_27 : decode cX4_takeBack 27 = .ok (.getfield 18, 3) := by decide +kernel
theorem dX4_takeBack_30 : decode cX4_takeBack 30 = .ok (.iadd, 1) := by decide +kernel
theorem dX4_takeBack_31 : decode cX4_takeBack 31 = .ok (.bipush 14, 2) := by decide +kernel
theorem dX4_takeBack_33 : decode cX4_takeBack 33 = .ok (.irem, 1) := by decide +kernel
theorem dX4_takeBack_34 : decode cX4_takeBack 34 = .ok (.aaload, 1) := by decide +kernel
theorem dX4_takeBack_35 : decode cX4_takeBack 35 = .ok (.invokevirtual 25, 3) := by decide +kernel
theorem dX4_takeBack_38 : decode cX4_takeBack 38 = .ok (.aload_n 0, 1) := by decide +kernel
theorem dX4_takeBack_39 : decode cX4_takeBack 39 = .ok (.getfield 18, 3) := by decide +kernel
theorem dX4_takeBack_42 : decode cX4_takeBack 42 = .ok (.ireturn, 1) := by decide +kernel
theorem dX4_forget_0 : decode cX4_forget 0 = .ok (.aload_n 0, 1) := by decide +kernel
theorem dX4_forget_1 : decode cX4_forget 1 = .ok (.iconst 0, 1) := by decide +kernel
theorem dX4_forget_2 : decode cX4_forget 2 = .ok (.putfield 22, 3) := by decide +kernel
theorem dX4_forget_5 : decode cX4_forget 5 = .ok (.aload_n 0, 1) := by decide +kernel
theorem dX4_forget_6 : decode cX4_forget 6 = .ok (.iconst 0, 1) := by decide +kernel
theorem dX4_forget_7 : decode cX4_forget 7 = .ok (.putfield 18, 3) := by decide +kernel
theorem dX4_forget_10 : decode cX4_forget 10 = .ok (.return_, 1) := by decide +kernel
set_option maxRecDepth 20000 in
theorem ggX5_firstFailure_X3_count : GoodIn wsX5_firstFailure wsX3_count := goodIn_r _ [5, 6, 103, 104] (by decide +kernel) (by decide +kernel)
set_option maxRecDepth 20000 in
theorem gX5_firstFailure_X3_count : GoodIn wsX5_firstFailure (wsV RX5 9 RX3 yX3_count wsX3_count) := goodIn_app (goodIn_of _ (by decide +kernel)) ggX5_firstFailure_X3_count
set_option maxRecDepth 20000 in
theorem ggX5_firstFailure_X3_get : GoodIn wsX5_firstFailure wsX3_get := goodIn_r _ [10, 6, 11, 103, 104] (by decide +kernel) (by decide +kernel)
set_option maxRecDepth 20000 in
theorem gX5_firstFailure_X3_get : GoodIn wsX5_firstFailure (wsV RX5 15 RX3 yX3_get wsX3_get) := goodIn_app (goodIn_of _ (by decide +kernel)) ggX5_firstFailure_X3_get
set_option maxRecDepth 20000 in
theorem ggX5_firstFailure_X5_succeeds : GoodIn wsX5_firstFailure wsX5_succeeds := goodIn_r _ [15, 16, 17, 18, 19, 20, 21, 22, 23, 24, 25, 26, 27, 28, 29, 30, 31, 32, 33, 34, 35, 36, 37, 38, 39, 40, 41, 42, 43, 44, 45, 46, 47, 48, 49, 50, 51, 52, 53, 54, 55, 56, 57, 58, 59, 60, 61, 62, 63, 64, 65, 66, 67, 68, 69, 70, 71, 72, 73, 74, 75, 76, 77, 78, 79, 80, 81, 82, 83, 84, 85, 86, 14, 87, 88, 89, 90, 91, 92, 93, 94, 95, 96, 97, 98, 99, 100, 101, 102, 105, 106, 107, 108, 109, 110, 111, 112, 113, 114, 115, 116, 117] (by decide +kernel) (by decide +kernel)
set_option maxRecDepth 20000 in
theorem gX5_firstFailure_X5_succeeds : GoodIn wsX5_firstFailure (va_wsS RX5 19 yX5_succeeds wsX5_succeeds) := goodIn_app (goodIn_of _ (by decide +kernel)) ggX5_firstFailure_X5_succeeds
theorem dX5_firstFailure_0 : decode cX5_firstFailure 0 = .ok (.iconst 0, 1) := by decide +kernel
theorem dX5_firstFailure_1 : decode cX5_firstFailure 1 = .ok (.istore_n 3, 1) := by decide +kernel
theorem dX5_firstFailure_2 : decode cX5_firstFailure 2 = .ok (.iload_n 3, 1) := by decide +kernel
theorem dX5_firstFailure_3 : decode cX5_firstFailure 3 = .ok (.aload_n 2, 1) := by decide +kernel
theorem dX5_firstFailure_4 : decode cX5_firstFailure 4 = .ok (.invokevirtual 9, 3) := by decide +kernel
theorem dX5_firstFailure_7 : decode cX5_firstFailure 7 = .ok (.if_icmp .ge 24, 3) := by decide +kernel
theorem dX5_firstFailure_10 : decode cX5_firstFailure 10 = .ok (.aload_n 0, 1) := by decide +kernel
theorem dX5_firstFailure_11 : decode cX5_firstFailure 11 = .ok (.aload_n 1, 1) := by decide +kernel
theorem dX5_firstFailure_12 : decode cX5_firstFailure 12 = .ok (.aload_n 2, 1) := by decide +kernel
theorem dX5_firstFailure_13 : decode cX5_firstFailure 13 = .ok (.iload_n 3, 1) := by decide +kernel
theorem dX5_firstFailure_14 : decode cX5_firstFailure 14 = .ok (.invokevirtual 15, 3) := by decide +kernel
theorem dX5_firstFailure_17 : decode cX5_firstFailure 17 = .ok (.invokestatic 19, 3) := by decide +kernel
theorem dX5_firstFailure_20 : decode cX5_firstFailure 20 = .ok (.ifCond .ne 5, 3) := by decide +kernel
theorem dX5_firstFailure_23 : decode cX5_firstFailure 23 = .ok (.iload_n 3, 1) := by decide +kernel
theorem dX5_firstFailure_24 : decode cX5_firstFailure 24 = .ok (.ireturn, 1) := by decide +kernel
theorem dX5_firstFailure_25 : decode cX5_firstFailure 25 = .ok (.iinc 3 1, 3) := by decide +kernel
theorem dX5_firstFailure_28 : decode cX5_firstFailure 28 = .ok (.goto (-26), 3) := by decide +kernel

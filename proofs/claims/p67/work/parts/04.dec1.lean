set_option maxRecDepth 20000 in
theorem ggX0_init_X3_init : GoodIn wsX0_init wsX3_init := goodIn_r _ [9, 10, 2, 3, 11, 12, 13, 14, 15, 16, 17, 18, 19, 20, 21, 22, 23, 24, 25, 26, 27, 28, 29, 30, 31, 32, 33, 34, 35, 36, 37, 38, 39, 40, 41, 42, 50, 51, 52, 53, 54, 46, 47, 48, 49, 55, 56, 57, 58, 59, 60, 61, 62, 63, 64, 65, 66] (by decide +kernel) (by decide +kernel)
set_option maxRecDepth 20000 in
theorem gX0_init_X3_init_n17 : GoodIn wsX0_init (wsX3_init) := ggX0_init_X3_init
theorem dX0_init_0 : decode cX0_init 0 = .ok (.aload_n 0, 1) := by decide +kernel
theorem dX0_init_1 : decode cX0_init 1 = .ok (.invokespecial 3, 3) := by decide +kernel
theorem dX0_init_4 : decode cX0_init 4 = .ok (.aload_n 0, 1) := by decide +kernel
theorem dX0_init_5 : decode cX0_init 5 = .ok (.bipush 8, 2) := by decide +kernel
theorem dX0_init_7 : decode cX0_init 7 = .ok (.anewarray 9, 3) := by decide +kernel
theorem dX0_init_10 : decode cX0_init 10 = .ok (.putfield 11, 3) := by decide +kernel
theorem dX0_init_13 : decode cX0_init 13 = .ok (.iconst 0, 1) := by decide +kernel
theorem dX0_init_14 : decode cX0_init 14 = .ok (.istore_n 1, 1) := by decide +kernel
theorem dX0_init_15 : decode cX0_init 15 = .ok (.iload_n 1, 1) := by decide +kernel
theorem dX0_init_16 : decode cX0_init 16 = .ok (.bipush 8, 2) := by decide +kernel
theorem dX0_init_18 : decode cX0_init 18 = .ok (.if_icmp .ge 22, 3) := by decide +kernel
theorem dX0_init_21 : decode cX0_init 21 = .ok (.aload_n 0, 1) := by decide +kernel
theorem dX0_init_22 : decode cX0_init 22 = .ok (.getfield 11, 3) := by decide +kernel
theorem dX0_init_25 : decode cX0_init 25 = .ok (.iload_n 1, 1) := by decide +kernel
theorem dX0_init_26 : decode cX0_init 26 = .ok (.new 9, 3) := by decide +kernel
theorem dX0_init_29 : decode cX0_init 29 = .ok (.dup, 1) := by decide +kernel
theorem dX0_init_30 : decode cX0_init 30 = .ok (.invokespecial 17, 3) := by decide +kernel
theorem dX0_init_33 : decode cX0_init 33 = .ok (.aastore, 1) := by decide +kernel
theorem dX0_init_34 : decode cX0_init 34 = .ok (.iinc 1 1, 3) := by decide +kernel
theorem dX0_init_37 : decode cX0_init 37 = .ok (.goto (-22), 3) := by decide +kernel
theorem dX0_init_40 : decode cX0_init 40 = .ok (.return_, 1) := by decide +kernel
set_option maxRecDepth 20000 in
theorem ggX0_push_X3_copyFrom : GoodIn wsX0_push wsX3_copyFrom := goodIn_r _ [12, 13, 14, 15, 16, 17, 18, 19, 20, 21, 22, 23, 24, 25, 26, 27, 28, 29, 30, 31, 32, 33, 34, 35, 36, 37, 38, 39, 40, 41, 42, 43, 44, 45, 46, 47, 48, 49, 50, 51, 52, 53, 54, 58, 59, 60, 61, 62, 63, 64, 65, 66, 67, 68, 69, 70, 71, 72, 73, 74, 75, 76, 77, 78] (by decide +kernel) (by decide +kernel)
set_option maxRecDepth 20000 in
theorem gX0_push_X3_copyFrom : GoodIn wsX0_push (wsV RX0 22 RX3 yX3_copyFrom wsX3_copyFrom) := goodIn_app (goodIn_of _ (by decide +kernel)) ggX0_push_X3_copyFrom
theorem dX0_push_0 : decode cX0_push 0 = .ok (.aload_n 0, 1) := by decide +kernel
theorem dX0_push_1 : decode cX0_push 1 = .ok (.getfield 11, 3) := by decide +kernel
theorem dX0_push_4 : decode cX0_push 4 = .ok (.aload_n 0, 1) := by decide +kernel
theorem dX0_push_5 : decode cX0_push 5 = .ok (.getfield 18, 3) := by decide +kernel
theorem dX0_push_8 : decode cX0_push 8 = .ok (.aaload, 1) := by decide +kernel
theorem dX0_push_9 : decode cX0_push 9 = .ok (.aload_n 1, 1) := by decide +kernel
theorem dX0_push_10 : decode cX0_push 10 = .ok (.invokevirtual 22, 3) := by decide +kernel
theorem dX0_push_13 : decode cX0_push 13 = .ok (.aload_n 0, 1) := by decide +kernel
theorem dX0_push_14 : decode cX0_push 14 = .ok (.aload_n 0, 1) := by decide +kernel
theorem dX0_push_15 : decode cX0_push 15 = .ok (.getfield 18, 3) := by decide +kernel
theorem dX0_push_18 : decode cX0_push 18 = .ok (.iconst 1, 1) := by decide +kernel
theorem dX0_push_19 : decode cX0_push 19 = .ok (.iadd, 1) := by decide +kernel
theorem dX0_push_20 : decode cX0_push 20 = .ok (.bipush 8, 2) := by decide +kernel
theorem dX0_push_22 : decode cX0_push 22 = .ok (.irem, 1) := by decide +kernel
theorem dX0_push_23 : decode cX0_push 23 = .ok (.putfield 18, 3) := by decide +kernel
theorem dX0_push_26 : decode cX0_push 26 = .ok (.aload_n 0, 1) := by decide +kernel
theorem dX0_push_27 : decode cX0_push 27 = .ok (.bipush 8, 2) := by decide +kernel
theorem dX0_push_29 : decode cX0_push 29 = .ok (.aload_n 0, 1) := by decide +kernel
theorem dX0_push_30 : decode cX0_push 30 = .ok (.getfield 26, 3) := by decide +kernel
theorem dX0_push_33 : decode cX0_push 33 = .ok (.iconst 1, 1) := by decide +kernel
theorem dX0_push_34 : decode cX0_push 34 = .ok (.iadd, 1) := by decide +kernel
theorem dX0_push_35 : decode cX0_push 35 = .ok (.invokestatic 29, 3) := by decide +kernel
theorem dX0_push_38 : decode cX0_push 38 = .ok (.putfield 26, 3) := by decide +kernel
theorem dX0_push_41 : decode cX0_push 41 = .ok (.return_, 1) := by decide +kernel
set_option maxRecDepth 20000 in
theorem ggX0_pop_X3_copyFrom : GoodIn wsX0_pop wsX3_copyFrom := goodIn_r _ [8, 9, 10, 11, 12, 13, 14, 15, 16, 17, 18, 19, 20, 21, 22, 23, 24, 25, 26, 27, 28, 29, 30, 31, 32, 33, 34, 35, 36, 37, 38, 39, 40, 41, 42, 43, 44, 45, 46, 47, 48, 49, 50, 54, 55, 56, 57, 58, 59, 60, 61, 62, 63, 64, 65, 66, 67, 68, 69, 70, 71, 72, 73, 74] (by decide +kernel) (by decide +kernel)
set_option maxRecDepth 20000 in
theorem gX0_pop_X3_copyFrom : GoodIn wsX0_pop (wsV RX0 22 RX3 yX3_copyFrom wsX3_copyFrom) := goodIn_app (goodIn_of _ (by decide +kernel)) ggX0_pop_X3_copyFrom
theorem dX0_pop_0 : decode cX0_pop 0 = .ok (.aload_n 0, 1) := by decide +kernel
theorem dX0_pop_1 : decode cX0_pop 1 = .ok (.getfield 26, 3) := by decide +kernel
theorem dX0_pop_4 : decode cX0_pop 4 = .ok (.ifCond .le 42, 3) := by decide +kernel
theorem dX0_pop_7 : decode cX0_pop 7 = .ok (.aload_n 0, 1) := by decide +kernel
theorem dX0_pop_8 : decode cX0_pop 8 = .ok (.aload_n 0, 1) := by decide +kernel
theorem dX0_pop_9 : decode cX0_pop 9 = .ok (.getfield 18, 3) := by decide +kernel
theorem dX0_pop_12 : decode cX0_pop 12 = .ok (.bipush 8, 2) := by decide +kernel
theorem dX0_pop_14 : decode cX0_pop 14 = .ok (.iadd, 1) := by decide +kernel
theorem dX0_pop_15 : decode cX0_pop 15 = .ok (.iconst 1, 1) := by decide +kernel
theorem dX0_pop_16 : decode cX0_pop 16 = .ok (.isub, 1) := by decide +kernel
theorem dX0_pop_17 : decode cX0_pop 17 = .ok (.bipush 8, 2) := by decide +kernel
theorem dX0_pop_19 : decode cX0_pop 19 = .ok (.irem, 1) := by decide +kernel
theorem dX0_pop_20 : decode cX0_pop 20 = .ok (.putfield 18, 3) := by decide +kernel
theorem dX0_pop_23 : decode cX0_pop 23 = .ok (.aload_n 1, 1) := by decide +kernel
theorem dX0_pop_24 : decode cX0_pop 24 = .ok (.aload_n 0, 1) := by decide +kernel
theorem dX0_pop_25 : decode cX0_pop 25 = .ok (.getfield 11, 3) := by decide +kernel
theorem dX0_pop_28 : decode cX0_pop 28 = .ok (.aload_n 0, 1) := by decide +kernel
theorem dX0_pop_29 : decode cX0_pop 29 = .ok (.getfield 18, 3) := by decide +kernel
theorem dX0_pop_32 : decode cX0_pop 32 = .ok (.aaload, 1) := by decide +kernel
theorem dX0_pop_33 : decode cX0_pop 33 = .ok (.invokevirtual 22, 3) := by decide +kernel
theorem dX0_pop_36 : decode cX0_pop 36 = .ok (.aload_n 0, 1) := by decide +kernel
theorem dX0_pop_37 : decode cX0_pop 37 = .ok (.dup, 1) := by decide +kernel
theorem dX0_pop_38 : decode cX0_pop 38 = .ok (.getfield 26, 3) := by decide +kernel
theorem dX0_pop_41 : decode cX0_pop 41 = .ok (.iconst 1, 1) := by decide +kernel
theorem dX0_pop_42 : decode cX0_pop 42 = .ok (.isub, 1) := by decide +kernel
theorem dX0_pop_43 : decode cX0_pop 43 = .ok (.putfield 26, 3) := by decide +kernel
theorem dX0_pop_46 : decode cX0_pop 46 = .ok (.return_, 1) := by decide +kernel
theorem dX0_forget_0 : decode cX0_forget 0 = .ok (.aload_n 0, 1) := by decide +kernel
theorem dX0_forget_1 : decode cX0_forget 1 = .ok (.iconst 0, 1) := by decide +kernel
theorem dX0_forget_2 : decode cX0_forget 2 = .ok (.putfield 26, 3) := by decide +kernel
theorem dX0_forget_5 : decode cX0_forget 5 = .ok (.return_, 1) := by decide +kernel
theorem dX1_init_0 : decode cX1_init 0 = .ok (.aload_n 0, 1) := by decide +kernel
theorem dX1_init_1 : decode cX1_init 1 = .ok (.invokespecial 3, 3) := by decide +kernel
theorem dX1_init_4 : decode cX1_init 4 = .ok (.aload_n 0, 1) := by decide +kernel
theorem dX1_init_5 : decode cX1_init 5 = .ok (.sipush 600, 3) := by decide +kernel
theorem dX1_init_8 : decode cX1_init 8 = .ok (.newarray .int, 2) := by decide +kernel
theorem dX1_init_10 : decode cX1_init 10 = .ok (.putfield 9, 3) := by decide +kernel
theorem dX1_init_13 : decode cX1_init 13 = .ok (.return_, 1) := by decide +kernel
theorem dX1_put_0 : decode cX1_put 0 = .ok (.aload_n 0, 1) := by decide +kernel
theorem dX1_put_1 : decode cX1_put 1 = .ok (.getfield 15, 3) := by decide +kernel
theorem dX1_put_4 : decode cX1_put 4 = .ok (.sipush 600, 3) := by decide +kernel
theorem dX1_put_7 : decode cX1_put 7 = .ok (.if_icmp .ge 27, 3) := by decide +kernel
theorem dX1_put_10 : decode cX1_put 10 = .ok (.aload_n 0, 1) := by decide +kernel
theorem dX1_put_11 : decode cX1_put 11 = .ok (.getfield 9, 3) := by decide +kernel
theorem dX1_put_14 : decode cX1_put 14 = .ok (.aload_n 0, 1) := by decide +kernel
theorem dX1_put_15 : decode cX1_put 15 = .ok (.getfield 15, 3) := by decide +kernel
theorem dX1_put_18 : decode cX1_put 18 = .ok (.iload_n 1, 1) := by decide +kernel
theorem dX1_put_19 : decode cX1_put 19 = .ok (.sipush 255, 3) := by decide +kernel
theorem dX1_put_22 : decode cX1_put 22 = .ok (.iand, 1) := by decide +kernel
theorem dX1_put_23 : decode cX1_put 23 = .ok (.iastore, 1) := by decide +kernel
theorem dX1_put_24 : decode cX1_put 24 = .ok (.aload_n 0, 1) := by decide +kernel
theorem dX1_put_25 : decode cX1_put 25 = .ok (.dup, 1) := by decide +kernel
theorem dX1_put_26 : decode cX1_put 26 = .ok (.getfield 15, 3) := by decide +kernel
theorem dX1_put_29 : decode cX1_put 29 = .ok (.iconst 1, 1) := by decide +kernel
theorem dX1_put_30 : decode cX1_put 30 = .ok (.iadd, 1) := by decide +kernel
theorem dX1_put_31 : decode cX1_put 31 = .ok (.putfield 15, 3) := by decide +kernel
theorem dX1_put_34 : decode cX1_put 34 = .ok (.return_, 1) := by decide +kernel
set_option maxRecDepth 20000 in
theorem ggX1_putFour_X1_put : GoodIn wsX1_putFour wsX1_put := goodIn_r _ [5, 6, 7, 8, 9, 10, 11, 12] (by decide +kernel) (by decide +kernel)
set_option maxRecDepth 20000 in
theorem gX1_putFour_X1_put : GoodIn wsX1_putFour (wsV RX1 19 RX1 yX1_put wsX1_put) := goodIn_app (goodIn_of _ (by decide +kernel)) ggX1_putFour_X1_put
theorem dX1_putFour_0 : decode cX1_putFour 0 = .ok (.aload_n 0, 1) := by decide +kernel
theorem dX1_putFour_1 : decode cX1_putFour 1 = .ok (.iload_n 1, 1) := by decide +kernel
theorem dX1_putFour_2 : decode cX1_putFour 2 = .ok (.bipush 24, 2) := by decide +kernel
theorem dX1_putFour_4 : decode cX1_putFour 4 = .ok (.iushr, 1) := by decide +kernel
theorem dX1_putFour_5 : decode cX1_putFour 5 = .ok (.invokevirtual 19, 3) := by decide +kernel
theorem dX1_putFour_8 : decode cX1_putFour 8 = .ok (.aload_n 0, 1) := by decide +kernel
theorem dX1_putFour_9 : decode cX1_putFour 9 = .ok (.iload_n 1, 1) := by decide +kernel
theorem dX1_putFour_10 : decode cX1_putFour 10 = .ok (.bipush 16, 2) := by decide +kernel
theorem dX1_putFour_12 : decode cX1_putFour 12 = .ok (.iushr, 1) := by decide +kernel
theorem dX1_putFour_13 : decode cX1_putFour 13 = .ok (.invokevirtual 19, 3) := by decide +kernel
theorem dX1_putFour_16 : decode cX1_putFour 16 = .ok (.aload_n 0, 1) := by decide +kernel
theorem dX1_putFour_17 : decode cX1_putFour 17 = .ok (.iload_n 1, 1) := by decide +kernel
theorem dX1_putFour_18 : decode cX1_putFour 18 = .ok (.bipush 8, 2) := by decide +kernel
theorem dX1_putFour_20 : decode cX1_putFour 20 = .ok (.iushr, 1) := by decide +kernel
theorem dX1_putFour_21 : decode cX1_putFour 21 = .ok (.invokevirtual 19, 3) := by decide +kernel
theorem dX1_putFour_24 : decode cX1_putFour 24 = .ok (.aload_n 0, 1) := by decide +kernel
theorem dX1_putFour_25 : decode cX1_putFour 25 = .ok (.iload_n 1, 1) := by decide +kernel
theorem dX1_putFour_26 : decode cX1_putFour 26 = .ok (.invokevirtual 19, 3) := by decide +kernel
theorem dX1_putFour_29 : decode cX1_putFour 29 = .ok (.return_, 1) := by decide +kernel
theorem dX1_byteAt_0 : decode cX1_byteAt 0 = .ok (.iload_n 1, 1) := by decide +kernel
theorem dX1_byteAt_1 : decode cX1_byteAt 1 = .ok (.ifCond .lt 20, 3) := by decide +kernel
theorem dX1_byteAt_4 : decode cX1_byteAt 4 = .ok (.iload_n 1, 1) := by decide +kernel
theorem dX1_byteAt_5 : decode cX1_byteAt 5 = .ok (.aload_n 0, 1) := by decide +kernel
theorem dX1_byteAt_6 : decode cX1_byteAt 6 = .ok (.getfield 15, 3) := by decide +kernel
theorem dX1_byteAt_9 : decode cX1_byteAt 9 = .ok (.if_icmp .ge 12, 3) := by decide +kernel
theorem dX1_byteAt_12 : decode cX1_byteAt 12 = .ok (.aload_n 0, 1) := by decide +kernel
theorem dX1_byteAt_13 : decode cX1_byteAt 13 = .ok (.getfield 9, 3) := by decide +kernel
theorem dX1_byteAt_16 : decode cX1_byteAt 16 = .ok (.iload_n 1, 1) := by decide +kernel
theorem dX1_byteAt_17 : decode cX1_byteAt 17 = .ok (.iaload, 1) := by decide +kernel
theorem dX1_byteAt_18 : decode cX1_byteAt 18 = .ok (.goto 4, 3) := by decide +kernel
theorem dX1_byteAt_21 : decode cX1_byteAt 21 = .ok (.iconst (-1), 1) := by decide +kernel
theorem dX1_byteAt_22 : decode cX1_byteAt 22 = .ok (.ireturn, 1) := by decide +kernel
set_option maxRecDepth 20000 in
theorem ggX1_rewind_X1_advance : GoodIn wsX1_rewind wsX1_advance := goodIn_r _ [6, 1, 7, 8, 9, 10, 11, 12, 5, 13, 14, 15, 16, 17, 18, 19, 20, 21, 22, 23, 24, 25, 26, 27, 28, 29, 30, 31, 32, 33, 34, 35, 36] (by decide +kernel) (by decide +kernel)
set_option maxRecDepth 20000 in
theorem gX1_rewind_X1_advance : GoodIn wsX1_rewind (wsV RX1 26 RX1 yX1_advance wsX1_advance) := goodIn_app (goodIn_of _ (by decide +kernel)) ggX1_rewind_X1_advance
theorem dX1_rewind_0 : decode cX1_rewind 0 = .ok (.aload_n 0, 1) := by decide +kernel
theorem dX1_rewind_1 : decode cX1_rewind 1 = .ok (.iconst 0, 1) := by decide +kernel
theorem dX1_rewind_2 : decode cX1_rewind 2 = .ok (.putfield 23, 3) := by decide +kernel
theorem dX1_rewind_5 : decode cX1_rewind 5 = .ok (.aload_n 0, 1) := by decide +kernel
theorem dX1_rewind_6 : decode cX1_rewind 6 = .ok (.invokevirtual 26, 3) := by decide +kernel
theorem dX1_rewind_9 : decode cX1_rewind 9 = .ok (.return_, 1) := by decide +kernel
set_option maxRecDepth 20000 in
theorem ggX1_advance_X1_byteAt : GoodIn wsX1_advance wsX1_byteAt := goodIn_r _ [9, 3, 10, 28, 29, 30, 31, 32] (by decide +kernel) (by decide +kernel)
set_option maxRecDepth 20000 in
theorem gX1_advance_X1_byteAt : GoodIn wsX1_advance (wsV RX1 32 RX1 yX1_byteAt wsX1_byteAt) := goodIn_app (goodIn_of _ (by decide +kernel)) ggX1_advance_X1_byteAt
set_option maxRecDepth 20000 in
theorem ggX1_advance_X1_isBlank : GoodIn wsX1_advance wsX1_isBlank := goodIn_r _ [13] (by decide +kernel) (by decide +kernel)
set_option maxRecDepth 20000 in
theorem gX1_advance_X1_isBlank : GoodIn wsX1_advance (va_wsS RX1 36 yX1_isBlank wsX1_isBlank) := goodIn_app (goodIn_of _ (by decide +kernel)) ggX1_advance_X1_isBlank
set_option maxRecDepth 20000 in
theorem ggX1_advance_X1_isLetter : GoodIn wsX1_advance wsX1_isLetter := goodIn_r _ [16] (by decide +kernel) (by decide +kernel)
set_option maxRecDepth 20000 in
theorem gX1_advance_X1_isLetter : GoodIn wsX1_advance (va_wsS RX1 43 yX1_isLetter wsX1_isLetter) := goodIn_app (goodIn_of _ (by decide +kernel)) ggX1_advance_X1_isLetter
set_option maxRecDepth 20000 in
theorem ggX1_advance_X1_passLetters : GoodIn wsX1_advance wsX1_passLetters := goodIn_r _ [20, 1, 3, 5, 6, 7, 8, 9, 10, 14, 15, 16, 28, 29, 30, 31, 32] (by decide +kernel) (by decide +kernel)
set_option maxRecDepth 20000 in
theorem gX1_advance_X1_passLetters : GoodIn wsX1_advance (wsV RX1 46 RX1 yX1_passLetters wsX1_passLetters) := goodIn_app (goodIn_of _ (by decide +kernel)) ggX1_advance_X1_passLetters
set_option maxRecDepth 20000 in
theorem ggX1_advance_X1_isDigit : GoodIn wsX1_advance wsX1_isDigit := goodIn_r _ [23] (by decide +kernel) (by decide +kernel)
set_option maxRecDepth 20000 in
theorem gX1_advance_X1_isDigit : GoodIn wsX1_advance (va_wsS RX1 49 yX1_isDigit wsX1_isDigit) := goodIn_app (goodIn_of _ (by decide +kernel)) ggX1_advance_X1_isDigit
set_option maxRecDepth 20000 in
theorem ggX1_advance_X1_passDigits : GoodIn wsX1_advance wsX1_passDigits := goodIn_r _ [27, 1, 3, 5, 6, 7, 8, 9, 10, 21, 22, 23, 28, 29, 30, 31, 32] (by decide +kernel) (by decide +kernel)
set_option maxRecDepth 20000 in
theorem gX1_advance_X1_passDigits : GoodIn wsX1_advance (wsV RX1 52 RX1 yX1_passDigits wsX1_passDigits) := goodIn_app (goodIn_of _ (by decide +kernel)) ggX1_advance_X1_passDigits
theorem dX1_advance_0 : decode cX1_advance 0 = .ok (.aload_n 0, 1) := by decide +kernel
theorem dX1_advance_1 : decode cX1_advance 1 = .ok (.aload_n 0, 1) := by decide +kernel
theorem dX1_advance_2 : decode cX1_advance 2 = .ok (.getfield 23, 3) := by decide +kernel
theorem dX1_advance_5 : decode cX1_advance 5 = .ok (.putfield 29, 3) := by decide +kernel
theorem dX1_advance_8 : decode cX1_advance 8 = .ok (.aload_n 0, 1) := by decide +kernel
theorem dX1_advance_9 : decode cX1_advance 9 = .ok (.getfield 29, 3) := by decide +kernel
theorem dX1_advance_12 : decode cX1_advance 12 = .ok (.aload_n 0, 1) := by decide +kernel
theorem dX1_advance_13 : decode cX1_advance 13 = .ok (.getfield 15, 3) := by decide +kernel
theorem dX1_advance_16 : decode cX1_advance 16 = .ok (.if_icmp .ge 30, 3) := by decide +kernel
theorem dX1_advance_19 : decode cX1_advance 19 = .ok (.aload_n 0, 1) := by decide +kernel
theorem dX1_advance_20 : decode cX1_advance 20 = .ok (.aload_n 0, 1) := by decide +kernel
theorem dX1_advance_21 : decode cX1_advance 21 = .ok (.getfield 29, 3) := by decide +kernel
theorem dX1_advance_24 : decode cX1_advance 24 = .ok (.invokevirtual 32, 3) := by decide +kernel
theorem dX1_advance_27 : decode cX1_advance 27 = .ok (.invokestatic 36, 3) := by decide +kernel
theorem dX1_advance_30 : decode cX1_advance 30 = .ok (.ifCond .eq 16, 3) := by decide +kernel
theorem dX1_advance_33 : decode cX1_advance 33 = .ok (.aload_n 0, 1) := by decide +kernel
theorem dX1_advance_34 : decode cX1_advance 34 = .ok (.dup, 1) := by decide +kernel
theorem dX1_advance_35 : decode cX1_advance 35 = .ok (.getfield 29, 3) := by decide +kernel
theorem dX1_advance_38 : decode cX1_advance 38 = .ok (.iconst 1, 1) := by decide +kernel
theorem dX1_advance_39 : decode cX1_advance 39 = .ok (.iadd, 1) := by decide +kernel
theorem dX1_advance_40 : decode cX1_advance 40 = .ok (.putfield 29, 3) := by decide +kernel
theorem dX1_advance_43 : decode cX1_advance 43 = .ok (.goto (-35), 3) := by decide +kernel
theorem dX1_advance_46 : decode cX1_advance 46 = .ok (.aload_n 0, 1) := by decide +kernel
theorem dX1_advance_47 : decode cX1_advance 47 = .ok (.aload_n 0, 1) := by decide +kernel
theorem dX1_advance_48 : decode cX1_advance 48 = .ok (.getfield 29, 3) := by decide +kernel
theorem dX1_advance_51 : decode cX1_advance 51 = .ok (.putfield 23, 3) := by decide +kernel
theorem dX1_advance_54 : decode cX1_advance 54 = .ok (.aload_n 0, 1) := by decide +kernel
theorem dX1_advance_55 : decode cX1_advance 55 = .ok (.aload_n 0, 1) := by decide +kernel
theorem dX1_advance_56 : decode cX1_advance 56 = .ok (.getfield 29, 3) := by decide +kernel
theorem dX1_advance_59 : decode cX1_advance 59 = .ok (.invokevirtual 32, 3) := by decide +kernel
theorem dX1_advance_62 : decode cX1_advance 62 = .ok (.istore_n 1, 1) := by decide +kernel
theorem dX1_advance_63 : decode cX1_advance 63 = .ok (.iload_n 1, 1) := by decide +kernel
theorem dX1_advance_64 : decode cX1_advance 64 = .ok (.iconst (-1), 1) := by decide +kernel
theorem dX1_advance_65 : decode cX1_advance 65 = .ok (.if_icmp .ne 11, 3) := by decide +kernel
theorem dX1_advance_68 : decode cX1_advance 68 = .ok (.aload_n 0, 1) := by decide +kernel
theorem dX1_advance_69 : decode cX1_advance 69 = .ok (.iconst 0, 1) := by decide +kernel
theorem dX1_advance_70 : decode cX1_advance 70 = .ok (.putfield 40, 3) := by decide +kernel
theorem dX1_advance_73 : decode cX1_advance 73 = .ok (.goto 83, 3) := by decide +kernel
theorem dX1_advance_76 : decode cX1_advance 76 = .ok (.iload_n 1, 1) := by decide +kernel
theorem dX1_advance_77 : decode cX1_advance 77 = .ok (.invokestatic 43, 3) := by decide +kernel
theorem dX1_advance_80 : decode cX1_advance 80 = .ok (.ifCond .eq 15, 3) := by decide +kernel
theorem dX1_advance_83 : decode cX1_advance 83 = .ok (.aload_n 0, 1) := by decide +kernel
theorem dX1_advance_84 : decode cX1_advance 84 = .ok (.iconst 1, 1) := by decide +kernel
theorem dX1_advance_85 : decode cX1_advance 85 = .ok (.putfield 40, 3) := by decide +kernel
theorem dX1_advance_88 : decode cX1_advance 88 = .ok (.aload_n 0, 1) := by decide +kernel
theorem dX1_advance_89 : decode cX1_advance 89 = .ok (.invokevirtual 46, 3) := by decide +kernel
theorem dX1_advance_92 : decode cX1_advance 92 = .ok (.goto 64, 3) := by decide +kernel
theorem dX1_advance_95 : decode cX1_advance 95 = .ok (.iload_n 1, 1) := by decide +kernel
theorem dX1_advance_96 : decode cX1_advance 96 = .ok (.invokestatic 49, 3) := by decide +kernel
theorem dX1_advance_99 : decode cX1_advance 99 = .ok (.ifCond .eq 32, 3) := by decide +kernel
theorem dX1_advance_102 : decode cX1_advance 102 = .ok (.aload_n 0, 1) := by decide +kernel
theorem dX1_advance_103 : decode cX1_advance 103 = .ok (.invokevirtual 52, 3) := by decide +kernel
theorem dX1_advance_106 : decode cX1_advance 106 = .ok (.aload_n 0, 1) := by decide +kernel
theorem dX1_advance_107 : decode cX1_advance 107 = .ok (.aload_n 0, 1) := by decide +kernel
theorem dX1_advance_108 : decode cX1_advance 108 = .ok (.getfield 23, 3) := by decide +kernel
theorem dX1_advance_111 : decode cX1_advance 111 = .ok (.aload_n 0, 1) := by decide +kernel
theorem dX1_advance_112 : decode cX1_advance 112 = .ok (.getfield 29, 3) := by decide +kernel
theorem dX1_advance_115 : decode cX1_advance 115 = .ok (.isub, 1) := by decide +kernel
theorem dX1_advance_116 : decode cX1_advance 116 = .ok (.iconst 2, 1) := by decide +kernel
theorem dX1_advance_117 : decode cX1_advance 117 = .ok (.if_icmp .gt 7, 3) := by decide +kernel
theorem dX1_advance_120 : decode cX1_advance 120 = .ok (.iconst 2, 1) := by decide +kernel
theorem dX1_advance_121 : decode cX1_advance 121 = .ok (.goto 4, 3) := by decide +kernel
theorem dX1_advance_124 : decode cX1_advance 124 = .ok (.iconst 4, 1) := by decide +kernel
theorem dX1_advance_125 : decode cX1_advance 125 = .ok (.putfield 40, 3) := by decide +kernel
theorem dX1_advance_128 : decode cX1_advance 128 = .ok (.goto 28, 3) := by decide +kernel
theorem dX1_advance_131 : decode cX1_advance 131 = .ok (.aload_n 0, 1) := by decide +kernel
theorem dX1_advance_132 : decode cX1_advance 132 = .ok (.iload_n 1, 1) := by decide +kernel
theorem dX1_advance_133 : decode cX1_advance 133 = .ok (.bipush 59, 2) := by decide +kernel
theorem dX1_advance_135 : decode cX1_advance 135 = .ok (.if_icmp .ne 7, 3) := by decide +kernel
theorem dX1_advance_138 : decode cX1_advance 138 = .ok (.iconst 3, 1) := by decide +kernel
theorem dX1_advance_139 : decode cX1_advance 139 = .ok (.goto 4, 3) := by decide +kernel
theorem dX1_advance_142 : decode cX1_advance 142 = .ok (.iconst 4, 1) := by decide +kernel
theorem dX1_advance_143 : decode cX1_advance 143 = .ok (.putfield 40, 3) := by decide +kernel
theorem dX1_advance_146 : decode cX1_advance 146 = .ok (.aload_n 0, 1) := by decide +kernel
theorem dX1_advance_147 : decode cX1_advance 147 = .ok (.dup, 1) := by decide +kernel
theorem dX1_advance_148 : decode cX1_advance 148 = .ok (.getfield 23, 3) := by decide +kernel
theorem dX1_advance_151 : decode cX1_advance 151 = .ok (.iconst 1, 1) := by decide +kernel
theorem dX1_advance_152 : decode cX1_advance 152 = .ok (.iadd, 1) := by decide +kernel
theorem dX1_advance_153 : decode cX1_advance 153 = .ok (.putfield 23, 3) := by decide +kernel
theorem dX1_advance_156 : decode cX1_advance 156 = .ok (.return_, 1) := by decide +kernel
set_option maxRecDepth 20000 in
theorem ggX1_passLetters_X1_byteAt : GoodIn wsX1_passLetters wsX1_byteAt := goodIn_r _ [7, 2, 8, 12, 13, 14, 15, 16] (by decide +kernel) (by decide +kernel)
set_option maxRecDepth 20000 in
theorem gX1_passLetters_X1_byteAt : GoodIn wsX1_passLetters (wsV RX1 32 RX1 yX1_byteAt wsX1_byteAt) := goodIn_app (goodIn_of _ (by decide +kernel)) ggX1_passLetters_X1_byteAt
set_option maxRecDepth 20000 in
theorem ggX1_passLetters_X1_isLetter : GoodIn wsX1_passLetters wsX1_isLetter := goodIn_r _ [11] (by decide +kernel) (by decide +kernel)
set_option maxRecDepth 20000 in
theorem gX1_passLetters_X1_isLetter : GoodIn wsX1_passLetters (va_wsS RX1 43 yX1_isLetter wsX1_isLetter) := goodIn_app (goodIn_of _ (by decide +kernel)) ggX1_passLetters_X1_isLetter
theorem dX1_passLetters_0 : decode cX1_passLetters 0 = .ok (.aload_n 0, 1) := by decide +kernel
theorem dX1_passLetters_1 : decode cX1_passLetters 1 = .ok (.getfield 23, 3) := by decide +kernel
theorem dX1_passLetters_4 : decode cX1_passLetters 4 = .ok (.aload_n 0, 1) := by decide +kernel
theorem dX1_passLetters_5 : decode cX1_passLetters 5 = .ok (.getfield 15, 3) := by decide +kernel
theorem dX1_passLetters_8 : decode cX1_passLetters 8 = .ok (.if_icmp .ge 30, 3) := by decide +kernel
theorem dX1_passLetters_11 : decode cX1_passLetters 11 = .ok (.aload_n 0, 1) := by decide +kernel
theorem dX1_passLetters_12 : decode cX1_passLetters 12 = .ok (.aload_n 0, 1) := by decide +kernel
theorem dX1_passLetters_13 : decode cX1_passLetters 13 = .ok (.getfield 23, 3) := by decide +kernel
theorem dX1_passLetters_16 : decode cX1_passLetters 16 = .ok (.invokevirtual 32, 3) := by decide +kernel
theorem dX1_passLetters_19 : decode cX1_passLetters 19 = .ok (.invokestatic 43, 3) := by decide +kernel
theorem dX1_passLetters_22 : decode cX1_passLetters 22 = .ok (.ifCond .eq 16, 3) := by decide +kernel
theorem dX1_passLetters_25 : decode cX1_passLetters 25 = .ok (.aload_n 0, 1) := by decide +kernel
theorem dX1_passLetters_26 : decode cX1_passLetters 26 = .ok (.dup, 1) := by decide +kernel
theorem dX1_passLetters_27 : decode cX1_passLetters 27 = .ok (.getfield 23, 3) := by decide +kernel
theorem dX1_passLetters_30 : decode cX1_passLetters 30 = .ok (.iconst 1, 1) := by decide +kernel
theorem dX1_passLetters_31 : decode cX1_passLetters 31 = .ok (.iadd, 1) := by decide +kernel
theorem dX1_passLetters_32 : decode cX1_passLetters 32 = .ok (.putfield 23, 3) := by decide +kernel
theorem dX1_passLetters_35 : decode cX1_passLetters 35 = .ok (.goto (-35), 3) := by decide +kernel
theorem dX1_passLetters_38 : decode cX1_passLetters 38 = .ok (.return_, 1) := by decide +kernel
set_option maxRecDepth 20000 in
theorem ggX1_passDigits_X1_byteAt : GoodIn wsX1_passDigits wsX1_byteAt := goodIn_r _ [7, 2, 8, 12, 13, 14, 15, 16] (by decide +kernel) (by decide +kernel)
set_option maxRecDepth 20000 in
theorem gX1_passDigits_X1_byteAt : GoodIn wsX1_passDigits (wsV RX1 32 RX1 yX1_byteAt wsX1_byteAt) := goodIn_app (goodIn_of _ (by decide +kernel)) ggX1_passDigits_X1_byteAt
set_option maxRecDepth 20000 in
theorem ggX1_passDigits_X1_isDigit : GoodIn wsX1_passDigits wsX1_isDigit := goodIn_r _ [11] (by decide +kernel) (by decide +kernel)
set_option maxRecDepth 20000 in
theorem gX1_passDigits_X1_isDigit : GoodIn wsX1_passDigits (va_wsS RX1 49 yX1_isDigit wsX1_isDigit) := goodIn_app (goodIn_of _ (by decide +kernel)) ggX1_passDigits_X1_isDigit
theorem dX1_passDigits_0 : decode cX1_passDigits 0 = .ok (.aload_n 0, 1) := by decide +kernel
theorem dX1_passDigits_1 : decode cX1_passDigits 1 = .ok (.getfield 23, 3) := by decide +kernel
theorem dX1_passDigits_4 : decode cX1_passDigits 4 = .ok (.aload_n 0, 1) := by decide +kernel
theorem dX1_passDigits_5 : decode cX1_passDigits 5 = .ok (.getfield 15, 3) := by decide +kernel
theorem dX1_passDigits_8 : decode cX1_passDigits 8 = .ok (.if_icmp .ge 30, 3) := by decide +kernel
theorem dX1_passDigits_11 : decode cX1_passDigits 11 = .ok (.aload_n 0, 1) := by decide +kernel
theorem dX1_passDigits_12 : decode cX1_passDigits 12 = .ok (.aload_n 0, 1) := by decide +kernel
theorem dX1_passDigits_13 : decode cX1_passDigits 13 = .ok (.getfield 23, 3) := by decide +kernel
theorem dX1_passDigits_16 : decode cX1_passDigits 16 = .ok (.invokevirtual 32, 3) := by decide +kernel
theorem dX1_passDigits_19 : decode cX1_passDigits 19 = .ok (.invokestatic 49, 3) := by decide +kernel
theorem dX1_passDigits_22 : decode cX1_passDigits 22 = .ok (.ifCond .eq 16, 3) := by decide +kernel
theorem dX1_passDigits_25 : decode cX1_passDigits 25 = .ok (.aload_n 0, 1) := by decide +kernel
theorem dX1_passDigits_26 : decode cX1_passDigits 26 = .ok (.dup, 1) := by decide +kernel
theorem dX1_passDigits_27 : decode cX1_passDigits 27 = .ok (.getfield 23, 3) := by decide +kernel
theorem dX1_passDigits_30 : decode cX1_passDigits 30 = .ok (.iconst 1, 1) := by decide +kernel
theorem dX1_passDigits_31 : decode cX1_passDigits 31 = .ok (.iadd, 1) := by decide +kernel
theorem dX1_passDigits_32 : decode cX1_passDigits 32 = .ok (.putfield 23, 3) := by decide +kernel
theorem dX1_passDigits_35 : decode cX1_passDigits 35 = .ok (.goto (-35), 3) := by decide +kernel
theorem dX1_passDigits_38 : decode cX1_passDigits 38 = .ok (.return_, 1) := by decide +kernel
set_option maxRecDepth 20000 in
theorem ggX1_isWord_J0_length_8abf5 : GoodIn wsX1_isWord wsJ0_length_8abf5 := goodIn_r _ [8, 9, 10, 11, 12, 7, 13, 14, 15, 65, 66, 67, 68] (by decide +kernel) (by decide +kernel)
set_option maxRecDepth 20000 in
theorem gX1_isWord_J0_length_8abf5 : GoodIn wsX1_isWord (wsV RX1 55 RJ0 yJ0_length_8abf5 wsJ0_length_8abf5) := goodIn_app (goodIn_of _ (by decide +kernel)) ggX1_isWord_J0_length_8abf5
set_option maxRecDepth 20000 in
theorem ggX1_isWord_X1_byteAt : GoodIn wsX1_isWord wsX1_byteAt := goodIn_r _ [20, 21, 22, 60, 61, 62, 63, 64] (by decide +kernel) (by decide +kernel)
set_option maxRecDepth 20000 in
theorem gX1_isWord_X1_byteAt : GoodIn wsX1_isWord (wsV RX1 32 RX1 yX1_byteAt wsX1_byteAt) := goodIn_app (goodIn_of _ (by decide +kernel)) ggX1_isWord_X1_byteAt
set_option maxRecDepth 20000 in
theorem ggX1_isWord_J0_charAt_5068e : GoodIn wsX1_isWord wsJ0_charAt_5068e := goodIn_r _ [26, 9, 27, 28, 29, 7, 30, 14, 15, 31, 32, 33, 34, 35, 36, 37, 38, 39, 40, 41, 42, 43, 44, 45, 46, 47, 48, 49, 50, 51, 52, 53, 54, 55, 56, 57, 58, 59, 65, 66, 67, 68] (by decide +kernel) (by decide +kernel)
set_option maxRecDepth 20000 in
theorem gX1_isWord_J0_charAt_5068e : GoodIn wsX1_isWord (wsV RX1 60 RJ0 yJ0_charAt_5068e wsJ0_charAt_5068e) := goodIn_app (goodIn_of _ (by decide +kernel)) ggX1_isWord_J0_charAt_5068e
theorem dX1_isWord_0 : decode cX1_isWord 0 = .ok (.aload_n 0, 1) := by decide +kernel
theorem dX1_isWord_1 : decode cX1_isWord 1 = .ok (.getfield 40, 3) := by decide +kernel
theorem dX1_isWord_4 : decode cX1_isWord 4 = .ok (.iconst 1, 1) := by decide +kernel
theorem dX1_isWord_5 : decode cX1_isWord 5 = .ok (.if_icmp .ne 19, 3) := by decide +kernel
theorem dX1_isWord_8 : decode cX1_isWord 8 = .ok (.aload_n 0, 1) := by decide +kernel
theorem dX1_isWord_9 : decode cX1_isWord 9 = .ok (.getfield 23, 3) := by decide +kernel
theorem dX1_isWord_12 : decode cX1_isWord 12 = .ok (.aload_n 0, 1) := by decide +kernel
theorem dX1_isWord_13 : decode cX1_isWord 13 = .ok (.getfield 29, 3) := by decide +kernel
theorem dX1_isWord_16 : decode cX1_isWord 16 = .ok (.isub, 1) := by decide +kernel
theorem dX1_isWord_17 : decode cX1_isWord 17 = .ok (.aload_n 1, 1) := by decide +kernel
theorem dX1_isWord_18 : decode cX1_isWord 18 = .ok (.invokevirtual 55, 3) := by decide +kernel
theorem dX1_isWord_21 : decode cX1_isWord 21 = .ok (.if_icmp .eq 5, 3) := by decide +kernel
theorem dX1_isWord_24 : decode cX1_isWord 24 = .ok (.iconst 0, 1) := by decide +kernel
theorem dX1_isWord_25 : decode cX1_isWord 25 = .ok (.ireturn, 1) := by decide +kernel
theorem dX1_isWord_26 : decode cX1_isWord 26 = .ok (.iconst 0, 1) := by decide +kernel
theorem dX1_isWord_27 : decode cX1_isWord 27 = .ok (.istore_n 2, 1) := by decide +kernel
theorem dX1_isWord_28 : decode cX1_isWord 28 = .ok (.iload_n 2, 1) := by decide +kernel
theorem dX1_isWord_29 : decode cX1_isWord 29 = .ok (.aload_n 1, 1) := by decide +kernel
theorem dX1_isWord_30 : decode cX1_isWord 30 = .ok (.invokevirtual 55, 3) := by decide +kernel
theorem dX1_isWord_33 : decode cX1_isWord 33 = .ok (.if_icmp .ge 29, 3) := by decide +kernel
theorem dX1_isWord_36 : decode cX1_isWord 36 = .ok (.aload_n 0, 1) := by decide +kernel
theorem dX1_isWord_37 : decode cX1_isWord 37 = .ok (.aload_n 0, 1) := by decide +kernel
theorem dX1_isWord_38 : decode cX1_isWord 38 = .ok (.getfield 29, 3) := by decide +kernel
theorem dX1_isWord_41 : decode cX1_isWord 41 = .ok (.iload_n 2, 1) := by decide +kernel
theorem dX1_isWord_42 : decode cX1_isWord 42 = .ok (.iadd, 1) := by decide +kernel
theorem dX1_isWord_43 : decode cX1_isWord 43 = .ok (.invokevirtual 32, 3) := by decide +kernel
theorem dX1_isWord_46 : decode cX1_isWord 46 = .ok (.aload_n 1, 1) := by decide +kernel
theorem dX1_isWord_47 : decode cX1_isWord 47 = .ok (.iload_n 2, 1) := by decide +kernel
theorem dX1_isWord_48 : decode cX1_isWord 48 = .ok (.invokevirtual 60, 3) := by decide +kernel
theorem dX1_isWord_51 : decode cX1_isWord 51 = .ok (.if_icmp .eq 5, 3) := by decide +kernel
theorem dX1_isWord_54 : decode cX1_isWord 54 = .ok (.iconst 0, 1) := by decide +kernel
theorem dX1_isWord_55 : decode cX1_isWord 55 = .ok (.ireturn, 1) := by decide +kernel
theorem dX1_isWord_56 : decode cX1_isWord 56 = .ok (.iinc 2 1, 3) := by decide +kernel
theorem dX1_isWord_59 : decode cX1_isWord 59 = .ok (.goto (-31), 3) := by decide +kernel
theorem dX1_isWord_62 : decode cX1_isWord 62 = .ok (.iconst 1, 1) := by decide +kernel
theorem dX1_isWord_63 : decode cX1_isWord 63 = .ok (.ireturn, 1) := by decide +kernel
set_option maxRecDepth 20000 in
theorem ggX1_number_X1_byteAt : GoodIn wsX1_number wsX1_byteAt := goodIn_r _ [8, 9, 10, 11, 12, 13, 14, 15] (by decide +kernel) (by decide +kernel)
set_option maxRecDepth 20000 in
theorem gX1_number_X1_byteAt : GoodIn wsX1_number (wsV RX1 32 RX1 yX1_byteAt wsX1_byteAt) := goodIn_app (goodIn_of _ (by decide +kernel)) ggX1_number_X1_byteAt
theorem dX1_number_0 : decode cX1_number 0 = .ok (.aload_n 0, 1) := by decide +kernel
theorem dX1_number_1 : decode cX1_number 1 = .ok (.getfield 40, 3) := by decide +kernel
theorem dX1_number_4 : decode cX1_number 4 = .ok (.iconst 2, 1) := by decide +kernel
theorem dX1_number_5 : decode cX1_number 5 = .ok (.if_icmp .eq 5, 3) := by decide +kernel
theorem dX1_number_8 : decode cX1_number 8 = .ok (.iconst (-1), 1) := by decide +kernel
theorem dX1_number_9 : decode cX1_number 9 = .ok (.ireturn, 1) := by decide +kernel
theorem dX1_number_10 : decode cX1_number 10 = .ok (.iconst 0, 1) := by decide +kernel
theorem dX1_number_11 : decode cX1_number 11 = .ok (.istore_n 1, 1) := by decide +kernel
theorem dX1_number_12 : decode cX1_number 12 = .ok (.aload_n 0, 1) := by decide +kernel
theorem dX1_number_13 : decode cX1_number 13 = .ok (.getfield 29, 3) := by decide +kernel
theorem dX1_number_16 : decode cX1_number 16 = .ok (.istore_n 2, 1) := by decide +kernel
theorem dX1_number_17 : decode cX1_number 17 = .ok (.iload_n 2, 1) := by decide +kernel
theorem dX1_number_18 : decode cX1_number 18 = .ok (.aload_n 0, 1) := by decide +kernel
theorem dX1_number_19 : decode cX1_number 19 = .ok (.getfield 23, 3) := by decide +kernel
theorem dX1_number_22 : decode cX1_number 22 = .ok (.if_icmp .ge 23, 3) := by decide +kernel
theorem dX1_number_25 : decode cX1_number 25 = .ok (.iload_n 1, 1) := by decide +kernel
theorem dX1_number_26 : decode cX1_number 26 = .ok (.bipush 10, 2) := by decide +kernel
theorem dX1_number_28 : decode cX1_number 28 = .ok (.imul, 1) := by decide +kernel
theorem dX1_number_29 : decode cX1_number 29 = .ok (.aload_n 0, 1) := by decide +kernel
theorem dX1_number_30 : decode cX1_number 30 = .ok (.iload_n 2, 1) := by decide +kernel
theorem dX1_number_31 : decode cX1_number 31 = .ok (.invokevirtual 32, 3) := by decide +kernel
theorem dX1_number_34 : decode cX1_number 34 = .ok (.iadd, 1) := by decide +kernel
theorem dX1_number_35 : decode cX1_number 35 = .ok (.bipush 48, 2) := by decide +kernel
theorem dX1_number_37 : decode cX1_number 37 = .ok (.isub, 1) := by decide +kernel
theorem dX1_number_38 : decode cX1_number 38 = .ok (.istore_n 1, 1) := by decide +kernel
theorem dX1_number_39 : decode cX1_number 39 = .ok (.iinc 2 1, 3) := by decide +kernel
theorem dX1_number_42 : decode cX1_number 42 = .ok (.goto (-25), 3) := by decide +kernel
theorem dX1_number_45 : decode cX1_number 45 = .ok (.iload_n 1, 1) := by decide +kernel
theorem dX1_number_46 : decode cX1_number 46 = .ok (.ireturn, 1) := by decide +kernel
theorem dX1_isBlank_0 : decode cX1_isBlank 0 = .ok (.iload_n 0, 1) := by decide +kernel
theorem dX1_isBlank_1 : decode cX1_isBlank 1 = .ok (.bipush 32, 2) := by decide +kernel
theorem dX1_isBlank_3 : decode cX1_isBlank 3 = .ok (.if_icmp .eq 9, 3) := by decide +kernel
theorem dX1_isBlank_6 : decode cX1_isBlank 6 = .ok (.iload_n 0, 1) := by decide +kernel
theorem dX1_isBlank_7 : decode cX1_isBlank 7 = .ok (.bipush 10, 2) := by decide +kernel
theorem dX1_isBlank_9 : decode cX1_isBlank 9 = .ok (.if_icmp .ne 7, 3) := by decide +kernel
theorem dX1_isBlank_12 : decode cX1_isBlank 12 = .ok (.iconst 1, 1) := by decide +kernel
theorem dX1_isBlank_13 : decode cX1_isBlank 13 = .ok (.goto 4, 3) := by decide +kernel
theorem dX1_isBlank_16 : decode cX1_isBlank 16 = .ok (.iconst 0, 1) := by decide +kernel
theorem dX1_isBlank_17 : decode cX1_isBlank 17 = .ok (.ireturn, 1) := by decide +kernel
theorem dX1_isLetter_0 : decode cX1_isLetter 0 = .ok (.iload_n 0, 1) := by decide +kernel
theorem dX1_isLetter_1 : decode cX1_isLetter 1 = .ok (.bipush 97, 2) := by decide +kernel
theorem dX1_isLetter_3 : decode cX1_isLetter 3 = .ok (.if_icmp .lt 13, 3) := by decide +kernel
theorem dX1_isLetter_6 : decode cX1_isLetter 6 = .ok (.iload_n 0, 1) := by decide +kernel
theorem dX1_isLetter_7 : decode cX1_isLetter 7 = .ok (.bipush 122, 2) := by decide +kernel
theorem dX1_isLetter_9 : decode cX1_isLetter 9 = .ok (.if_icmp .gt 7, 3) := by decide +kernel
theorem dX1_isLetter_12 : decode cX1_isLetter 12 = .ok (.iconst 1, 1) := by decide +kernel
theorem dX1_isLetter_13 : decode cX1_isLetter 13 = .ok (.goto 4, 3) := by decide +kernel
theorem dX1_isLetter_16 : decode cX1_isLetter 16 = .ok (.iconst 0, 1) := by decide +kernel
theorem dX1_isLetter_17 : decode cX1_isLetter 17 = .ok (.ireturn, 1) := by decide +kernel
theorem dX1_isDigit_0 : decode cX1_isDigit 0 = .ok (.iload_n 0, 1) := by decide +kernel
theorem dX1_isDigit_1 : decode cX1_isDigit 1 = .ok (.bipush 48, 2) := by decide +kernel
theorem dX1_isDigit_3 : decode cX1_isDigit 3 = .ok (.if_icmp .lt 13, 3) := by decide +kernel
theorem dX1_isDigit_6 : decode cX1_isDigit 6 = .ok (.iload_n 0, 1) := by decide +kernel
theorem dX1_isDigit_7 : decode cX1_isDigit 7 = .ok (.bipush 57, 2) := by decide +kernel
theorem dX1_isDigit_9 : decode cX1_isDigit 9 = .ok (.if_icmp .gt 7, 3) := by decide +kernel
theorem dX1_isDigit_12 : decode cX1_isDigit 12 = .ok (.iconst 1, 1) := by decide +kernel
theorem dX1_isDigit_13 : decode cX1_isDigit 13 = .ok (.goto 4, 3) := by decide +kernel
theorem dX1_isDigit_16 : decode cX1_isDigit 16 = .ok (.iconst 0, 1) := by decide +kernel
theorem dX1_isDigit_17 : decode cX1_isDigit 17 = .ok (.ireturn, 1) := by decide +kernel
set_option maxRecDepth 20000 in
theorem ggX2_init_X1_init : GoodIn wsX2_init wsX1_init := goodIn_r _ [13, 14, 2, 3, 15, 16, 51, 52, 53, 54, 55] (by decide +kernel) (by decide +kernel)
set_option maxRecDepth 20000 in
theorem gX2_init_X1_init_n11 : GoodIn wsX2_init (wsX1_init) := ggX2_init_X1_init
set_option maxRecDepth 20000 in
theorem ggX2_init_X3_init : GoodIn wsX2_init wsX3_init := goodIn_r _ [18, 19, 2, 3, 20, 21, 22, 23, 24, 25, 26, 27, 28, 29, 30, 31, 32, 33, 34, 15, 35, 36, 37, 38, 39, 40, 41, 42, 43, 44, 45, 46, 47, 48, 49, 50, 64, 65, 66, 67, 68, 60, 61, 62, 63, 69, 70, 71, 72, 73, 74, 75, 76, 77, 78, 79, 80] (by decide +kernel) (by decide +kernel)
set_option maxRecDepth 20000 in
theorem gX2_init_X3_init_n20 : GoodIn wsX2_init (wsX3_init) := ggX2_init_X3_init
theorem dX2_init_0 : decode cX2_init 0 = .ok (.aload_n 0, 1) := by decide +kernel
theorem dX2_init_1 : decode cX2_init 1 = .ok (.invokespecial 3, 3) := by decide +kernel
theorem dX2_init_4 : decode cX2_init 4 = .ok (.aload_n 0, 1) := by decide +kernel
theorem dX2_init_5 : decode cX2_init 5 = .ok (.new 9, 3) := by decide +kernel
theorem dX2_init_8 : decode cX2_init 8 = .ok (.dup, 1) := by decide +kernel
theorem dX2_init_9 : decode cX2_init 9 = .ok (.invokespecial 11, 3) := by decide +kernel
theorem dX2_init_12 : decode cX2_init 12 = .ok (.putfield 12, 3) := by decide +kernel
theorem dX2_init_15 : decode cX2_init 15 = .ok (.aload_n 0, 1) := by decide +kernel
theorem dX2_init_16 : decode cX2_init 16 = .ok (.new 18, 3) := by decide +kernel
theorem dX2_init_19 : decode cX2_init 19 = .ok (.dup, 1) := by decide +kernel
theorem dX2_init_20 : decode cX2_init 20 = .ok (.invokespecial 20, 3) := by decide +kernel
theorem dX2_init_23 : decode cX2_init 23 = .ok (.putfield 21, 3) := by decide +kernel
theorem dX2_init_26 : decode cX2_init 26 = .ok (.return_, 1) := by decide +kernel
set_option maxRecDepth 20000 in
theorem ggX2_read_X1_rewind : GoodIn wsX2_read wsX1_rewind := goodIn_r _ [14, 15, 16, 17, 18, 13, 19, 20, 21, 22, 23, 24, 25, 26, 27, 28, 29, 30, 31, 32, 33, 34, 35, 36, 37, 38, 39, 40, 41, 42, 43, 44, 201, 202, 203, 204, 205] (by decide +kernel) (by decide +kernel)
set_option maxRecDepth 20000 in
theorem gX2_read_X1_rewind : GoodIn wsX2_read (wsV RX2 33 RX1 yX1_rewind wsX1_rewind) := goodIn_app (goodIn_of _ (by decide +kernel)) ggX2_read_X1_rewind
set_option maxRecDepth 20000 in
theorem ggX2_read_X3_clear : GoodIn wsX2_read wsX3_clear := goodIn_r _ [49, 50, 51, 52, 53, 54, 55, 56, 57, 197, 198, 199, 200, 206, 207, 208, 209, 210, 211, 212, 213, 214, 215, 216, 217, 218, 219, 220, 221, 222] (by decide +kernel) (by decide +kernel)
set_option maxRecDepth 20000 in
theorem gX2_read_X3_clear : GoodIn wsX2_read (wsV RX2 36 RX3 yX3_clear wsX3_clear) := goodIn_app (goodIn_of _ (by decide +kernel)) ggX2_read_X3_clear
set_option maxRecDepth 20000 in
theorem ggX2_read_X2_readMoon : GoodIn wsX2_read wsX2_readMoon := goodIn_r _ [62, 63, 64, 65, 66, 67, 68, 61, 69, 1, 3, 70, 71, 72, 13, 73, 22, 15, 20, 74, 75, 76, 77, 78, 79, 80, 81, 82, 83, 84, 85, 23, 24, 25, 26, 21, 27, 86, 87, 88, 89, 90, 91, 92, 93, 94, 95, 96, 97, 98, 99, 100, 101, 102, 103, 104, 105, 106, 107, 108, 109, 110, 111, 112, 113, 114, 115, 116, 117, 118, 119, 120, 121, 122, 123, 17, 18, 19, 28, 29, 30, 31, 32, 33, 34, 35, 36, 37, 38, 39, 40, 41, 42, 43, 44, 124, 125, 126, 127, 128, 2, 129, 130, 131, 132, 133, 134, 135, 136, 137, 138, 139, 140, 8, 206, 207, 208, 209, 210, 193, 194, 195, 196, 201, 202, 203, 204, 205, 223, 224, 225, 226] (by decide +kernel) (by decide +kernel)
set_option maxRecDepth 20000 in
theorem gX2_read_X2_readMoon : GoodIn wsX2_read (wsV RX2 43 RX2 yX2_readMoon wsX2_readMoon) := goodIn_app (goodIn_of _ (by decide +kernel)) ggX2_read_X2_readMoon
set_option maxRecDepth 20000 in
theorem ggX2_read_X2_readClouds : GoodIn wsX2_read wsX2_readClouds := goodIn_r _ [144, 1, 3, 8, 66, 67, 68, 61, 69, 70, 71, 72, 13, 73, 22, 15, 20, 74, 75, 76, 77, 78, 79, 80, 81, 82, 83, 84, 85, 23, 24, 25, 26, 21, 27, 86, 87, 88, 89, 90, 91, 92, 93, 94, 95, 96, 97, 98, 99, 100, 101, 102, 103, 104, 105, 106, 107, 108, 109, 110, 111, 112, 113, 114, 115, 116, 117, 118, 119, 120, 121, 122, 123, 17, 18, 19, 28, 29, 30, 31, 32, 33, 34, 35, 36, 37, 38, 39, 40, 41, 42, 43, 44, 124, 125, 126, 127, 128, 2, 129, 130, 131, 132, 133, 134, 135, 136, 145, 146, 147, 148, 149, 150, 151, 137, 138, 139, 140, 193, 194, 195, 196, 201, 202, 203, 204, 205, 223, 224, 225, 226, 206, 207, 208, 209, 210] (by decide +kernel) (by decide +kernel)
set_option maxRecDepth 20000 in
theorem gX2_read_X2_readClouds : GoodIn wsX2_read (wsV RX2 47 RX2 yX2_readClouds wsX2_readClouds) := goodIn_app (goodIn_of _ (by decide +kernel)) ggX2_read_X2_readClouds
set_option maxRecDepth 20000 in
theorem ggX2_read_X2_readClerks : GoodIn wsX2_read wsX2_readClerks := goodIn_r _ [155, 1, 3, 70, 71, 72, 13, 73, 22, 15, 20, 74, 75, 76, 77, 78, 79, 80, 81, 82, 83, 84, 85, 23, 24, 25, 26, 21, 27, 86, 87, 88, 89, 90, 91, 92, 93, 94, 95, 96, 97, 98, 99, 100, 101, 102, 103, 104, 105, 106, 107, 108, 109, 110, 111, 112, 113, 114, 115, 116, 117, 118, 119, 120, 121, 122, 66, 67, 68, 61, 69, 123, 17, 18, 19, 28, 29, 30, 31, 32, 33, 34, 35, 36, 37, 38, 39, 40, 41, 42, 43, 44, 124, 125, 126, 127, 128, 2, 129, 130, 131, 132, 133, 134, 135, 136, 137, 138, 139, 140, 8, 156, 157, 158, 159, 160, 161, 162, 163, 193, 194, 195, 196, 201, 202, 203, 204, 205, 223, 224, 225, 226, 211, 212, 213, 214] (by decide +kernel) (by decide +kernel)
set_option maxRecDepth 20000 in
theorem gX2_read_X2_readClerks : GoodIn wsX2_read (wsV RX2 54 RX2 yX2_readClerks wsX2_readClerks) := goodIn_app (goodIn_of _ (by decide +kernel)) ggX2_read_X2_readClerks
set_option maxRecDepth 20000 in
theorem ggX2_read_X2_readComplaints : GoodIn wsX2_read wsX2_readComplaints := goodIn_r _ [167, 1, 3, 70, 71, 72, 13, 73, 22, 15, 20, 74, 75, 76, 77, 78, 79, 80, 81, 82, 83, 84, 85, 23, 24, 25, 26, 21, 27, 86, 87, 88, 89, 90, 91, 92, 93, 94, 95, 96, 97, 98, 99, 100, 101, 102, 103, 104, 105, 106, 107, 108, 109, 110, 111, 112, 113, 114, 115, 116, 117, 118, 119, 120, 121, 122, 66, 67, 68, 61, 69, 123, 17, 18, 19, 28, 29, 30, 31, 32, 33, 34, 35, 36, 37, 38, 39, 40, 41, 42, 43, 44, 124, 125, 126, 127, 128, 2, 129, 130, 131, 132, 133, 134, 135, 136, 168, 169, 170, 171, 172, 173, 174, 175, 176, 177, 178, 179, 180, 181, 182, 183, 184, 137, 138, 139, 140, 8, 185, 186, 187, 188, 189, 190, 191, 192, 193, 194, 195, 196, 201, 202, 203, 204, 205, 223, 224, 225, 226, 215, 216, 217, 218, 219, 220, 221, 222] (by decide +kernel) (by decide +kernel)
set_option maxRecDepth 20000 in
theorem gX2_read_X2_readComplaints : GoodIn wsX2_read (wsV RX2 62 RX2 yX2_readComplaints wsX2_readComplaints) := goodIn_app (goodIn_of _ (by decide +kernel)) ggX2_read_X2_readComplaints
set_option maxRecDepth 20000 in
theorem ggX2_read_X2_refuse : GoodIn wsX2_read wsX2_refuse := goodIn_r _ [127, 1, 3, 128, 2, 193, 194, 195, 196, 201, 202, 203, 204, 205] (by decide +kernel) (by decide +kernel)
set_option maxRecDepth 20000 in
theorem gX2_read_X2_refuse : GoodIn wsX2_read (wsV RX2 69 RX2 yX2_refuse wsX2_refuse) := goodIn_app (goodIn_of _ (by decide +kernel)) ggX2_read_X2_refuse
theorem dX2_read_0 : decode cX2_read 0 = .ok (.aload_n 0, 1) := by decide +kernel
theorem dX2_read_1 : decode cX2_read 1 = .ok (.iconst 0, 1) := by decide +kernel
theorem dX2_read_2 : decode cX2_read 2 = .ok (.putfield 25, 3) := by decide +kernel
theorem dX2_read_5 : decode cX2_read 5 = .ok (.aload_n 0, 1) := by decide +kernel
theorem dX2_read_6 : decode cX2_read 6 = .ok (.iconst (-1), 1) := by decide +kernel
theorem dX2_read_7 : decode cX2_read 7 = .ok (.putfield 29, 3) := by decide +kernel
theorem dX2_read_10 : decode cX2_read 10 = .ok (.aload_n 0, 1) := by decide +kernel
theorem dX2_read_11 : decode cX2_read 11 = .ok (.getfield 12, 3) := by decide +kernel
theorem dX2_read_14 : decode cX2_read 14 = .ok (.invokevirtual 33, 3) := by decide +kernel
theorem dX2_read_17 : decode cX2_read 17 = .ok (.aload_n 0, 1) := by decide +kernel
theorem dX2_read_18 : decode cX2_read 18 = .ok (.getfield 21, 3) := by decide +kernel
theorem dX2_read_21 : decode cX2_read 21 = .ok (.invokevirtual 36, 3) := by decide +kernel
theorem dX2_read_24 : decode cX2_read 24 = .ok (.aload_n 0, 1) := by decide +kernel
theorem dX2_read_25 : decode cX2_read 25 = .ok (.aload_n 0, 1) := by decide +kernel
theorem dX2_read_26 : decode cX2_read 26 = .ok (.getfield 21, 3) := by decide +kernel
theorem dX2_read_29 : decode cX2_read 29 = .ok (.getfield 39, 3) := by decide +kernel
theorem dX2_read_32 : decode cX2_read 32 = .ok (.invokevirtual 43, 3) := by decide +kernel
theorem dX2_read_35 : decode cX2_read 35 = .ok (.aload_n 0, 1) := by decide +kernel
theorem dX2_read_36 : decode cX2_read 36 = .ok (.aload_n 0, 1) := by decide +kernel
theorem dX2_read_37 : decode cX2_read 37 = .ok (.getfield 21, 3) := by decide +kernel
theorem dX2_read_40 : decode cX2_read 40 = .ok (.getfield 39, 3) := by decide +kernel
theorem dX2_read_43 : decode cX2_read 43 = .ok (.invokevirtual 47, 3) := by decide +kernel
theorem dX2_read_46 : decode cX2_read 46 = .ok (.aload_n 0, 1) := by decide +kernel
theorem dX2_read_47 : decode cX2_read 47 = .ok (.aload_n 0, 1) := by decide +kernel
theorem dX2_read_48 : decode cX2_read 48 = .ok (.getfield 21, 3) := by decide +kernel
theorem dX2_read_51 : decode cX2_read 51 = .ok (.getfield 50, 3) := by decide +kernel
theorem dX2_read_54 : decode cX2_read 54 = .ok (.invokevirtual 54, 3) := by decide +kernel
theorem dX2_read_57 : decode cX2_read 57 = .ok (.aload_n 0, 1) := by decide +kernel
theorem dX2_read_58 : decode cX2_read 58 = .ok (.aload_n 0, 1) := by decide +kernel
theorem dX2_read_59 : decode cX2_read 59 = .ok (.getfield 21, 3) := by decide +kernel
theorem dX2_read_62 : decode cX2_read 62 = .ok (.getfield 58, 3) := by decide +kernel
theorem dX2_read_65 : decode cX2_read 65 = .ok (.invokevirtual 62, 3) := by decide +kernel
theorem dX2_read_68 : decode cX2_read 68 = .ok (.aload_n 0, 1) := by decide +kernel
theorem dX2_read_69 : decode cX2_read 69 = .ok (.getfield 12, 3) := by decide +kernel
theorem dX2_read_72 : decode cX2_read 72 = .ok (.getfield 66, 3) := by decide +kernel
theorem dX2_read_75 : decode cX2_read 75 = .ok (.ifCond .eq 7, 3) := by decide +kernel
theorem dX2_read_78 : decode cX2_read 78 = .ok (.aload_n 0, 1) := by decide +kernel
theorem dX2_read_79 : decode cX2_read 79 = .ok (.invokevirtual 69, 3) := by decide +kernel
theorem dX2_read_82 : decode cX2_read 82 = .ok (.aload_n 0, 1) := by decide +kernel
theorem dX2_read_83 : decode cX2_read 83 = .ok (.getfield 12, 3) := by decide +kernel
theorem dX2_read_86 : decode cX2_read 86 = .ok (.iconst 0, 1) := by decide +kernel
theorem dX2_read_87 : decode cX2_read 87 = .ok (.putfield 72, 3) := by decide +kernel
theorem dX2_read_90 : decode cX2_read 90 = .ok (.return_, 1) := by decide +kernel
set_option maxRecDepth 20000 in
theorem ggX2_readMoon_X2_takeWord : GoodIn wsX2_readMoon wsX2_takeWord := goodIn_r _ [8, 9, 10, 11, 12, 13, 14, 15, 16, 17, 18, 19, 20, 21, 22, 23, 24, 25, 26, 27, 28, 29, 30, 31, 32, 33, 34, 35, 36, 37, 38, 39, 40, 41, 42, 43, 44, 45, 46, 47, 48, 49, 50, 51, 52, 53, 54, 55, 56, 57, 58, 59, 60, 61, 62, 63, 64, 65, 66, 67, 68, 69, 70, 71, 72, 73, 74, 75, 76, 77, 78, 79, 80, 81, 82, 83, 84, 85, 86, 87, 88, 89, 90, 91, 92, 93, 94, 95, 96, 97, 7, 98, 99, 100, 119, 120, 121, 122, 123, 124, 125, 126, 127, 128, 129, 130, 131] (by decide +kernel) (by decide +kernel)
set_option maxRecDepth 20000 in
theorem gX2_readMoon_X2_takeWord : GoodIn wsX2_readMoon (wsV RX2 77 RX2 yX2_takeWord wsX2_takeWord) := goodIn_app (goodIn_of _ (by decide +kernel)) ggX2_readMoon_X2_takeWord
set_option maxRecDepth 20000 in
theorem ggX2_readMoon_X2_takeNumber : GoodIn wsX2_readMoon wsX2_takeNumber := goodIn_r _ [104, 10, 9, 105, 106, 107, 14, 108, 16, 18, 17, 31, 32, 33, 34, 35, 36, 95, 96, 97, 7, 98, 99, 100, 74, 75, 76, 77, 78, 79, 80, 81, 82, 83, 84, 85, 86, 87, 88, 89, 90, 91, 92, 93, 94, 119, 120, 121, 122, 123, 124, 125, 126, 127] (by decide +kernel) (by decide +kernel)
set_option maxRecDepth 20000 in
theorem gX2_readMoon_X2_takeNumber : GoodIn wsX2_readMoon (wsV RX2 83 RX2 yX2_takeNumber wsX2_takeNumber) := goodIn_app (goodIn_of _ (by decide +kernel)) ggX2_readMoon_X2_takeNumber
set_option maxRecDepth 20000 in
theorem ggX2_readMoon_X2_takeSemicolon : GoodIn wsX2_readMoon wsX2_takeSemicolon := goodIn_r _ [112, 9, 10, 113, 74, 75, 76, 14, 77, 17, 18, 35, 16, 31, 32, 33, 34, 36, 78, 79, 80, 81, 82, 83, 84, 85, 86, 87, 88, 89, 90, 91, 92, 93, 94, 95, 96, 97, 7, 98, 99, 100, 119, 120, 121, 122, 123, 124, 125, 126, 127] (by decide +kernel) (by decide +kernel)
set_option maxRecDepth 20000 in
theorem gX2_readMoon_X2_takeSemicolon : GoodIn wsX2_readMoon (wsV RX2 96 RX2 yX2_takeSemicolon wsX2_takeSemicolon) := goodIn_app (goodIn_of _ (by decide +kernel)) ggX2_readMoon_X2_takeSemicolon
theorem dX2_readMoon_0 : decode cX2_readMoon 0 = .ok (.aload_n 0, 1) := by decide +kernel
theorem dX2_readMoon_1 : decode cX2_readMoon 1 = .ok (.ldc 75, 2) := by decide +kernel
theorem dX2_readMoon_3 : decode cX2_readMoon 3 = .ok (.invokevirtual 77, 3) := by decide +kernel
theorem dX2_readMoon_6 : decode cX2_readMoon 6 = .ok (.aload_n 1, 1) := by decide +kernel
theorem dX2_readMoon_7 : decode cX2_readMoon 7 = .ok (.aload_n 0, 1) := by decide +kernel
theorem dX2_readMoon_8 : decode cX2_readMoon 8 = .ok (.iconst 1, 1) := by decide +kernel
theorem dX2_readMoon_9 : decode cX2_readMoon 9 = .ok (.bipush 14, 2) := by decide +kernel
theorem dX2_readMoon_11 : decode cX2_readMoon 11 = .ok (.invokevirtual 83, 3) := by decide +kernel
theorem dX2_readMoon_14 : decode cX2_readMoon 14 = .ok (.putfield 87, 3) := by decide +kernel
theorem dX2_readMoon_17 : decode cX2_readMoon 17 = .ok (.aload_n 1, 1) := by decide +kernel
theorem dX2_readMoon_18 : decode cX2_readMoon 18 = .ok (.aload_n 0, 1) := by decide +kernel
theorem dX2_readMoon_19 : decode cX2_readMoon 19 = .ok (.iconst 0, 1) := by decide +kernel
theorem dX2_readMoon_20 : decode cX2_readMoon 20 = .ok (.bipush 13, 2) := by decide +kernel
theorem dX2_readMoon_22 : decode cX2_readMoon 22 = .ok (.invokevirtual 83, 3) := by decide +kernel
theorem dX2_readMoon_25 : decode cX2_readMoon 25 = .ok (.putfield 90, 3) := by decide +kernel
theorem dX2_readMoon_28 : decode cX2_readMoon 28 = .ok (.aload_n 1, 1) := by decide +kernel
theorem dX2_readMoon_29 : decode cX2_readMoon 29 = .ok (.aload_n 0, 1) := by decide +kernel
theorem dX2_readMoon_30 : decode cX2_readMoon 30 = .ok (.iconst 0, 1) := by decide +kernel
theorem dX2_readMoon_31 : decode cX2_readMoon 31 = .ok (.bipush 7, 2) := by decide +kernel
theorem dX2_readMoon_33 : decode cX2_readMoon 33 = .ok (.invokevirtual 83, 3) := by decide +kernel
theorem dX2_readMoon_36 : decode cX2_readMoon 36 = .ok (.putfield 93, 3) := by decide +kernel
theorem dX2_readMoon_39 : decode cX2_readMoon 39 = .ok (.aload_n 0, 1) := by decide +kernel
theorem dX2_readMoon_40 : decode cX2_readMoon 40 = .ok (.invokevirtual 96, 3) := by decide +kernel
theorem dX2_readMoon_43 : decode cX2_readMoon 43 = .ok (.return_, 1) := by decide +kernel
set_option maxRecDepth 20000 in
theorem ggX2_readClouds_X2_takeWord : GoodIn wsX2_readClouds wsX2_takeWord := goodIn_r _ [8, 1, 2, 9, 10, 11, 12, 13, 14, 15, 16, 17, 18, 19, 20, 21, 22, 23, 24, 25, 26, 27, 28, 29, 30, 31, 32, 33, 34, 35, 36, 37, 38, 39, 40, 41, 42, 43, 44, 45, 46, 47, 48, 49, 50, 51, 52, 53, 54, 55, 56, 57, 58, 59, 60, 61, 62, 63, 64, 65, 66, 67, 68, 69, 70, 71, 72, 73, 74, 75, 76, 77, 78, 79, 80, 81, 82, 83, 84, 85, 86, 87, 88, 89, 90, 91, 92, 93, 94, 95, 7, 96, 97, 98, 118, 119, 120, 121, 122, 123, 124, 125, 126, 127, 128, 129, 130] (by decide +kernel) (by decide +kernel)
set_option maxRecDepth 20000 in
theorem gX2_readClouds_X2_takeWord : GoodIn wsX2_readClouds (wsV RX2 77 RX2 yX2_takeWord wsX2_takeWord) := goodIn_app (goodIn_of _ (by decide +kernel)) ggX2_readClouds_X2_takeWord
set_option maxRecDepth 20000 in
theorem ggX2_readClouds_X2_takeNumber : GoodIn wsX2_readClouds wsX2_takeNumber := goodIn_r _ [102, 2, 1, 103, 104, 105, 12, 106, 14, 16, 15, 29, 30, 31, 32, 33, 34, 93, 94, 95, 7, 96, 97, 98, 72, 73, 74, 75, 76, 77, 78, 79, 80, 81, 82, 83, 84, 85, 86, 87, 88, 89, 90, 91, 92, 118, 119, 120, 121, 122, 123, 124, 125, 126] (by decide +kernel) (by decide +kernel)
set_option maxRecDepth 20000 in
theorem gX2_readClouds_X2_takeNumber : GoodIn wsX2_readClouds (wsV RX2 83 RX2 yX2_takeNumber wsX2_takeNumber) := goodIn_app (goodIn_of _ (by decide +kernel)) ggX2_readClouds_X2_takeNumber
set_option maxRecDepth 20000 in
theorem ggX2_readClouds_X6_addCloud : GoodIn wsX2_readClouds wsX6_addCloud := goodIn_r _ [111, 112, 113, 131, 132, 133, 134, 135] (by decide +kernel) (by decide +kernel)
set_option maxRecDepth 20000 in
theorem gX2_readClouds_X6_addCloud : GoodIn wsX2_readClouds (wsV RX2 101 RX6 yX6_addCloud wsX6_addCloud) := goodIn_app (goodIn_of _ (by decide +kernel)) ggX2_readClouds_X6_addCloud
set_option maxRecDepth 20000 in
theorem ggX2_readClouds_X2_takeSemicolon : GoodIn wsX2_readClouds wsX2_takeSemicolon := goodIn_r _ [117, 1, 2, 3, 72, 73, 74, 12, 75, 15, 16, 33, 14, 29, 30, 31, 32, 34, 76, 77, 78, 79, 80, 81, 82, 83, 84, 85, 86, 87, 88, 89, 90, 91, 92, 93, 94, 95, 7, 96, 97, 98, 118, 119, 120, 121, 122, 123, 124, 125, 126] (by decide +kernel) (by decide +kernel)
set_option maxRecDepth 20000 in
theorem gX2_readClouds_X2_takeSemicolon : GoodIn wsX2_readClouds (wsV RX2 96 RX2 yX2_takeSemicolon wsX2_takeSemicolon) := goodIn_app (goodIn_of _ (by decide +kernel)) ggX2_readClouds_X2_takeSemicolon
theorem dX2_readClouds_0 : decode cX2_readClouds 0 = .ok (.aload_n 0, 1) := by decide +kernel
theorem dX2_readClouds_1 : decode cX2_readClouds 1 = .ok (.ldc 99, 2) := by decide +kernel
theorem dX2_readClouds_3 : decode cX2_readClouds 3 = .ok (.invokevirtual 77, 3) := by decide +kernel
theorem dX2_readClouds_6 : decode cX2_readClouds 6 = .ok (.aload_n 1, 1) := by decide +kernel
theorem dX2_readClouds_7 : decode cX2_readClouds 7 = .ok (.aload_n 0, 1) := by decide +kernel
theorem dX2_readClouds_8 : decode cX2_readClouds 8 = .ok (.iconst 0, 1) := by decide +kernel
theorem dX2_readClouds_9 : decode cX2_readClouds 9 = .ok (.bipush 9, 2) := by decide +kernel
theorem dX2_readClouds_11 : decode cX2_readClouds 11 = .ok (.invokevirtual 83, 3) := by decide +kernel
theorem dX2_readClouds_14 : decode cX2_readClouds 14 = .ok (.invokevirtual 101, 3) := by decide +kernel
theorem dX2_readClouds_17 : decode cX2_readClouds 17 = .ok (.iconst 1, 1) := by decide +kernel
theorem dX2_readClouds_18 : decode cX2_readClouds 18 = .ok (.istore_n 2, 1) := by decide +kernel
theorem dX2_readClouds_19 : decode cX2_readClouds 19 = .ok (.iload_n 2, 1) := by decide +kernel
theorem dX2_readClouds_20 : decode cX2_readClouds 20 = .ok (.bipush 10, 2) := by decide +kernel
theorem dX2_readClouds_22 : decode cX2_readClouds 22 = .ok (.if_icmp .ge 38, 3) := by decide +kernel
theorem dX2_readClouds_25 : decode cX2_readClouds 25 = .ok (.aload_n 0, 1) := by decide +kernel
theorem dX2_readClouds_26 : decode cX2_readClouds 26 = .ok (.getfield 25, 3) := by decide +kernel
theorem dX2_readClouds_29 : decode cX2_readClouds 29 = .ok (.ifCond .ne 31, 3) := by decide +kernel
theorem dX2_readClouds_32 : decode cX2_readClouds 32 = .ok (.aload_n 0, 1) := by decide +kernel
theorem dX2_readClouds_33 : decode cX2_readClouds 33 = .ok (.getfield 12, 3) := by decide +kernel
theorem dX2_readClouds_36 : decode cX2_readClouds 36 = .ok (.getfield 66, 3) := by decide +kernel
theorem dX2_readClouds_39 : decode cX2_readClouds 39 = .ok (.iconst 2, 1) := by decide +kernel
theorem dX2_readClouds_40 : decode cX2_readClouds 40 = .ok (.if_icmp .ne 20, 3) := by decide +kernel
theorem dX2_readClouds_43 : decode cX2_readClouds 43 = .ok (.aload_n 1, 1) := by decide +kernel
theorem dX2_readClouds_44 : decode cX2_readClouds 44 = .ok (.aload_n 0, 1) := by decide +kernel
theorem dX2_readClouds_45 : decode cX2_readClouds 45 = .ok (.iconst 0, 1) := by decide +kernel
theorem dX2_readClouds_46 : decode cX2_readClouds 46 = .ok (.bipush 9, 2) := by decide +kernel
theorem dX2_readClouds_48 : decode cX2_readClouds 48 = .ok (.invokevirtual 83, 3) := by decide +kernel
theorem dX2_readClouds_51 : decode cX2_readClouds 51 = .ok (.invokevirtual 101, 3) := by decide +kernel
theorem dX2_readClouds_54 : decode cX2_readClouds 54 = .ok (.iinc 2 1, 3) := by decide +kernel
theorem dX2_readClouds_57 : decode cX2_readClouds 57 = .ok (.goto (-38), 3) := by decide +kernel
theorem dX2_readClouds_60 : decode cX2_readClouds 60 = .ok (.aload_n 0, 1) := by decide +kernel
theorem dX2_readClouds_61 : decode cX2_readClouds 61 = .ok (.invokevirtual 96, 3) := by decide +kernel
theorem dX2_readClouds_64 : decode cX2_readClouds 64 = .ok (.return_, 1) := by decide +kernel
set_option maxRecDepth 20000 in
theorem ggX2_readClerks_X1_isWord : GoodIn wsX2_readClerks wsX1_isWord := goodIn_r _ [7, 8, 9, 10, 11, 12, 13, 14, 15, 16, 17, 18, 19, 20, 21, 22, 23, 24, 25, 6, 26, 27, 28, 29, 30, 31, 32, 33, 34, 35, 36, 37, 38, 39, 40, 41, 42, 43, 44, 45, 46, 47, 48, 49, 50, 51, 52, 53, 54, 55, 56, 57, 58, 59, 60, 61, 62, 63, 64, 65, 123, 124, 125, 126, 127, 128, 129, 130, 131] (by decide +kernel) (by decide +kernel)
set_option maxRecDepth 20000 in
theorem gX2_readClerks_X1_isWord : GoodIn wsX2_readClerks (wsV RX2 107 RX1 yX1_isWord wsX1_isWord) := goodIn_app (goodIn_of _ (by decide +kernel)) ggX2_readClerks_X1_isWord
set_option maxRecDepth 20000 in
theorem ggX2_readClerks_X2_takeWord : GoodIn wsX2_readClerks wsX2_takeWord := goodIn_r _ [70, 1, 2, 3, 4, 5, 6, 7, 8, 9, 10, 11, 12, 13, 14, 15, 16, 17, 18, 19, 20, 21, 22, 23, 24, 25, 26, 27, 28, 29, 30, 31, 32, 33, 34, 35, 36, 37, 38, 39, 40, 41, 42, 43, 44, 45, 46, 47, 48, 49, 50, 51, 52, 53, 54, 55, 56, 57, 58, 59, 60, 61, 62, 63, 64, 65, 71, 72, 73, 74, 75, 76, 77, 78, 79, 80, 81, 82, 83, 84, 85, 86, 87, 88, 89, 90, 91, 92, 93, 94, 69, 95, 96, 97, 119, 120, 121, 122, 123, 124, 125, 126, 127, 128, 129, 130, 131] (by decide +kernel) (by decide +kernel)
set_option maxRecDepth 20000 in
theorem gX2_readClerks_X2_takeWord : GoodIn wsX2_readClerks (wsV RX2 77 RX2 yX2_takeWord wsX2_takeWord) := goodIn_app (goodIn_of _ (by decide +kernel)) ggX2_readClerks_X2_takeWord
set_option maxRecDepth 20000 in
theorem ggX2_readClerks_X2_takeNumber : GoodIn wsX2_readClerks wsX2_takeNumber := goodIn_r _ [101, 2, 1, 102, 103, 104, 6, 105, 8, 10, 9, 23, 24, 25, 26, 27, 28, 92, 93, 94, 69, 95, 96, 97, 71, 72, 73, 74, 75, 76, 77, 78, 79, 80, 81, 82, 83, 84, 85, 86, 87, 88, 89, 90, 91, 119, 120, 121, 122, 123, 124, 125, 126, 127] (by decide +kernel) (by decide +kernel)
set_option maxRecDepth 20000 in
theorem gX2_readClerks_X2_takeNumber : GoodIn wsX2_readClerks (wsV RX2 83 RX2 yX2_takeNumber wsX2_takeNumber) := goodIn_app (goodIn_of _ (by decide +kernel)) ggX2_readClerks_X2_takeNumber
set_option maxRecDepth 20000 in
theorem ggX2_readClerks_X2_takeSemicolon : GoodIn wsX2_readClerks wsX2_takeSemicolon := goodIn_r _ [109, 1, 2, 110, 71, 72, 73, 6, 74, 9, 10, 27, 8, 23, 24, 25, 26, 28, 75, 76, 77, 78, 79, 80, 81, 82, 83, 84, 85, 86, 87, 88, 89, 90, 91, 92, 93, 94, 69, 95, 96, 97, 119, 120, 121, 122, 123, 124, 125, 126, 127] (by decide +kernel) (by decide +kernel)
set_option maxRecDepth 20000 in
theorem gX2_readClerks_X2_takeSemicolon : GoodIn wsX2_readClerks (wsV RX2 96 RX2 yX2_takeSemicolon wsX2_takeSemicolon) := goodIn_app (goodIn_of _ (by decide +kernel)) ggX2_readClerks_X2_takeSemicolon
set_option maxRecDepth 20000 in
theorem ggX2_readClerks_X8_add : GoodIn wsX2_readClerks wsX8_add := goodIn_r _ [115, 116, 117, 118, 132, 133, 134, 135] (by decide +kernel) (by decide +kernel)
set_option maxRecDepth 20000 in
theorem gX2_readClerks_X8_add : GoodIn wsX2_readClerks (wsV RX2 111 RX8 yX8_add wsX8_add) := goodIn_app (goodIn_of _ (by decide +kernel)) ggX2_readClerks_X8_add
theorem dX2_readClerks_0 : decode cX2_readClerks 0 = .ok (.iconst 0, 1) := by decide +kernel
theorem dX2_readClerks_1 : decode cX2_readClerks 1 = .ok (.istore_n 2, 1) := by decide +kernel
theorem dX2_readClerks_2 : decode cX2_readClerks 2 = .ok (.iload_n 2, 1) := by decide +kernel
theorem dX2_readClerks_3 : decode cX2_readClerks 3 = .ok (.iconst 5, 1) := by decide +kernel
theorem dX2_readClerks_4 : decode cX2_readClerks 4 = .ok (.if_icmp .ge 62, 3) := by decide +kernel
theorem dX2_readClerks_7 : decode cX2_readClerks 7 = .ok (.aload_n 0, 1) := by decide +kernel
theorem dX2_readClerks_8 : decode cX2_readClerks 8 = .ok (.getfield 25, 3) := by decide +kernel
theorem dX2_readClerks_11 : decode cX2_readClerks 11 = .ok (.ifCond .ne 55, 3) := by decide +kernel
theorem dX2_readClerks_14 : decode cX2_readClerks 14 = .ok (.aload_n 0, 1) := by decide +kernel
theorem dX2_readClerks_15 : decode cX2_readClerks 15 = .ok (.getfield 12, 3) := by decide +kernel
theorem dX2_readClerks_18 : decode cX2_readClerks 18 = .ok (.ldc 105, 2) := by decide +kernel
theorem dX2_readClerks_20 : decode cX2_readClerks 20 = .ok (.invokevirtual 107, 3) := by decide +kernel
theorem dX2_readClerks_23 : decode cX2_readClerks 23 = .ok (.ifCond .eq 43, 3) := by decide +kernel
theorem dX2_readClerks_26 : decode cX2_readClerks 26 = .ok (.aload_n 0, 1) := by decide +kernel
theorem dX2_readClerks_27 : decode cX2_readClerks 27 = .ok (.ldc 105, 2) := by decide +kernel
theorem dX2_readClerks_29 : decode cX2_readClerks 29 = .ok (.invokevirtual 77, 3) := by decide +kernel
theorem dX2_readClerks_32 : decode cX2_readClerks 32 = .ok (.aload_n 0, 1) := by decide +kernel
theorem dX2_readClerks_33 : decode cX2_readClerks 33 = .ok (.iconst 1, 1) := by decide +kernel
theorem dX2_readClerks_34 : decode cX2_readClerks 34 = .ok (.bipush 9, 2) := by decide +kernel
theorem dX2_readClerks_36 : decode cX2_readClerks 36 = .ok (.invokevirtual 83, 3) := by decide +kernel
theorem dX2_readClerks_39 : decode cX2_readClerks 39 = .ok (.istore_n 3, 1) := by decide +kernel
theorem dX2_readClerks_40 : decode cX2_readClerks 40 = .ok (.aload_n 0, 1) := by decide +kernel
theorem dX2_readClerks_41 : decode cX2_readClerks 41 = .ok (.iconst 0, 1) := by decide +kernel
theorem dX2_readClerks_42 : decode cX2_readClerks 42 = .ok (.bipush 99, 2) := by decide +kernel
theorem dX2_readClerks_44 : decode cX2_readClerks 44 = .ok (.invokevirtual 83, 3) := by decide +kernel
theorem dX2_readClerks_47 : decode cX2_readClerks 47 = .ok (.istore 4, 2) := by decide +kernel
theorem dX2_readClerks_49 : decode cX2_readClerks 49 = .ok (.aload_n 0, 1) := by decide +kernel
theorem dX2_readClerks_50 : decode cX2_readClerks 50 = .ok (.invokevirtual 96, 3) := by decide +kernel
theorem dX2_readClerks_53 : decode cX2_readClerks 53 = .ok (.aload_n 1, 1) := by decide +kernel
theorem dX2_readClerks_54 : decode cX2_readClerks 54 = .ok (.iload_n 3, 1) := by decide +kernel
theorem dX2_readClerks_55 : decode cX2_readClerks 55 = .ok (.iload 4, 2) := by decide +kernel
theorem dX2_readClerks_57 : decode cX2_readClerks 57 = .ok (.invokevirtual 111, 3) := by decide +kernel
theorem dX2_readClerks_60 : decode cX2_readClerks 60 = .ok (.iinc 2 1, 3) := by decide +kernel
theorem dX2_readClerks_63 : decode cX2_readClerks 63 = .ok (.goto (-61), 3) := by decide +kernel
theorem dX2_readClerks_66 : decode cX2_readClerks 66 = .ok (.return_, 1) := by decide +kernel
set_option maxRecDepth 20000 in
theorem ggX2_readComplaints_X1_isWord : GoodIn wsX2_readComplaints wsX1_isWord := goodIn_r _ [7, 8, 9, 10, 11, 12, 13, 14, 15, 16, 17, 18, 19, 20, 21, 22, 23, 24, 25, 6, 26, 27, 28, 29, 30, 31, 32, 33, 34, 35, 36, 37, 38, 39, 40, 41, 42, 43, 44, 45, 46, 47, 48, 49, 50, 51, 52, 53, 54, 55, 56, 57, 58, 59, 60, 61, 62, 63, 64, 65, 140, 141, 142, 143, 144, 145, 146, 147, 148] (by decide +kernel) (by decide +kernel)
set_option maxRecDepth 20000 in
theorem gX2_readComplaints_X1_isWord : GoodIn wsX2_readComplaints (wsV RX2 107 RX1 yX1_isWord wsX1_isWord) := goodIn_app (goodIn_of _ (by decide +kernel)) ggX2_readComplaints_X1_isWord
set_option maxRecDepth 20000 in
theorem ggX2_readComplaints_X2_takeWord : GoodIn wsX2_readComplaints wsX2_takeWord := goodIn_r _ [70, 1, 2, 3, 4, 5, 6, 7, 8, 9, 10, 11, 12, 13, 14, 15, 16, 17, 18, 19, 20, 21, 22, 23, 24, 25, 26, 27, 28, 29, 30, 31, 32, 33, 34, 35, 36, 37, 38, 39, 40, 41, 42, 43, 44, 45, 46, 47, 48, 49, 50, 51, 52, 53, 54, 55, 56, 57, 58, 59, 60, 61, 62, 63, 64, 65, 71, 72, 73, 74, 75, 76, 77, 78, 79, 80, 81, 82, 83, 84, 85, 86, 87, 88, 89, 90, 91, 92, 93, 94, 69, 95, 96, 97, 136, 137, 138, 139, 140, 141, 142, 143, 144, 145, 146, 147, 148] (by decide +kernel) (by decide +kernel)
set_option maxRecDepth 20000 in
theorem gX2_readComplaints_X2_takeWord : GoodIn wsX2_readComplaints (wsV RX2 77 RX2 yX2_takeWord wsX2_takeWord) := goodIn_app (goodIn_of _ (by decide +kernel)) ggX2_readComplaints_X2_takeWord
set_option maxRecDepth 20000 in
theorem ggX2_readComplaints_X2_takeNumber : GoodIn wsX2_readComplaints wsX2_takeNumber := goodIn_r _ [101, 2, 1, 102, 103, 104, 6, 105, 8, 10, 9, 23, 24, 25, 26, 27, 28, 92, 93, 94, 69, 95, 96, 97, 71, 72, 73, 74, 75, 76, 77, 78, 79, 80, 81, 82, 83, 84, 85, 86, 87, 88, 89, 90, 91, 136, 137, 138, 139, 140, 141, 142, 143, 144] (by decide +kernel) (by decide +kernel)
set_option maxRecDepth 20000 in
theorem gX2_readComplaints_X2_takeNumber : GoodIn wsX2_readComplaints (wsV RX2 83 RX2 yX2_takeNumber wsX2_takeNumber) := goodIn_app (goodIn_of _ (by decide +kernel)) ggX2_readComplaints_X2_takeNumber
set_option maxRecDepth 20000 in
theorem ggX2_readComplaints_X2_takeSort : GoodIn wsX2_readComplaints wsX2_takeSort := goodIn_r _ [109, 1, 2, 110, 111, 112, 69, 113, 3, 4, 5, 6, 7, 8, 9, 10, 11, 12, 13, 14, 15, 16, 17, 18, 19, 20, 21, 22, 23, 24, 25, 26, 27, 28, 29, 30, 31, 32, 33, 34, 35, 36, 37, 38, 39, 40, 41, 42, 43, 44, 45, 46, 47, 48, 49, 50, 51, 52, 53, 54, 55, 56, 57, 58, 59, 60, 61, 62, 63, 64, 65, 114, 115, 116, 117, 118, 119, 120, 121, 122, 92, 93, 94, 95, 96, 97, 71, 72, 73, 74, 75, 76, 77, 78, 79, 80, 81, 82, 83, 84, 85, 86, 87, 88, 89, 90, 91, 136, 137, 138, 139, 140, 141, 142, 143, 144, 145, 146, 147, 148, 149, 150, 151, 152, 153, 154, 155, 156] (by decide +kernel) (by decide +kernel)
set_option maxRecDepth 20000 in
theorem gX2_readComplaints_X2_takeSort : GoodIn wsX2_readComplaints (wsV RX2 119 RX2 yX2_takeSort wsX2_takeSort) := goodIn_app (goodIn_of _ (by decide +kernel)) ggX2_readComplaints_X2_takeSort
set_option maxRecDepth 20000 in
theorem ggX2_readComplaints_X2_takeSemicolon : GoodIn wsX2_readComplaints wsX2_takeSemicolon := goodIn_r _ [126, 1, 2, 127, 71, 72, 73, 6, 74, 9, 10, 27, 8, 23, 24, 25, 26, 28, 75, 76, 77, 78, 79, 80, 81, 82, 83, 84, 85, 86, 87, 88, 89, 90, 91, 92, 93, 94, 69, 95, 96, 97, 136, 137, 138, 139, 140, 141, 142, 143, 144] (by decide +kernel) (by decide +kernel)
set_option maxRecDepth 20000 in
theorem gX2_readComplaints_X2_takeSemicolon : GoodIn wsX2_readComplaints (wsV RX2 96 RX2 yX2_takeSemicolon wsX2_takeSemicolon) := goodIn_app (goodIn_of _ (by decide +kernel)) ggX2_readComplaints_X2_takeSemicolon
set_option maxRecDepth 20000 in
theorem ggX2_readComplaints_X5_add : GoodIn wsX2_readComplaints wsX5_add := goodIn_r _ [131, 119, 121, 122, 132, 133, 120, 134, 135, 149, 150, 151, 152, 153, 154, 155, 156] (by decide +kernel) (by decide +kernel)
set_option maxRecDepth 20000 in
theorem gX2_readComplaints_X5_add : GoodIn wsX2_readComplaints (wsV RX2 123 RX5 yX5_add wsX5_add) := goodIn_app (goodIn_of _ (by decide +kernel)) ggX2_readComplaints_X5_add
theorem dX2_readComplaints_0 : decode cX2_readComplaints 0 = .ok (.iconst 0, 1) := by decide +kernel
theorem dX2_readComplaints_1 : decode cX2_readComplaints 1 = .ok (.istore_n 2, 1) := by decide +kernel
theorem dX2_readComplaints_2 : decode cX2_readComplaints 2 = .ok (.iload_n 2, 1) := by decide +kernel
theorem dX2_readComplaints_3 : decode cX2_readComplaints 3 = .ok (.bipush 24, 2) := by decide +kernel
theorem dX2_readComplaints_5 : decode cX2_readComplaints 5 = .ok (.if_icmp .ge 73, 3) := by decide +kernel
theorem dX2_readComplaints_8 : decode cX2_readComplaints 8 = .ok (.aload_n 0, 1) := by decide +kernel
theorem dX2_readComplaints_9 : decode cX2_readComplaints 9 = .ok (.getfield 25, 3) := by decide +kernel
theorem dX2_readComplaints_12 : decode cX2_readComplaints 12 = .ok (.ifCond .ne 66, 3) := by decide +kernel
theorem dX2_readComplaints_15 : decode cX2_readComplaints 15 = .ok (.aload_n 0, 1) := by decide +kernel
theorem dX2_readComplaints_16 : decode cX2_readComplaints 16 = .ok (.getfield 12, 3) := by decide +kernel
theorem dX2_readComplaints_19 : decode cX2_readComplaints 19 = .ok (.ldc 117, 2) := by decide +kernel
theorem dX2_readComplaints_21 : decode cX2_readComplaints 21 = .ok (.invokevirtual 107, 3) := by decide +kernel
theorem dX2_readComplaints_24 : decode cX2_readComplaints 24 = .ok (.ifCond .eq 54, 3) := by decide +kernel
theorem dX2_readComplaints_27 : decode cX2_readComplaints 27 = .ok (.aload_n 0, 1) := by decide +kernel
theorem dX2_readComplaints_28 : decode cX2_readComplaints 28 = .ok (.ldc 117, 2) := by decide +kernel
theorem dX2_readComplaints_30 : decode cX2_readComplaints 30 = .ok (.invokevirtual 77, 3) := by decide +kernel
theorem dX2_readComplaints_33 : decode cX2_readComplaints 33 = .ok (.aload_n 0, 1) := by decide +kernel
theorem dX2_readComplaints_34 : decode cX2_readComplaints 34 = .ok (.iconst 0, 1) := by decide +kernel
theorem dX2_readComplaints_35 : decode cX2_readComplaints 35 = .ok (.bipush 99, 2) := by decide +kernel
theorem dX2_readComplaints_37 : decode cX2_readComplaints 37 = .ok (.invokevirtual 83, 3) := by decide +kernel
theorem dX2_readComplaints_40 : decode cX2_readComplaints 40 = .ok (.istore_n 3, 1) := by decide +kernel
theorem dX2_readComplaints_41 : decode cX2_readComplaints 41 = .ok (.aload_n 0, 1) := by decide +kernel
theorem dX2_readComplaints_42 : decode cX2_readComplaints 42 = .ok (.aload_n 1, 1) := by decide +kernel
theorem dX2_readComplaints_43 : decode cX2_readComplaints 43 = .ok (.iload_n 3, 1) := by decide +kernel
theorem dX2_readComplaints_44 : decode cX2_readComplaints 44 = .ok (.invokevirtual 119, 3) := by decide +kernel
theorem dX2_readComplaints_47 : decode cX2_readComplaints 47 = .ok (.istore 4, 2) := by decide +kernel
theorem dX2_readComplaints_49 : decode cX2_readComplaints 49 = .ok (.aload_n 0, 1) := by decide +kernel
theorem dX2_readComplaints_50 : decode cX2_readComplaints 50 = .ok (.iconst 1, 1) := by decide +kernel
theorem dX2_readComplaints_51 : decode cX2_readComplaints 51 = .ok (.bipush 9, 2) := by decide +kernel
theorem dX2_readComplaints_53 : decode cX2_readComplaints 53 = .ok (.invokevirtual 83, 3) := by decide +kernel
theorem dX2_readComplaints_56 : decode cX2_readComplaints 56 = .ok (.istore 5, 2) := by decide +kernel
theorem dX2_readComplaints_58 : decode cX2_readComplaints 58 = .ok (.aload_n 0, 1) := by decide +kernel
theorem dX2_readComplaints_59 : decode cX2_readComplaints 59 = .ok (.invokevirtual 96, 3) := by decide +kernel
theorem dX2_readComplaints_62 : decode cX2_readComplaints 62 = .ok (.aload_n 1, 1) := by decide +kernel
theorem dX2_readComplaints_63 : decode cX2_readComplaints 63 = .ok (.iload_n 3, 1) := by decide +kernel
theorem dX2_readComplaints_64 : decode cX2_readComplaints 64 = .ok (.iload 4, 2) := by decide +kernel
theorem dX2_readComplaints_66 : decode cX2_readComplaints 66 = .ok (.iload 5, 2) := by decide +kernel
theorem dX2_readComplaints_68 : decode cX2_readComplaints 68 = .ok (.iconst 0, 1) := by decide +kernel
theorem dX2_readComplaints_69 : decode cX2_readComplaints 69 = .ok (.invokevirtual 123, 3) := by decide +kernel
theorem dX2_readComplaints_72 : decode cX2_readComplaints 72 = .ok (.iinc 2 1, 3) := by decide +kernel
theorem dX2_readComplaints_75 : decode cX2_readComplaints 75 = .ok (.goto (-73), 3) := by decide +kernel
theorem dX2_readComplaints_78 : decode cX2_readComplaints 78 = .ok (.return_, 1) := by decide +kernel
set_option maxRecDepth 20000 in
theorem ggX2_takeWord_X1_isWord : GoodIn wsX2_takeWord wsX1_isWord := goodIn_r _ [7, 8, 9, 10, 11, 12, 13, 14, 15, 16, 17, 18, 19, 20, 21, 22, 23, 24, 25, 6, 26, 27, 28, 29, 30, 31, 32, 33, 34, 35, 36, 37, 38, 39, 40, 41, 42, 43, 44, 45, 46, 47, 48, 49, 50, 51, 52, 53, 54, 55, 56, 57, 58, 59, 60, 61, 62, 63, 64, 65, 98, 99, 100, 101, 102, 103, 104, 105, 106] (by decide +kernel) (by decide +kernel)
set_option maxRecDepth 20000 in
theorem gX2_takeWord_X1_isWord : GoodIn wsX2_takeWord (wsV RX2 107 RX1 yX1_isWord wsX1_isWord) := goodIn_app (goodIn_of _ (by decide +kernel)) ggX2_takeWord_X1_isWord
set_option maxRecDepth 20000 in
theorem ggX2_takeWord_X1_advance : GoodIn wsX2_takeWord wsX1_advance := goodIn_r _ [69, 9, 10, 27, 8, 23, 24, 25, 6, 26, 28, 70, 71, 72, 73, 74, 75, 76, 77, 78, 79, 80, 81, 82, 83, 84, 85, 86, 98, 99, 100, 101, 102] (by decide +kernel) (by decide +kernel)
set_option maxRecDepth 20000 in
theorem gX2_takeWord_X1_advance : GoodIn wsX2_takeWord (wsV RX2 128 RX1 yX1_advance wsX1_advance) := goodIn_app (goodIn_of _ (by decide +kernel)) ggX2_takeWord_X1_advance
set_option maxRecDepth 20000 in
theorem ggX2_takeWord_X2_refuse : GoodIn wsX2_takeWord wsX2_refuse := goodIn_r _ [91, 1, 2, 92, 93, 94, 95, 96, 97, 98, 99, 100, 101, 102] (by decide +kernel) (by decide +kernel)
set_option maxRecDepth 20000 in
theorem gX2_takeWord_X2_refuse : GoodIn wsX2_takeWord (wsV RX2 69 RX2 yX2_refuse wsX2_refuse) := goodIn_app (goodIn_of _ (by decide +kernel)) ggX2_takeWord_X2_refuse
theorem dX2_takeWord_0 : decode cX2_takeWord 0 = .ok (.aload_n 0, 1) := by decide +kernel
theorem dX2_takeWord_1 : decode cX2_takeWord 1 = .ok (.getfield 25, 3) := by decide +kernel
theorem dX2_takeWord_4 : decode cX2_takeWord 4 = .ok (.ifCond .ne 24, 3) := by decide +kernel
theorem dX2_takeWord_7 : decode cX2_takeWord 7 = .ok (.aload_n 0, 1) := by decide +kernel
theorem dX2_takeWord_8 : decode cX2_takeWord 8 = .ok (.getfield 12, 3) := by decide +kernel
theorem dX2_takeWord_11 : decode cX2_takeWord 11 = .ok (.aload_n 1, 1) := by decide +kernel
theorem dX2_takeWord_12 : decode cX2_takeWord 12 = .ok (.invokevirtual 107, 3) := by decide +kernel
theorem dX2_takeWord_15 : decode cX2_takeWord 15 = .ok (.ifCond .eq 13, 3) := by decide +kernel
theorem dX2_takeWord_18 : decode cX2_takeWord 18 = .ok (.aload_n 0, 1) := by decide +kernel
theorem dX2_takeWord_19 : decode cX2_takeWord 19 = .ok (.getfield 12, 3) := by decide +kernel
theorem dX2_takeWord_22 : decode cX2_takeWord 22 = .ok (.invokevirtual 128, 3) := by decide +kernel
theorem dX2_takeWord_25 : decode cX2_takeWord 25 = .ok (.goto 7, 3) := by decide +kernel
theorem dX2_takeWord_28 : decode cX2_takeWord 28 = .ok (.aload_n 0, 1) := by decide +kernel
theorem dX2_takeWord_29 : decode cX2_takeWord 29 = .ok (.invokevirtual 69, 3) := by decide +kernel
theorem dX2_takeWord_32 : decode cX2_takeWord 32 = .ok (.return_, 1) := by decide +kernel
set_option maxRecDepth 20000 in
theorem ggX2_takeSemicolon_X1_advance : GoodIn wsX2_takeSemicolon wsX1_advance := goodIn_r _ [8, 9, 10, 11, 12, 13, 14, 15, 7, 16, 17, 18, 19, 20, 21, 22, 23, 24, 25, 26, 27, 28, 29, 30, 31, 32, 33, 34, 46, 47, 48, 49, 50] (by decide +kernel) (by decide +kernel)
set_option maxRecDepth 20000 in
theorem gX2_takeSemicolon_X1_advance : GoodIn wsX2_takeSemicolon (wsV RX2 128 RX1 yX1_advance wsX1_advance) := goodIn_app (goodIn_of _ (by decide +kernel)) ggX2_takeSemicolon_X1_advance
set_option maxRecDepth 20000 in
theorem ggX2_takeSemicolon_X2_refuse : GoodIn wsX2_takeSemicolon wsX2_refuse := goodIn_r _ [39, 1, 2, 40, 41, 42, 43, 44, 45, 46, 47, 48, 49, 50] (by decide +kernel) (by decide +kernel)
set_option maxRecDepth 20000 in
theorem gX2_takeSemicolon_X2_refuse : GoodIn wsX2_takeSemicolon (wsV RX2 69 RX2 yX2_refuse wsX2_refuse) := goodIn_app (goodIn_of _ (by decide +kernel)) ggX2_takeSemicolon_X2_refuse
theorem dX2_takeSemicolon_0 : decode cX2_takeSemicolon 0 = .ok (.aload_n 0, 1) := by decide +kernel
theorem dX2_takeSemicolon_1 : decode cX2_takeSemicolon 1 = .ok (.getfield 25, 3) := by decide +kernel
theorem dX2_takeSemicolon_4 : decode cX2_takeSemicolon 4 = .ok (.ifCond .ne 24, 3) := by decide +kernel
theorem dX2_takeSemicolon_7 : decode cX2_takeSemicolon 7 = .ok (.aload_n 0, 1) := by decide +kernel
theorem dX2_takeSemicolon_8 : decode cX2_takeSemicolon 8 = .ok (.getfield 12, 3) := by decide +kernel
theorem dX2_takeSemicolon_11 : decode cX2_takeSemicolon 11 = .ok (.getfield 66, 3) := by decide +kernel
theorem dX2_takeSemicolon_14 : decode cX2_takeSemicolon 14 = .ok (.iconst 3, 1) := by decide +kernel
theorem dX2_takeSemicolon_15 : decode cX2_takeSemicolon 15 = .ok (.if_icmp .ne 13, 3) := by decide +kernel
theorem dX2_takeSemicolon_18 : decode cX2_takeSemicolon 18 = .ok (.aload_n 0, 1) := by decide +kernel
theorem dX2_takeSemicolon_19 : decode cX2_takeSemicolon 19 = .ok (.getfield 12, 3) := by decide +kernel
theorem dX2_takeSemicolon_22 : decode cX2_takeSemicolon 22 = .ok (.invokevirtual 128, 3) := by decide +kernel
theorem dX2_takeSemicolon_25 : decode cX2_takeSemicolon 25 = .ok (.goto 7, 3) := by decide +kernel
theorem dX2_takeSemicolon_28 : decode cX2_takeSemicolon 28 = .ok (.aload_n 0, 1) := by decide +kernel
theorem dX2_takeSemicolon_29 : decode cX2_takeSemicolon 29 = .ok (.invokevirtual 69, 3) := by decide +kernel
theorem dX2_takeSemicolon_32 : decode cX2_takeSemicolon 32 = .ok (.return_, 1) := by decide +kernel
set_option maxRecDepth 20000 in
theorem ggX2_takeNumber_X1_number : GoodIn wsX2_takeNumber wsX1_number := goodIn_r _ [7, 8, 9, 10, 11, 12, 13, 6, 14, 15, 16, 49, 50, 51, 52, 53] (by decide +kernel) (by decide +kernel)
set_option maxRecDepth 20000 in
theorem gX2_takeNumber_X1_number : GoodIn wsX2_takeNumber (wsV RX2 131 RX1 yX1_number wsX1_number) := goodIn_app (goodIn_of _ (by decide +kernel)) ggX2_takeNumber_X1_number
set_option maxRecDepth 20000 in
theorem ggX2_takeNumber_X2_refuse : GoodIn wsX2_takeNumber wsX2_refuse := goodIn_r _ [21, 2, 1, 22, 23, 45, 46, 47, 48, 49, 50, 51, 52, 53] (by decide +kernel) (by decide +kernel)
set_option maxRecDepth 20000 in
theorem gX2_takeNumber_X2_refuse : GoodIn wsX2_takeNumber (wsV RX2 69 RX2 yX2_refuse wsX2_refuse) := goodIn_app (goodIn_of _ (by decide +kernel)) ggX2_takeNumber_X2_refuse
set_option maxRecDepth 20000 in
theorem ggX2_takeNumber_X1_advance : GoodIn wsX2_takeNumber wsX1_advance := goodIn_r _ [27, 10, 9, 15, 8, 11, 12, 13, 6, 14, 16, 28, 29, 30, 31, 32, 33, 34, 35, 36, 37, 38, 39, 40, 41, 42, 43, 44, 49, 50, 51, 52, 53] (by decide +kernel) (by decide +kernel)
set_option maxRecDepth 20000 in
theorem gX2_takeNumber_X1_advance : GoodIn wsX2_takeNumber (wsV RX2 128 RX1 yX1_advance wsX1_advance) := goodIn_app (goodIn_of _ (by decide +kernel)) ggX2_takeNumber_X1_advance
theorem dX2_takeNumber_0 : decode cX2_takeNumber 0 = .ok (.aload_n 0, 1) := by decide +kernel
theorem dX2_takeNumber_1 : decode cX2_takeNumber 1 = .ok (.getfield 12, 3) := by decide +kernel
theorem dX2_takeNumber_4 : decode cX2_takeNumber 4 = .ok (.invokevirtual 131, 3) := by decide +kernel
theorem dX2_takeNumber_7 : decode cX2_takeNumber 7 = .ok (.istore_n 3, 1) := by decide +kernel
theorem dX2_takeNumber_8 : decode cX2_takeNumber 8 = .ok (.aload_n 0, 1) := by decide +kernel
theorem dX2_takeNumber_9 : decode cX2_takeNumber 9 = .ok (.getfield 25, 3) := by decide +kernel
theorem dX2_takeNumber_12 : decode cX2_takeNumber 12 = .ok (.ifCond .ne 13, 3) := by decide +kernel
theorem dX2_takeNumber_15 : decode cX2_takeNumber 15 = .ok (.iload_n 3, 1) := by decide +kernel
theorem dX2_takeNumber_16 : decode cX2_takeNumber 16 = .ok (.iload_n 1, 1) := by decide +kernel
theorem dX2_takeNumber_17 : decode cX2_takeNumber 17 = .ok (.if_icmp .lt 8, 3) := by decide +kernel
theorem dX2_takeNumber_20 : decode cX2_takeNumber 20 = .ok (.iload_n 3, 1) := by decide +kernel
theorem dX2_takeNumber_21 : decode cX2_takeNumber 21 = .ok (.iload_n 2, 1) := by decide +kernel
theorem dX2_takeNumber_22 : decode cX2_takeNumber 22 = .ok (.if_icmp .le 9, 3) := by decide +kernel
theorem dX2_takeNumber_25 : decode cX2_takeNumber 25 = .ok (.aload_n 0, 1) := by decide +kernel
theorem dX2_takeNumber_26 : decode cX2_takeNumber 26 = .ok (.invokevirtual 69, 3) := by decide +kernel
theorem dX2_takeNumber_29 : decode cX2_takeNumber 29 = .ok (.iload_n 1, 1) := by decide +kernel
theorem dX2_takeNumber_30 : decode cX2_takeNumber 30 = .ok (.ireturn, 1) := by decide +kernel
theorem dX2_takeNumber_31 : decode cX2_takeNumber 31 = .ok (.aload_n 0, 1) := by decide +kernel
theorem dX2_takeNumber_32 : decode cX2_takeNumber 32 = .ok (.getfield 12, 3) := by decide +kernel
theorem dX2_takeNumber_35 : decode cX2_takeNumber 35 = .ok (.invokevirtual 128, 3) := by decide +kernel
theorem dX2_takeNumber_38 : decode cX2_takeNumber 38 = .ok (.iload_n 3, 1) := by decide +kernel
theorem dX2_takeNumber_39 : decode cX2_takeNumber 39 = .ok (.ireturn, 1) := by decide +kernel
set_option maxRecDepth 20000 in
theorem ggX2_takeSort_X2_sortOfWord : GoodIn wsX2_takeSort wsX2_sortOfWord := goodIn_r _ [7, 2, 8, 9, 10, 11, 12, 13, 14, 15, 16, 17, 18, 19, 20, 21, 22, 23, 24, 25, 26, 27, 28, 29, 30, 31, 32, 33, 34, 35, 36, 37, 38, 39, 40, 41, 42, 43, 44, 45, 46, 47, 48, 49, 50, 51, 52, 53, 54, 55, 56, 57, 58, 59, 60, 61, 62, 63, 64, 65, 66, 67, 68, 69, 70, 107, 108, 109, 110, 111, 112, 113, 114, 115, 116, 117, 118, 119] (by decide +kernel) (by decide +kernel)
set_option maxRecDepth 20000 in
theorem gX2_takeSort_X2_sortOfWord : GoodIn wsX2_takeSort (wsV RX2 135 RX2 yX2_sortOfWord wsX2_sortOfWord) := goodIn_app (goodIn_of _ (by decide +kernel)) ggX2_takeSort_X2_sortOfWord
set_option maxRecDepth 20000 in
theorem ggX2_takeSort_X5_findWaiting : GoodIn wsX2_takeSort wsX5_findWaiting := goodIn_r _ [75, 76, 77, 78, 79, 120, 121, 122, 123, 124, 125, 126, 127] (by decide +kernel) (by decide +kernel)
set_option maxRecDepth 20000 in
theorem gX2_takeSort_X5_findWaiting : GoodIn wsX2_takeSort (wsV RX2 138 RX5 yX5_findWaiting wsX5_findWaiting) := goodIn_app (goodIn_of _ (by decide +kernel)) ggX2_takeSort_X5_findWaiting
set_option maxRecDepth 20000 in
theorem ggX2_takeSort_X2_refuse : GoodIn wsX2_takeSort wsX2_refuse := goodIn_r _ [83, 1, 2, 84, 85, 107, 108, 109, 110, 111, 112, 113, 114, 115] (by decide +kernel) (by decide +kernel)
set_option maxRecDepth 20000 in
theorem gX2_takeSort_X2_refuse : GoodIn wsX2_takeSort (wsV RX2 69 RX2 yX2_refuse wsX2_refuse) := goodIn_app (goodIn_of _ (by decide +kernel)) ggX2_takeSort_X2_refuse
set_option maxRecDepth 20000 in
theorem ggX2_takeSort_X1_advance : GoodIn wsX2_takeSort wsX1_advance := goodIn_r _ [89, 14, 15, 32, 13, 28, 29, 30, 11, 31, 33, 90, 91, 92, 93, 94, 95, 96, 97, 98, 99, 100, 101, 102, 103, 104, 105, 106, 111, 112, 113, 114, 115] (by decide +kernel) (by decide +kernel)
set_option maxRecDepth 20000 in
theorem gX2_takeSort_X1_advance : GoodIn wsX2_takeSort (wsV RX2 128 RX1 yX1_advance wsX1_advance) := goodIn_app (goodIn_of _ (by decide +kernel)) ggX2_takeSort_X1_advance
theorem dX2_takeSort_0 : decode cX2_takeSort 0 = .ok (.aload_n 0, 1) := by decide +kernel
theorem dX2_takeSort_1 : decode cX2_takeSort 1 = .ok (.invokevirtual 135, 3) := by decide +kernel
theorem dX2_takeSort_4 : decode cX2_takeSort 4 = .ok (.istore_n 3, 1) := by decide +kernel
theorem dX2_takeSort_5 : decode cX2_takeSort 5 = .ok (.aload_n 0, 1) := by decide +kernel
theorem dX2_takeSort_6 : decode cX2_takeSort 6 = .ok (.getfield 25, 3) := by decide +kernel
theorem dX2_takeSort_9 : decode cX2_takeSort 9 = .ok (.ifCond .ne 18, 3) := by decide +kernel
theorem dX2_takeSort_12 : decode cX2_takeSort 12 = .ok (.iload_n 3, 1) := by decide +kernel
theorem dX2_takeSort_13 : decode cX2_takeSort 13 = .ok (.iconst (-1), 1) := by decide +kernel
theorem dX2_takeSort_14 : decode cX2_takeSort 14 = .ok (.if_icmp .eq 13, 3) := by decide +kernel
theorem dX2_takeSort_17 : decode cX2_takeSort 17 = .ok (.aload_n 1, 1) := by decide +kernel
theorem dX2_takeSort_18 : decode cX2_takeSort 18 = .ok (.iload_n 2, 1) := by decide +kernel
theorem dX2_takeSort_19 : decode cX2_takeSort 19 = .ok (.iload_n 3, 1) := by decide +kernel
theorem dX2_takeSort_20 : decode cX2_takeSort 20 = .ok (.invokevirtual 138, 3) := by decide +kernel
theorem dX2_takeSort_23 : decode cX2_takeSort 23 = .ok (.iconst (-1), 1) := by decide +kernel
theorem dX2_takeSort_24 : decode cX2_takeSort 24 = .ok (.if_icmp .eq 9, 3) := by decide +kernel
theorem dX2_takeSort_27 : decode cX2_takeSort 27 = .ok (.aload_n 0, 1) := by decide +kernel
theorem dX2_takeSort_28 : decode cX2_takeSort 28 = .ok (.invokevirtual 69, 3) := by decide +kernel
theorem dX2_takeSort_31 : decode cX2_takeSort 31 = .ok (.iconst 0, 1) := by decide +kernel
theorem dX2_takeSort_32 : decode cX2_takeSort 32 = .ok (.ireturn, 1) := by decide +kernel
theorem dX2_takeSort_33 : decode cX2_takeSort 33 = .ok (.aload_n 0, 1) := by decide +kernel
theorem dX2_takeSort_34 : decode cX2_takeSort 34 = .ok (.getfield 12, 3) := by decide +kernel
theorem dX2_takeSort_37 : decode cX2_takeSort 37 = .ok (.invokevirtual 128, 3) := by decide +kernel
theorem dX2_takeSort_40 : decode cX2_takeSort 40 = .ok (.iload_n 3, 1) := by decide +kernel
theorem dX2_takeSort_41 : decode cX2_takeSort 41 = .ok (.ireturn, 1) := by decide +kernel
set_option maxRecDepth 20000 in
theorem ggX2_sortOfWord_X1_isWord : GoodIn wsX2_sortOfWord wsX1_isWord := goodIn_r _ [6, 7, 8, 9, 10, 11, 12, 13, 14, 15, 16, 17, 18, 19, 20, 21, 22, 23, 24, 5, 25, 26, 27, 28, 29, 30, 31, 32, 33, 34, 35, 36, 37, 38, 39, 40, 41, 42, 43, 44, 45, 46, 47, 48, 49, 50, 51, 52, 53, 54, 55, 56, 57, 58, 59, 60, 61, 62, 63, 64, 69, 70, 71, 72, 73, 74, 75, 76, 77] (by decide +kernel) (by decide +kernel)
set_option maxRecDepth 20000 in
theorem gX2_sortOfWord_X1_isWord : GoodIn wsX2_sortOfWord (wsV RX2 107 RX1 yX1_isWord wsX1_isWord) := goodIn_app (goodIn_of _ (by decide +kernel)) ggX2_sortOfWord_X1_isWord
theorem dX2_sortOfWord_0 : decode cX2_sortOfWord 0 = .ok (.aload_n 0, 1) := by decide +kernel
theorem dX2_sortOfWord_1 : decode cX2_sortOfWord 1 = .ok (.getfield 12, 3) := by decide +kernel
theorem dX2_sortOfWord_4 : decode cX2_sortOfWord 4 = .ok (.ldc 141, 2) := by decide +kernel
theorem dX2_sortOfWord_6 : decode cX2_sortOfWord 6 = .ok (.invokevirtual 107, 3) := by decide +kernel
theorem dX2_sortOfWord_9 : decode cX2_sortOfWord 9 = .ok (.ifCond .eq 5, 3) := by decide +kernel
theorem dX2_sortOfWord_12 : decode cX2_sortOfWord 12 = .ok (.iconst 0, 1) := by decide +kernel
theorem dX2_sortOfWord_13 : decode cX2_sortOfWord 13 = .ok (.ireturn, 1) := by decide +kernel
theorem dX2_sortOfWord_14 : decode cX2_sortOfWord 14 = .ok (.aload_n 0, 1) := by decide +kernel
theorem dX2_sortOfWord_15 : decode cX2_sortOfWord 15 = .ok (.getfield 12, 3) := by decide +kernel
theorem dX2_sortOfWord_18 : decode cX2_sortOfWord 18 = .ok (.ldc 143, 2) := by decide +kernel
theorem dX2_sortOfWord_20 : decode cX2_sortOfWord 20 = .ok (.invokevirtual 107, 3) := by decide +kernel
theorem dX2_sortOfWord_23 : decode cX2_sortOfWord 23 = .ok (.ifCond .eq 5, 3) := by decide +kernel
theorem dX2_sortOfWord_26 : decode cX2_sortOfWord 26 = .ok (.iconst 1, 1) := by decide +kernel
theorem dX2_sortOfWord_27 : decode cX2_sortOfWord 27 = .ok (.ireturn, 1) := by decide +kernel
theorem dX2_sortOfWord_28 : decode cX2_sortOfWord 28 = .ok (.aload_n 0, 1) := by decide +kernel
theorem dX2_sortOfWord_29 : decode cX2_sortOfWord 29 = .ok (.getfield 12, 3) := by decide +kernel
theorem dX2_sortOfWord_32 : decode cX2_sortOfWord 32 = .ok (.ldc 145, 2) := by decide +kernel
theorem dX2_sortOfWord_34 : decode cX2_sortOfWord 34 = .ok (.invokevirtual 107, 3) := by decide +kernel
theorem dX2_sortOfWord_37 : decode cX2_sortOfWord 37 = .ok (.ifCond .eq 5, 3) := by decide +kernel
theorem dX2_sortOfWord_40 : decode cX2_sortOfWord 40 = .ok (.iconst 2, 1) := by decide +kernel
theorem dX2_sortOfWord_41 : decode cX2_sortOfWord 41 = .ok (.ireturn, 1) := by decide +kernel
theorem dX2_sortOfWord_42 : decode cX2_sortOfWord 42 = .ok (.aload_n 0, 1) := by decide +kernel
theorem dX2_sortOfWord_43 : decode cX2_sortOfWord 43 = .ok (.getfield 12, 3) := by decide +kernel
theorem dX2_sortOfWord_46 : decode cX2_sortOfWord 46 = .ok (.ldc 147, 2) := by decide +kernel
theorem dX2_sortOfWord_48 : decode cX2_sortOfWord 48 = .ok (.invokevirtual 107, 3) := by decide +kernel
theorem dX2_sortOfWord_51 : decode cX2_sortOfWord 51 = .ok (.ifCond .eq 7, 3) := by decide +kernel
theorem dX2_sortOfWord_54 : decode cX2_sortOfWord 54 = .ok (.iconst 3, 1) := by decide +kernel
theorem dX2_sortOfWord_55 : decode cX2_sortOfWord 55 = .ok (.goto 4, 3) := by decide +kernel
theorem dX2_sortOfWord_58 : decode cX2_sortOfWord 58 = .ok (.iconst (-1), 1) := by decide +kernel
theorem dX2_sortOfWord_59 : decode cX2_sortOfWord 59 = .ok (.ireturn, 1) := by decide +kernel
theorem dX2_refuse_0 : decode cX2_refuse 0 = .ok (.aload_n 0, 1) := by decide +kernel
theorem dX2_refuse_1 : decode cX2_refuse 1 = .ok (.getfield 25, 3) := by decide +kernel
theorem dX2_refuse_4 : decode cX2_refuse 4 = .ok (.ifCond .ne 19, 3) := by decide +kernel
theorem dX2_refuse_7 : decode cX2_refuse 7 = .ok (.aload_n 0, 1) := by decide +kernel
theorem dX2_refuse_8 : decode cX2_refuse 8 = .ok (.iconst 1, 1) := by decide +kernel
theorem dX2_refuse_9 : decode cX2_refuse 9 = .ok (.putfield 25, 3) := by decide +kernel
theorem dX2_refuse_12 : decode cX2_refuse 12 = .ok (.aload_n 0, 1) := by decide +kernel
theorem dX2_refuse_13 : decode cX2_refuse 13 = .ok (.aload_n 0, 1) := by decide +kernel
theorem dX2_refuse_14 : decode cX2_refuse 14 = .ok (.getfield 12, 3) := by decide +kernel
theorem dX2_refuse_17 : decode cX2_refuse 17 = .ok (.getfield 149, 3) := by decide +kernel
theorem dX2_refuse_20 : decode cX2_refuse 20 = .ok (.putfield 29, 3) := by decide +kernel
theorem dX2_refuse_23 : decode cX2_refuse 23 = .ok (.return_, 1) := by decide +kernel
set_option maxRecDepth 20000 in
theorem ggX3_init_X6_init : GoodIn wsX3_init wsX6_init := goodIn_r _ [17, 18, 2, 3, 19, 20, 36, 37, 38, 39, 40] (by decide +kernel) (by decide +kernel)
set_option maxRecDepth 20000 in
theorem gX3_init_X6_init_n11 : GoodIn wsX3_init (wsX6_init) := ggX3_init_X6_init
set_option maxRecDepth 20000 in
theorem ggX3_init_X8_init : GoodIn wsX3_init wsX8_init := goodIn_r _ [22, 23, 2, 3, 19, 24, 25, 45, 46, 47, 48] (by decide +kernel) (by decide +kernel)
set_option maxRecDepth 20000 in
theorem gX3_init_X8_init_n20 : GoodIn wsX3_init (wsX8_init) := ggX3_init_X8_init
set_option maxRecDepth 20000 in
theorem ggX3_init_X5_init : GoodIn wsX3_init wsX5_init := goodIn_r _ [27, 28, 2, 3, 19, 29, 30, 31, 32, 33, 34, 35, 49, 50, 51, 52, 53, 54, 55, 56] (by decide +kernel) (by decide +kernel)
set_option maxRecDepth 20000 in
theorem gX3_init_X5_init_n27 : GoodIn wsX3_init (wsX5_init) := ggX3_init_X5_init
theorem dX3_init_0 : decode cX3_init 0 = .ok (.aload_n 0, 1) := by decide +kernel
theorem dX3_init_1 : decode cX3_init 1 = .ok (.invokespecial 3, 3) := by decide +kernel
theorem dX3_init_4 : decode cX3_init 4 = .ok (.aload_n 0, 1) := by decide +kernel
theorem dX3_init_5 : decode cX3_init 5 = .ok (.new 9, 3) := by decide +kernel
theorem dX3_init_8 : decode cX3_init 8 = .ok (.dup, 1) := by decide +kernel
theorem dX3_init_9 : decode cX3_init 9 = .ok (.invokespecial 11, 3) := by decide +kernel
theorem dX3_init_12 : decode cX3_init 12 = .ok (.putfield 12, 3) := by decide +kernel
theorem dX3_init_15 : decode cX3_init 15 = .ok (.aload_n 0, 1) := by decide +kernel
theorem dX3_init_16 : decode cX3_init 16 = .ok (.new 18, 3) := by decide +kernel
theorem dX3_init_19 : decode cX3_init 19 = .ok (.dup, 1) := by decide +kernel
theorem dX3_init_20 : decode cX3_init 20 = .ok (.invokespecial 20, 3) := by decide +kernel
theorem dX3_init_23 : decode cX3_init 23 = .ok (.putfield 21, 3) := by decide +kernel
theorem dX3_init_26 : decode cX3_init 26 = .ok (.aload_n 0, 1) := by decide +kernel
theorem dX3_init_27 : decode cX3_init 27 = .ok (.new 25, 3) := by decide +kernel
theorem dX3_init_30 : decode cX3_init 30 = .ok (.dup, 1) := by decide +kernel
theorem dX3_init_31 : decode cX3_init 31 = .ok (.invokespecial 27, 3) := by decide +kernel
theorem dX3_init_34 : decode cX3_init 34 = .ok (.putfield 28, 3) := by decide +kernel
theorem dX3_init_37 : decode cX3_init 37 = .ok (.return_, 1) := by decide +kernel
theorem dX3_clear_0 : decode cX3_clear 0 = .ok (.aload_n 0, 1) := by decide +kernel
theorem dX3_clear_1 : decode cX3_clear 1 = .ok (.iconst 0, 1) := by decide +kernel
theorem dX3_clear_2 : decode cX3_clear 2 = .ok (.putfield 32, 3) := by decide +kernel
theorem dX3_clear_5 : decode cX3_clear 5 = .ok (.aload_n 0, 1) := by decide +kernel
theorem dX3_clear_6 : decode cX3_clear 6 = .ok (.getfield 12, 3) := by decide +kernel
theorem dX3_clear_9 : decode cX3_clear 9 = .ok (.iconst 0, 1) := by decide +kernel
theorem dX3_clear_10 : decode cX3_clear 10 = .ok (.putfield 36, 3) := by decide +kernel
theorem dX3_clear_13 : decode cX3_clear 13 = .ok (.aload_n 0, 1) := by decide +kernel
theorem dX3_clear_14 : decode cX3_clear 14 = .ok (.getfield 21, 3) := by decide +kernel
theorem dX3_clear_17 : decode cX3_clear 17 = .ok (.iconst 0, 1) := by decide +kernel
theorem dX3_clear_18 : decode cX3_clear 18 = .ok (.putfield 39, 3) := by decide +kernel
theorem dX3_clear_21 : decode cX3_clear 21 = .ok (.aload_n 0, 1) := by decide +kernel
theorem dX3_clear_22 : decode cX3_clear 22 = .ok (.getfield 21, 3) := by decide +kernel
theorem dX3_clear_25 : decode cX3_clear 25 = .ok (.iconst 0, 1) := by decide +kernel
theorem dX3_clear_26 : decode cX3_clear 26 = .ok (.putfield 40, 3) := by decide +kernel
theorem dX3_clear_29 : decode cX3_clear 29 = .ok (.aload_n 0, 1) := by decide +kernel
theorem dX3_clear_30 : decode cX3_clear 30 = .ok (.getfield 28, 3) := by decide +kernel
theorem dX3_clear_33 : decode cX3_clear 33 = .ok (.iconst 0, 1) := by decide +kernel
theorem dX3_clear_34 : decode cX3_clear 34 = .ok (.putfield 43, 3) := by decide +kernel
theorem dX3_clear_37 : decode cX3_clear 37 = .ok (.return_, 1) := by decide +kernel
set_option maxRecDepth 20000 in
theorem ggX3_endOneNight_X6_justifiedSorts : GoodIn wsX3_endOneNight wsX6_justifiedSorts := goodIn_r _ [10, 11, 12, 13, 9, 14, 15, 16, 17, 18, 19, 20, 21, 22, 23, 24, 25, 26, 27, 28, 29, 30, 31, 32, 33, 34, 35, 36, 37, 105, 106, 107, 108, 109] (by decide +kernel) (by decide +kernel)
set_option maxRecDepth 20000 in
theorem gX3_endOneNight_X6_justifiedSorts : GoodIn wsX3_endOneNight (wsV RX3 44 RX6 yX6_justifiedSorts wsX6_justifiedSorts) := goodIn_app (goodIn_of _ (by decide +kernel)) ggX3_endOneNight_X6_justifiedSorts
set_option maxRecDepth 20000 in
theorem ggX3_endOneNight_X6_costIn : GoodIn wsX3_endOneNight wsX6_costIn := goodIn_r _ [41, 18, 19, 20, 9, 21, 22, 23, 24, 25, 26, 27, 28, 29, 30, 31, 32, 33, 34, 105, 106, 107, 108, 109] (by decide +kernel) (by decide +kernel)
set_option maxRecDepth 20000 in
theorem gX3_endOneNight_X6_costIn : GoodIn wsX3_endOneNight (wsV RX3 48 RX6 yX6_costIn wsX6_costIn) := goodIn_app (goodIn_of _ (by decide +kernel)) ggX3_endOneNight_X6_costIn
set_option maxRecDepth 20000 in
theorem ggX3_endOneNight_X3_workOf : GoodIn wsX3_endOneNight wsX3_workOf := goodIn_r _ [46, 3, 47, 48, 5, 2, 49, 50, 51, 52, 53, 54, 55, 56, 57, 58, 59, 60, 61, 62, 63, 64, 65, 66, 67, 68, 69, 70, 71, 72, 73, 74, 75, 76, 77, 78, 79, 80, 81, 82, 83, 84, 85, 86, 87, 88, 97, 98, 99, 100, 101, 102, 103, 104, 110, 111, 112, 113, 114, 115, 116, 117] (by decide +kernel) (by decide +kernel)
set_option maxRecDepth 20000 in
theorem gX3_endOneNight_X3_workOf : GoodIn wsX3_endOneNight (wsV RX3 51 RX3 yX3_workOf wsX3_workOf) := goodIn_app (goodIn_of _ (by decide +kernel)) ggX3_endOneNight_X3_workOf
set_option maxRecDepth 20000 in
theorem ggX3_endOneNight_X5_growOlder : GoodIn wsX3_endOneNight wsX5_growOlder := goodIn_r _ [92, 54, 55, 76, 57, 93, 94, 27, 95, 96, 59, 60, 52, 61, 62, 63, 64, 65, 66, 67, 110, 111, 112, 113, 114, 115, 116, 117] (by decide +kernel) (by decide +kernel)
set_option maxRecDepth 20000 in
theorem gX3_endOneNight_X5_growOlder : GoodIn wsX3_endOneNight (wsV RX3 55 RX5 yX5_growOlder wsX5_growOlder) := goodIn_app (goodIn_of _ (by decide +kernel)) ggX3_endOneNight_X5_growOlder
theorem dX3_endOneNight_0 : decode cX3_endOneNight 0 = .ok (.aload_n 0, 1) := by decide +kernel
theorem dX3_endOneNight_1 : decode cX3_endOneNight 1 = .ok (.getfield 12, 3) := by decide +kernel
theorem dX3_endOneNight_4 : decode cX3_endOneNight 4 = .ok (.aload_n 0, 1) := by decide +kernel
theorem dX3_endOneNight_5 : decode cX3_endOneNight 5 = .ok (.getfield 32, 3) := by decide +kernel
theorem dX3_endOneNight_8 : decode cX3_endOneNight 8 = .ok (.invokevirtual 44, 3) := by decide +kernel
theorem dX3_endOneNight_11 : decode cX3_endOneNight 11 = .ok (.istore_n 1, 1) := by decide +kernel
theorem dX3_endOneNight_12 : decode cX3_endOneNight 12 = .ok (.aload_n 0, 1) := by decide +kernel
theorem dX3_endOneNight_13 : decode cX3_endOneNight 13 = .ok (.getfield 12, 3) := by decide +kernel
theorem dX3_endOneNight_16 : decode cX3_endOneNight 16 = .ok (.aload_n 0, 1) := by decide +kernel
theorem dX3_endOneNight_17 : decode cX3_endOneNight 17 = .ok (.getfield 32, 3) := by decide +kernel
theorem dX3_endOneNight_20 : decode cX3_endOneNight 20 = .ok (.invokevirtual 48, 3) := by decide +kernel
theorem dX3_endOneNight_23 : decode cX3_endOneNight 23 = .ok (.istore_n 2, 1) := by decide +kernel
theorem dX3_endOneNight_24 : decode cX3_endOneNight 24 = .ok (.iconst 0, 1) := by decide +kernel
theorem dX3_endOneNight_25 : decode cX3_endOneNight 25 = .ok (.istore_n 3, 1) := by decide +kernel
theorem dX3_endOneNight_26 : decode cX3_endOneNight 26 = .ok (.iconst 0, 1) := by decide +kernel
theorem dX3_endOneNight_27 : decode cX3_endOneNight 27 = .ok (.istore 4, 2) := by decide +kernel
theorem dX3_endOneNight_29 : decode cX3_endOneNight 29 = .ok (.iload 4, 2) := by decide +kernel
theorem dX3_endOneNight_31 : decode cX3_endOneNight 31 = .ok (.aload_n 0, 1) := by decide +kernel
theorem dX3_endOneNight_32 : decode cX3_endOneNight 32 = .ok (.getfield 21, 3) := by decide +kernel
theorem dX3_endOneNight_35 : decode cX3_endOneNight 35 = .ok (.getfield 39, 3) := by decide +kernel
theorem dX3_endOneNight_38 : decode cX3_endOneNight 38 = .ok (.if_icmp .ge 20, 3) := by decide +kernel
theorem dX3_endOneNight_41 : decode cX3_endOneNight 41 = .ok (.iload_n 3, 1) := by decide +kernel
theorem dX3_endOneNight_42 : decode cX3_endOneNight 42 = .ok (.aload_n 0, 1) := by decide +kernel
theorem dX3_endOneNight_43 : decode cX3_endOneNight 43 = .ok (.iload 4, 2) := by decide +kernel
theorem dX3_endOneNight_45 : decode cX3_endOneNight 45 = .ok (.iload_n 1, 1) := by decide +kernel
theorem dX3_endOneNight_46 : decode cX3_endOneNight 46 = .ok (.iload_n 2, 1) := by decide +kernel
theorem dX3_endOneNight_47 : decode cX3_endOneNight 47 = .ok (.invokevirtual 51, 3) := by decide +kernel
theorem dX3_endOneNight_50 : decode cX3_endOneNight 50 = .ok (.iadd, 1) := by decide +kernel
theorem dX3_endOneNight_51 : decode cX3_endOneNight 51 = .ok (.istore_n 3, 1) := by decide +kernel
theorem dX3_endOneNight_52 : decode cX3_endOneNight 52 = .ok (.iinc 4 1, 3) := by decide +kernel
theorem dX3_endOneNight_55 : decode cX3_endOneNight 55 = .ok (.goto (-26), 3) := by decide +kernel
theorem dX3_endOneNight_58 : decode cX3_endOneNight 58 = .ok (.aload_n 0, 1) := by decide +kernel
theorem dX3_endOneNight_59 : decode cX3_endOneNight 59 = .ok (.dup, 1) := by decide +kernel
theorem dX3_endOneNight_60 : decode cX3_endOneNight 60 = .ok (.getfield 32, 3) := by decide +kernel
theorem dX3_endOneNight_63 : decode cX3_endOneNight 63 = .ok (.iconst 1, 1) := by decide +kernel
theorem dX3_endOneNight_64 : decode cX3_endOneNight 64 = .ok (.iadd, 1) := by decide +kernel
theorem dX3_endOneNight_65 : decode cX3_endOneNight 65 = .ok (.putfield 32, 3) := by decide +kernel
theorem dX3_endOneNight_68 : decode cX3_endOneNight 68 = .ok (.aload_n 0, 1) := by decide +kernel
theorem dX3_endOneNight_69 : decode cX3_endOneNight 69 = .ok (.getfield 28, 3) := by decide +kernel
theorem dX3_endOneNight_72 : decode cX3_endOneNight 72 = .ok (.aload_n 0, 1) := by decide +kernel
theorem dX3_endOneNight_73 : decode cX3_endOneNight 73 = .ok (.getfield 32, 3) := by decide +kernel
theorem dX3_endOneNight_76 : decode cX3_endOneNight 76 = .ok (.invokevirtual 55, 3) := by decide +kernel
theorem dX3_endOneNight_79 : decode cX3_endOneNight 79 = .ok (.iload_n 3, 1) := by decide +kernel
theorem dX3_endOneNight_80 : decode cX3_endOneNight 80 = .ok (.ireturn, 1) := by decide +kernel
set_option maxRecDepth 20000 in
theorem ggX3_workOf_X5_withMostAnger : GoodIn wsX3_workOf wsX5_withMostAnger := goodIn_r _ [10, 11, 12, 13, 14, 54, 55, 56, 57, 58, 59, 60, 61] (by decide +kernel) (by decide +kernel)
set_option maxRecDepth 20000 in
theorem gX3_workOf_X5_withMostAnger : GoodIn wsX3_workOf (wsV RX3 66 RX5 yX5_withMostAnger wsX5_withMostAnger) := goodIn_app (goodIn_of _ (by decide +kernel)) ggX3_workOf_X5_withMostAnger
set_option maxRecDepth 20000 in
theorem ggX3_workOf_X5_close : GoodIn wsX3_workOf wsX5_close := goodIn_r _ [18, 12, 19, 20, 21, 22, 23, 9, 24, 11, 54, 55, 56, 57, 58, 59, 60, 61] (by decide +kernel) (by decide +kernel)
set_option maxRecDepth 20000 in
theorem gX3_workOf_X5_close : GoodIn wsX3_workOf (wsV RX3 69 RX5 yX5_close wsX5_close) := goodIn_app (goodIn_of _ (by decide +kernel)) ggX3_workOf_X5_close
set_option maxRecDepth 20000 in
theorem ggX3_workOf_X5_oldestToDismiss : GoodIn wsX3_workOf wsX5_oldestToDismiss := goodIn_r _ [28, 29, 30, 31, 9, 32, 11, 12, 33, 54, 55, 56, 57, 58, 59, 60, 61] (by decide +kernel) (by decide +kernel)
set_option maxRecDepth 20000 in
theorem gX3_workOf_X5_oldestToDismiss : GoodIn wsX3_workOf (wsV RX3 73 RX5 yX5_oldestToDismiss wsX5_oldestToDismiss) := goodIn_app (goodIn_of _ (by decide +kernel)) ggX3_workOf_X5_oldestToDismiss
set_option maxRecDepth 20000 in
theorem ggX3_workOf_X8_burn : GoodIn wsX3_workOf wsX8_burn := goodIn_r _ [38, 39, 40, 41, 42, 43, 37, 44, 45, 50, 51, 52, 53] (by decide +kernel) (by decide +kernel)
set_option maxRecDepth 20000 in
theorem gX3_workOf_X8_burn : GoodIn wsX3_workOf (wsV RX3 76 RX8 yX8_burn wsX8_burn) := goodIn_app (goodIn_of _ (by decide +kernel)) ggX3_workOf_X8_burn
theorem dX3_workOf_0 : decode cX3_workOf 0 = .ok (.iconst 1, 1) := by decide +kernel
theorem dX3_workOf_1 : decode cX3_workOf 1 = .ok (.aload_n 0, 1) := by decide +kernel
theorem dX3_workOf_2 : decode cX3_workOf 2 = .ok (.getfield 21, 3) := by decide +kernel
theorem dX3_workOf_5 : decode cX3_workOf 5 = .ok (.getfield 59, 3) := by decide +kernel
theorem dX3_workOf_8 : decode cX3_workOf 8 = .ok (.iload_n 1, 1) := by decide +kernel
theorem dX3_workOf_9 : decode cX3_workOf 9 = .ok (.iaload, 1) := by decide +kernel
theorem dX3_workOf_10 : decode cX3_workOf 10 = .ok (.iconst 3, 1) := by decide +kernel
theorem dX3_workOf_11 : decode cX3_workOf 11 = .ok (.idiv, 1) := by decide +kernel
theorem dX3_workOf_12 : decode cX3_workOf 12 = .ok (.iadd, 1) := by decide +kernel
theorem dX3_workOf_13 : decode cX3_workOf 13 = .ok (.istore 4, 2) := by decide +kernel
theorem dX3_workOf_15 : decode cX3_workOf 15 = .ok (.iconst 0, 1) := by decide +kernel
theorem dX3_workOf_16 : decode cX3_workOf 16 = .ok (.istore 5, 2) := by decide +kernel
theorem dX3_workOf_18 : decode cX3_workOf 18 = .ok (.iconst 0, 1) := by decide +kernel
theorem dX3_workOf_19 : decode cX3_workOf 19 = .ok (.istore 6, 2) := by decide +kernel
theorem dX3_workOf_21 : decode cX3_workOf 21 = .ok (.iload 6, 2) := by decide +kernel
theorem dX3_workOf_23 : decode cX3_workOf 23 = .ok (.iload 4, 2) := by decide +kernel
theorem dX3_workOf_25 : decode cX3_workOf 25 = .ok (.if_icmp .ge 105, 3) := by decide +kernel
theorem dX3_workOf_28 : decode cX3_workOf 28 = .ok (.aload_n 0, 1) := by decide +kernel
theorem dX3_workOf_29 : decode cX3_workOf 29 = .ok (.getfield 21, 3) := by decide +kernel
theorem dX3_workOf_32 : decode cX3_workOf 32 = .ok (.getfield 63, 3) := by decide +kernel
theorem dX3_workOf_35 : decode cX3_workOf 35 = .ok (.iload_n 1, 1) := by decide +kernel
theorem dX3_workOf_36 : decode cX3_workOf 36 = .ok (.iaload, 1) := by decide +kernel
theorem dX3_workOf_37 : decode cX3_workOf 37 = .ok (.iload_n 3, 1) := by decide +kernel
theorem dX3_workOf_38 : decode cX3_workOf 38 = .ok (.if_icmp .lt 92, 3) := by decide +kernel
theorem dX3_workOf_41 : decode cX3_workOf 41 = .ok (.aload_n 0, 1) := by decide +kernel
theorem dX3_workOf_42 : decode cX3_workOf 42 = .ok (.getfield 28, 3) := by decide +kernel
theorem dX3_workOf_45 : decode cX3_workOf 45 = .ok (.iload_n 2, 1) := by decide +kernel
theorem dX3_workOf_46 : decode cX3_workOf 46 = .ok (.invokevirtual 66, 3) := by decide +kernel
theorem dX3_workOf_49 : decode cX3_workOf 49 = .ok (.istore 7, 2) := by decide +kernel
theorem dX3_workOf_51 : decode cX3_workOf 51 = .ok (.iload 7, 2) := by decide +kernel
theorem dX3_workOf_53 : decode cX3_workOf 53 = .ok (.iconst (-1), 1) := by decide +kernel
theorem dX3_workOf_54 : decode cX3_workOf 54 = .ok (.if_icmp .eq 24, 3) := by decide +kernel
theorem dX3_workOf_57 : decode cX3_workOf 57 = .ok (.aload_n 0, 1) := by decide +kernel
theorem dX3_workOf_58 : decode cX3_workOf 58 = .ok (.getfield 28, 3) := by decide +kernel
theorem dX3_workOf_61 : decode cX3_workOf 61 = .ok (.iload 7, 2) := by decide +kernel
theorem dX3_workOf_63 : decode cX3_workOf 63 = .ok (.iconst 1, 1) := by decide +kernel
theorem dX3_workOf_64 : decode cX3_workOf 64 = .ok (.aload_n 0, 1) := by decide +kernel
theorem dX3_workOf_65 : decode cX3_workOf 65 = .ok (.getfield 32, 3) := by decide +kernel
theorem dX3_workOf_68 : decode cX3_workOf 68 = .ok (.iload_n 1, 1) := by decide +kernel
theorem dX3_workOf_69 : decode cX3_workOf 69 = .ok (.invokevirtual 69, 3) := by decide +kernel
theorem dX3_workOf_72 : decode cX3_workOf 72 = .ok (.iinc 5 1, 3) := by decide +kernel
theorem dX3_workOf_75 : decode cX3_workOf 75 = .ok (.goto 40, 3) := by decide +kernel
theorem dX3_workOf_78 : decode cX3_workOf 78 = .ok (.aload_n 0, 1) := by decide +kernel
theorem dX3_workOf_79 : decode cX3_workOf 79 = .ok (.getfield 28, 3) := by decide +kernel
theorem dX3_workOf_82 : decode cX3_workOf 82 = .ok (.aload_n 0, 1) := by decide +kernel
theorem dX3_workOf_83 : decode cX3_workOf 83 = .ok (.getfield 32, 3) := by decide +kernel
theorem dX3_workOf_86 : decode cX3_workOf 86 = .ok (.invokevirtual 73, 3) := by decide +kernel
theorem dX3_workOf_89 : decode cX3_workOf 89 = .ok (.istore 7, 2) := by decide +kernel
theorem dX3_workOf_91 : decode cX3_workOf 91 = .ok (.iload 7, 2) := by decide +kernel
theorem dX3_workOf_93 : decode cX3_workOf 93 = .ok (.iconst (-1), 1) := by decide +kernel
theorem dX3_workOf_94 : decode cX3_workOf 94 = .ok (.if_icmp .ne 6, 3) := by decide +kernel
theorem dX3_workOf_97 : decode cX3_workOf 97 = .ok (.goto 33, 3) := by decide +kernel
theorem dX3_workOf_100 : decode cX3_workOf 100 = .ok (.aload_n 0, 1) := by decide +kernel
theorem dX3_workOf_101 : decode cX3_workOf 101 = .ok (.getfield 28, 3) := by decide +kernel
theorem dX3_workOf_104 : decode cX3_workOf 104 = .ok (.iload 7, 2) := by decide +kernel
theorem dX3_workOf_106 : decode cX3_workOf 106 = .ok (.iconst 2, 1) := by decide +kernel
theorem dX3_workOf_107 : decode cX3_workOf 107 = .ok (.aload_n 0, 1) := by decide +kernel
theorem dX3_workOf_108 : decode cX3_workOf 108 = .ok (.getfield 32, 3) := by decide +kernel
theorem dX3_workOf_111 : decode cX3_workOf 111 = .ok (.iload_n 1, 1) := by decide +kernel
theorem dX3_workOf_112 : decode cX3_workOf 112 = .ok (.invokevirtual 69, 3) := by decide +kernel
theorem dX3_workOf_115 : decode cX3_workOf 115 = .ok (.aload_n 0, 1) := by decide +kernel
theorem dX3_workOf_116 : decode cX3_workOf 116 = .ok (.getfield 21, 3) := by decide +kernel
theorem dX3_workOf_119 : decode cX3_workOf 119 = .ok (.iload_n 1, 1) := by decide +kernel
theorem dX3_workOf_120 : decode cX3_workOf 120 = .ok (.iload_n 3, 1) := by decide +kernel
theorem dX3_workOf_121 : decode cX3_workOf 121 = .ok (.invokevirtual 76, 3) := by decide +kernel
theorem dX3_workOf_124 : decode cX3_workOf 124 = .ok (.iinc 6 1, 3) := by decide +kernel
theorem dX3_workOf_127 : decode cX3_workOf 127 = .ok (.goto (-106), 3) := by decide +kernel
theorem dX3_workOf_130 : decode cX3_workOf 130 = .ok (.iload 5, 2) := by decide +kernel
theorem dX3_workOf_132 : decode cX3_workOf 132 = .ok (.ireturn, 1) := by decide +kernel
set_option maxRecDepth 20000 in
theorem ggX3_copyFrom_X6_copyFrom : GoodIn wsX3_copyFrom wsX6_copyFrom := goodIn_r _ [9, 10, 11, 12, 13, 14, 15, 16, 17, 18, 47, 48, 49, 50, 51] (by decide +kernel) (by decide +kernel)
set_option maxRecDepth 20000 in
theorem gX3_copyFrom_X6_copyFrom : GoodIn wsX3_copyFrom (wsV RX3 80 RX6 yX6_copyFrom wsX6_copyFrom) := goodIn_app (goodIn_of _ (by decide +kernel)) ggX3_copyFrom_X6_copyFrom
set_option maxRecDepth 20000 in
theorem ggX3_copyFrom_X8_copyFrom : GoodIn wsX3_copyFrom wsX8_copyFrom := goodIn_r _ [23, 24, 25, 26, 27, 16, 17, 18, 28, 52, 53, 54, 55] (by decide +kernel) (by decide +kernel)
set_option maxRecDepth 20000 in
theorem gX3_copyFrom_X8_copyFrom : GoodIn wsX3_copyFrom (wsV RX3 84 RX8 yX8_copyFrom wsX8_copyFrom) := goodIn_app (goodIn_of _ (by decide +kernel)) ggX3_copyFrom_X8_copyFrom
set_option maxRecDepth 20000 in
theorem ggX3_copyFrom_X5_copyFrom : GoodIn wsX3_copyFrom wsX5_copyFrom := goodIn_r _ [33, 34, 35, 36, 16, 17, 18, 37, 38, 39, 40, 41, 42, 56, 57, 58, 59, 60, 61, 62, 63] (by decide +kernel) (by decide +kernel)
set_option maxRecDepth 20000 in
theorem gX3_copyFrom_X5_copyFrom : GoodIn wsX3_copyFrom (wsV RX3 87 RX5 yX5_copyFrom wsX5_copyFrom) := goodIn_app (goodIn_of _ (by decide +kernel)) ggX3_copyFrom_X5_copyFrom
theorem dX3_copyFrom_0 : decode cX3_copyFrom 0 = .ok (.aload_n 0, 1) := by decide +kernel
theorem dX3_copyFrom_1 : decode cX3_copyFrom 1 = .ok (.aload_n 1, 1) := by decide +kernel
theorem dX3_copyFrom_2 : decode cX3_copyFrom 2 = .ok (.getfield 32, 3) := by decide +kernel
theorem dX3_copyFrom_5 : decode cX3_copyFrom 5 = .ok (.putfield 32, 3) := by decide +kernel
theorem dX3_copyFrom_8 : decode cX3_copyFrom 8 = .ok (.aload_n 0, 1) := by decide +kernel
theorem dX3_copyFrom_9 : decode cX3_copyFrom 9 = .ok (.getfield 12, 3) := by decide +kernel
theorem dX3_copyFrom_12 : decode cX3_copyFrom 12 = .ok (.aload_n 1, 1) := by decide +kernel
theorem dX3_copyFrom_13 : decode cX3_copyFrom 13 = .ok (.getfield 12, 3) := by decide +kernel
theorem dX3_copyFrom_16 : decode cX3_copyFrom 16 = .ok (.invokevirtual 80, 3) := by decide +kernel
theorem dX3_copyFrom_19 : decode cX3_copyFrom 19 = .ok (.aload_n 0, 1) := by decide +kernel
theorem dX3_copyFrom_20 : decode cX3_copyFrom 20 = .ok (.getfield 21, 3) := by decide +kernel
theorem dX3_copyFrom_23 : decode cX3_copyFrom 23 = .ok (.aload_n 1, 1) := by decide +kernel
theorem dX3_copyFrom_24 : decode cX3_copyFrom 24 = .ok (.getfield 21, 3) := by decide +kernel
theorem dX3_copyFrom_27 : decode cX3_copyFrom 27 = .ok (.invokevirtual 84, 3) := by decide +kernel
theorem dX3_copyFrom_30 : decode cX3_copyFrom 30 = .ok (.aload_n 0, 1) := by decide +kernel
theorem dX3_copyFrom_31 : decode cX3_copyFrom 31 = .ok (.getfield 28, 3) := by decide +kernel
theorem dX3_copyFrom_34 : decode cX3_copyFrom 34 = .ok (.aload_n 1, 1) := by decide +kernel
theorem dX3_copyFrom_35 : decode cX3_copyFrom 35 = .ok (.getfield 28, 3) := by decide +kernel
theorem dX3_copyFrom_38 : decode cX3_copyFrom 38 = .ok (.invokevirtual 87, 3) := by decide +kernel
theorem dX3_copyFrom_41 : decode cX3_copyFrom 41 = .ok (.return_, 1) := by decide +kernel
theorem dX4_init_0 : decode cX4_init 0 = .ok (.aload_n 0, 1) := by decide +kernel
theorem dX4_init_1 : decode cX4_init 1 = .ok (.invokespecial 3, 3) := by decide +kernel
theorem dX4_init_4 : decode cX4_init 4 = .ok (.aload_n 0, 1) := by decide +kernel
theorem dX4_init_5 : decode cX4_init 5 = .ok (.bipush 120, 2) := by decide +kernel
theorem dX4_init_7 : decode cX4_init 7 = .ok (.newarray .int, 2) := by decide +kernel
theorem dX4_init_9 : decode cX4_init 9 = .ok (.putfield 11, 3) := by decide +kernel
theorem dX4_init_12 : decode cX4_init 12 = .ok (.return_, 1) := by decide +kernel
set_option maxRecDepth 20000 in
theorem ggX4_writeLine_X4_put : GoodIn wsX4_writeLine wsX4_put := goodIn_r _ [5, 6, 7, 11, 12] (by decide +kernel) (by decide +kernel)
set_option maxRecDepth 20000 in
theorem gX4_writeLine_X4_put : GoodIn wsX4_writeLine (wsV RX4 15 RX4 yX4_put wsX4_put) := goodIn_app (goodIn_of _ (by decide +kernel)) ggX4_writeLine_X4_put
set_option maxRecDepth 20000 in
theorem ggX4_writeLine_X4_letterOf : GoodIn wsX4_writeLine wsX4_letterOf := goodIn_r _ [10] (by decide +kernel) (by decide +kernel)
set_option maxRecDepth 20000 in
theorem gX4_writeLine_X4_letterOf : GoodIn wsX4_writeLine (va_wsS RX4 19 yX4_letterOf wsX4_letterOf) := goodIn_app (goodIn_of _ (by decide +kernel)) ggX4_writeLine_X4_letterOf
theorem dX4_writeLine_0 : decode cX4_writeLine 0 = .ok (.iload_n 1, 1) := by decide +kernel
theorem dX4_writeLine_1 : decode cX4_writeLine 1 = .ok (.bipush 10, 2) := by decide +kernel
theorem dX4_writeLine_3 : decode cX4_writeLine 3 = .ok (.if_icmp .lt 14, 3) := by decide +kernel
theorem dX4_writeLine_6 : decode cX4_writeLine 6 = .ok (.aload_n 0, 1) := by decide +kernel
theorem dX4_writeLine_7 : decode cX4_writeLine 7 = .ok (.bipush 48, 2) := by decide +kernel
theorem dX4_writeLine_9 : decode cX4_writeLine 9 = .ok (.iload_n 1, 1) := by decide +kernel
theorem dX4_writeLine_10 : decode cX4_writeLine 10 = .ok (.bipush 10, 2) := by decide +kernel
theorem dX4_writeLine_12 : decode cX4_writeLine 12 = .ok (.idiv, 1) := by decide +kernel
theorem dX4_writeLine_13 : decode cX4_writeLine 13 = .ok (.iadd, 1) := by decide +kernel
theorem dX4_writeLine_14 : decode cX4_writeLine 14 = .ok (.invokevirtual 15, 3) := by decide +kernel
theorem dX4_writeLine_17 : decode cX4_writeLine 17 = .ok (.aload_n 0, 1) := by decide +kernel
theorem dX4_writeLine_18 : decode cX4_writeLine 18 = .ok (.bipush 48, 2) := by decide +kernel
theorem dX4_writeLine_20 : decode cX4_writeLine 20 = .ok (.iload_n 1, 1) := by decide +kernel
theorem dX4_writeLine_21 : decode cX4_writeLine 21 = .ok (.bipush 10, 2) := by decide +kernel
theorem dX4_writeLine_23 : decode cX4_writeLine 23 = .ok (.irem, 1) := by decide +kernel
theorem dX4_writeLine_24 : decode cX4_writeLine 24 = .ok (.iadd, 1) := by decide +kernel
theorem dX4_writeLine_25 : decode cX4_writeLine 25 = .ok (.invokevirtual 15, 3) := by decide +kernel
theorem dX4_writeLine_28 : decode cX4_writeLine 28 = .ok (.aload_n 0, 1) := by decide +kernel
theorem dX4_writeLine_29 : decode cX4_writeLine 29 = .ok (.bipush 58, 2) := by decide +kernel
theorem dX4_writeLine_31 : decode cX4_writeLine 31 = .ok (.invokevirtual 15, 3) := by decide +kernel
theorem dX4_writeLine_34 : decode cX4_writeLine 34 = .ok (.aload_n 0, 1) := by decide +kernel
theorem dX4_writeLine_35 : decode cX4_writeLine 35 = .ok (.iload_n 2, 1) := by decide +kernel
theorem dX4_writeLine_36 : decode cX4_writeLine 36 = .ok (.invokestatic 19, 3) := by decide +kernel
theorem dX4_writeLine_39 : decode cX4_writeLine 39 = .ok (.invokevirtual 15, 3) := by decide +kernel
theorem dX4_writeLine_42 : decode cX4_writeLine 42 = .ok (.aload_n 0, 1) := by decide +kernel
theorem dX4_writeLine_43 : decode cX4_writeLine 43 = .ok (.bipush 10, 2) := by decide +kernel
theorem dX4_writeLine_45 : decode cX4_writeLine 45 = .ok (.invokevirtual 15, 3) := by decide +kernel
theorem dX4_writeLine_48 : decode cX4_writeLine 48 = .ok (.return_, 1) := by decide +kernel
theorem dX4_put_0 : decode cX4_put 0 = .ok (.aload_n 0, 1) := by decide +kernel
theorem dX4_put_1 : decode cX4_put 1 = .ok (.getfield 23, 3) := by decide +kernel
theorem dX4_put_4 : decode cX4_put 4 = .ok (.aload_n 0, 1) := by decide +kernel
theorem dX4_put_5 : decode cX4_put 5 = .ok (.getfield 11, 3) := by decide +kernel
theorem dX4_put_8 : decode cX4_put 8 = .ok (.arraylength, 1) := by decide +kernel
theorem dX4_put_9 : decode cX4_put 9 = .ok (.if_icmp .ge 23, 3) := by decide +kernel
theorem dX4_put_12 : decode cX4_put 12 = .ok (.aload_n 0, 1) := by decide +kernel
theorem dX4_put_13 : decode cX4_put 13 = .ok (.getfield 11, 3) := by decide +kernel
theorem dX4_put_16 : decode cX4_put 16 = .ok (.aload_n 0, 1) := by decide +kernel
theorem dX4_put_17 : decode cX4_put 17 = .ok (.getfield 23, 3) := by decide +kernel
theorem dX4_put_20 : decode cX4_put 20 = .ok (.iload_n 1, 1) := by decide +kernel
theorem dX4_put_21 : decode cX4_put 21 = .ok (.iastore, 1) := by decide +kernel
theorem dX4_put_22 : decode cX4_put 22 = .ok (.aload_n 0, 1) := by decide +kernel
theorem dX4_put_23 : decode cX4_put 23 = .ok (.dup, 1) := by decide +kernel
theorem dX4_put_24 : decode cX4_put 24 = .ok (.getfield 23, 3) := by decide +kernel
theorem dX4_put_27 : decode cX4_put 27 = .ok (.iconst 1, 1) := by decide +kernel
theorem dX4_put_28 : decode cX4_put 28 = .ok (.iadd, 1) := by decide +kernel
theorem dX4_put_29 : decode cX4_put 29 = .ok (.putfield 23, 3) := by decide +kernel
theorem dX4_put_32 : decode cX4_put 32 = .ok (.return_, 1) := by decide +kernel
theorem dX4_letterOf_0 : decode cX4_letterOf 0 = .ok (.iload_n 0, 1) := by decide +kernel
theorem dX4_letterOf_1 : decode cX4_letterOf 1 = .ok (.tableswitch 36 0 2 #[27, 30, 33], 27) := by decide +kernel
theorem dX4_letterOf_28 : decode cX4_letterOf 28 = .ok (.bipush 119, 2) := by decide +kernel
theorem dX4_letterOf_30 : decode cX4_letterOf 30 = .ok (.ireturn, 1) := by decide +kernel
theorem dX4_letterOf_31 : decode cX4_letterOf 31 = .ok (.bipush 97, 2) := by decide +kernel
theorem dX4_letterOf_33 : decode cX4_letterOf 33 = .ok (.ireturn, 1) := by decide +kernel
theorem dX4_letterOf_34 : decode cX4_letterOf 34 = .ok (.bipush 100, 2) := by decide +kernel
theorem dX4_letterOf_36 : decode cX4_letterOf 36 = .ok (.ireturn, 1) := by decide +kernel
theorem dX4_letterOf_37 : decode cX4_letterOf 37 = .ok (.bipush 103, 2) := by decide +kernel
theorem dX4_letterOf_39 : decode cX4_letterOf 39 = .ok (.ireturn, 1) := by decide +kernel
theorem dX5_init_0 : decode cX5_init 0 = .ok (.aload_n 0, 1) := by decide +kernel
theorem dX5_init_1 : decode cX5_init 1 = .ok (.invokespecial 3, 3) := by decide +kernel
theorem dX5_init_4 : decode cX5_init 4 = .ok (.aload_n 0, 1) := by decide +kernel
theorem dX5_init_5 : decode cX5_init 5 = .ok (.bipush 24, 2) := by decide +kernel
theorem dX5_init_7 : decode cX5_init 7 = .ok (.newarray .int, 2) := by decide +kernel
theorem dX5_init_9 : decode cX5_init 9 = .ok (.putfield 9, 3) := by decide +kernel
theorem dX5_init_12 : decode cX5_init 12 = .ok (.aload_n 0, 1) := by decide +kernel
theorem dX5_init_13 : decode cX5_init 13 = .ok (.bipush 24, 2) := by decide +kernel
theorem dX5_init_15 : decode cX5_init 15 = .ok (.newarray .int, 2) := by decide +kernel
theorem dX5_init_17 : decode cX5_init 17 = .ok (.putfield 15, 3) := by decide +kernel
theorem dX5_init_20 : decode cX5_init 20 = .ok (.aload_n 0, 1) := by decide +kernel
theorem dX5_init_21 : decode cX5_init 21 = .ok (.bipush 24, 2) := by decide +kernel
theorem dX5_init_23 : decode cX5_init 23 = .ok (.newarray .int, 2) := by decide +kernel
theorem dX5_init_25 : decode cX5_init 25 = .ok (.putfield 18, 3) := by decide +kernel
theorem dX5_init_28 : decode cX5_init 28 = .ok (.aload_n 0, 1) := by decide +kernel
theorem dX5_init_29 : decode cX5_init 29 = .ok (.bipush 24, 2) := by decide +kernel
theorem dX5_init_31 : decode cX5_init 31 = .ok (.newarray .int, 2) := by decide +kernel
theorem dX5_init_33 : decode cX5_init 33 = .ok (.putfield 21, 3) := by decide +kernel
theorem dX5_init_36 : decode cX5_init 36 = .ok (.aload_n 0, 1) := by decide +kernel
theorem dX5_init_37 : decode cX5_init 37 = .ok (.bipush 24, 2) := by decide +kernel
theorem dX5_init_39 : decode cX5_init 39 = .ok (.newarray .int, 2) := by decide +kernel
theorem dX5_init_41 : decode cX5_init 41 = .ok (.putfield 24, 3) := by decide +kernel
theorem dX5_init_44 : decode cX5_init 44 = .ok (.aload_n 0, 1) := by decide +kernel
theorem dX5_init_45 : decode cX5_init 45 = .ok (.bipush 24, 2) := by decide +kernel
theorem dX5_init_47 : decode cX5_init 47 = .ok (.newarray .int, 2) := by decide +kernel
theorem dX5_init_49 : decode cX5_init 49 = .ok (.putfield 27, 3) := by decide +kernel
theorem dX5_init_52 : decode cX5_init 52 = .ok (.aload_n 0, 1) := by decide +kernel
theorem dX5_init_53 : decode cX5_init 53 = .ok (.bipush 24, 2) := by decide +kernel
theorem dX5_init_55 : decode cX5_init 55 = .ok (.newarray .int, 2) := by decide +kernel
theorem dX5_init_57 : decode cX5_init 57 = .ok (.putfield 30, 3) := by decide +kernel
theorem dX5_init_60 : decode cX5_init 60 = .ok (.return_, 1) := by decide +kernel
theorem dX5_has_0 : decode cX5_has 0 = .ok (.iload_n 1, 1) := by decide +kernel
theorem dX5_has_1 : decode cX5_has 1 = .ok (.ifCond .lt 15, 3) := by decide +kernel
theorem dX5_has_4 : decode cX5_has 4 = .ok (.iload_n 1, 1) := by decide +kernel
theorem dX5_has_5 : decode cX5_has 5 = .ok (.aload_n 0, 1) := by decide +kernel
theorem dX5_has_6 : decode cX5_has 6 = .ok (.getfield 33, 3) := by decide +kernel
theorem dX5_has_9 : decode cX5_has 9 = .ok (.if_icmp .ge 7, 3) := by decide +kernel
theorem dX5_has_12 : decode cX5_has 12 = .ok (.iconst 1, 1) := by decide +kernel
theorem dX5_has_13 : decode cX5_has 13 = .ok (.goto 4, 3) := by decide +kernel
theorem dX5_has_16 : decode cX5_has 16 = .ok (.iconst 0, 1) := by decide +kernel
theorem dX5_has_17 : decode cX5_has 17 = .ok (.ireturn, 1) := by decide +kernel
theorem dX5_add_0 : decode cX5_add 0 = .ok (.aload_n 0, 1) := by decide +kernel
theorem dX5_add_1 : decode cX5_add 1 = .ok (.getfield 33, 3) := by decide +kernel
theorem dX5_add_4 : decode cX5_add 4 = .ok (.bipush 24, 2) := by decide +kernel
theorem dX5_add_6 : decode cX5_add 6 = .ok (.if_icmp .ge 84, 3) := by decide +kernel
theorem dX5_add_9 : decode cX5_add 9 = .ok (.aload_n 0, 1) := by decide +kernel
theorem dX5_add_10 : decode cX5_add 10 = .ok (.getfield 9, 3) := by decide +kernel
theorem dX5_add_13 : decode cX5_add 13 = .ok (.aload_n 0, 1) := by decide +kernel
theorem dX5_add_14 : decode cX5_add 14 = .ok (.getfield 33, 3) := by decide +kernel
theorem dX5_add_17 : decode cX5_add 17 = .ok (.iload_n 1, 1) := by decide +kernel
theorem dX5_add_18 : decode cX5_add 18 = .ok (.iastore, 1) := by decide +kernel
theorem dX5_add_19 : decode cX5_add 19 = .ok (.aload_n 0, 1) := by decide +kernel
theorem dX5_add_20 : decode cX5_add 20 = .ok (.getfield 15, 3) := by decide +kernel
theorem dX5_add_23 : decode cX5_add 23 = .ok (.aload_n 0, 1) := by decide +kernel
theorem dX5_add_24 : decode cX5_add 24 = .ok (.getfield 33, 3) := by decide +kernel
theorem dX5_add_27 : decode cX5_add 27 = .ok (.iload_n 2, 1) := by decide +kernel
theorem dX5_add_28 : decode cX5_add 28 = .ok (.iastore, 1) := by decide +kernel
theorem dX5_add_29 : decode cX5_add 29 = .ok (.aload_n 0, 1) := by decide +kernel
theorem dX5_add_30 : decode cX5_add 30 = .ok (.getfield 18, 3) := by decide +kernel
theorem dX5_add_33 : decode cX5_add 33 = .ok (.aload_n 0, 1) := by decide +kernel
theorem dX5_add_34 : decode cX5_add 34 = .ok (.getfield 33, 3) := by decide +kernel
theorem dX5_add_37 : decode cX5_add 37 = .ok (.iload_n 3, 1) := by decide +kernel
theorem dX5_add_38 : decode cX5_add 38 = .ok (.iastore, 1) := by decide +kernel
theorem dX5_add_39 : decode cX5_add 39 = .ok (.aload_n 0, 1) := by decide +kernel
theorem dX5_add_40 : decode cX5_add 40 = .ok (.getfield 21, 3) := by decide +kernel
theorem dX5_add_43 : decode cX5_add 43 = .ok (.aload_n 0, 1) := by decide +kernel
theorem dX5_add_44 : decode cX5_add 44 = .ok (.getfield 33, 3) := by decide +kernel
theorem dX5_add_47 : decode cX5_add 47 = .ok (.iload 4, 2) := by decide +kernel
theorem dX5_add_49 : decode cX5_add 49 = .ok (.iastore, 1) := by decide +kernel
theorem dX5_add_50 : decode cX5_add 50 = .ok (.aload_n 0, 1) := by decide +kernel
theorem dX5_add_51 : decode cX5_add 51 = .ok (.getfield 24, 3) := by decide +kernel
theorem dX5_add_54 : decode cX5_add 54 = .ok (.aload_n 0, 1) := by decide +kernel
theorem dX5_add_55 : decode cX5_add 55 = .ok (.getfield 33, 3) := by decide +kernel
theorem dX5_add_58 : decode cX5_add 58 = .ok (.iconst 0, 1) := by decide +kernel
theorem dX5_add_59 : decode cX5_add 59 = .ok (.iastore, 1) := by decide +kernel
theorem dX5_add_60 : decode cX5_add 60 = .ok (.aload_n 0, 1) := by decide +kernel
theorem dX5_add_61 : decode cX5_add 61 = .ok (.getfield 27, 3) := by decide +kernel
theorem dX5_add_64 : decode cX5_add 64 = .ok (.aload_n 0, 1) := by decide +kernel
theorem dX5_add_65 : decode cX5_add 65 = .ok (.getfield 33, 3) := by decide +kernel
theorem dX5_add_68 : decode cX5_add 68 = .ok (.iconst (-1), 1) := by decide +kernel
theorem dX5_add_69 : decode cX5_add 69 = .ok (.iastore, 1) := by decide +kernel
theorem dX5_add_70 : decode cX5_add 70 = .ok (.aload_n 0, 1) := by decide +kernel
theorem dX5_add_71 : decode cX5_add 71 = .ok (.getfield 30, 3) := by decide +kernel
theorem dX5_add_74 : decode cX5_add 74 = .ok (.aload_n 0, 1) := by decide +kernel
theorem dX5_add_75 : decode cX5_add 75 = .ok (.getfield 33, 3) := by decide +kernel
theorem dX5_add_78 : decode cX5_add 78 = .ok (.iconst (-1), 1) := by decide +kernel
theorem dX5_add_79 : decode cX5_add 79 = .ok (.iastore, 1) := by decide +kernel
theorem dX5_add_80 : decode cX5_add 80 = .ok (.aload_n 0, 1) := by decide +kernel
theorem dX5_add_81 : decode cX5_add 81 = .ok (.dup, 1) := by decide +kernel
theorem dX5_add_82 : decode cX5_add 82 = .ok (.getfield 33, 3) := by decide +kernel
theorem dX5_add_85 : decode cX5_add 85 = .ok (.iconst 1, 1) := by decide +kernel
theorem dX5_add_86 : decode cX5_add 86 = .ok (.iadd, 1) := by decide +kernel
theorem dX5_add_87 : decode cX5_add 87 = .ok (.putfield 33, 3) := by decide +kernel
theorem dX5_add_90 : decode cX5_add 90 = .ok (.return_, 1) := by decide +kernel
set_option maxRecDepth 20000 in
theorem ggX5_close_X5_has : GoodIn wsX5_close wsX5_has := goodIn_r _ [8, 9, 10, 11, 12, 13, 14, 15, 16, 17] (by decide +kernel) (by decide +kernel)
set_option maxRecDepth 20000 in
theorem gX5_close_X5_has : GoodIn wsX5_close (wsV RX5 37 RX5 yX5_has wsX5_has) := goodIn_app (goodIn_of _ (by decide +kernel)) ggX5_close_X5_has
theorem dX5_close_0 : decode cX5_close 0 = .ok (.aload_n 0, 1) := by decide +kernel
theorem dX5_close_1 : decode cX5_close 1 = .ok (.iload_n 1, 1) := by decide +kernel
theorem dX5_close_2 : decode cX5_close 2 = .ok (.invokevirtual 37, 3) := by decide +kernel
theorem dX5_close_5 : decode cX5_close 5 = .ok (.ifCond .eq 25, 3) := by decide +kernel
theorem dX5_close_8 : decode cX5_close 8 = .ok (.aload_n 0, 1) := by decide +kernel
theorem dX5_close_9 : decode cX5_close 9 = .ok (.getfield 24, 3) := by decide +kernel
theorem dX5_close_12 : decode cX5_close 12 = .ok (.iload_n 1, 1) := by decide +kernel
theorem dX5_close_13 : decode cX5_close 13 = .ok (.iload_n 2, 1) := by decide +kernel
theorem dX5_close_14 : decode cX5_close 14 = .ok (.iastore, 1) := by decide +kernel
theorem dX5_close_15 : decode cX5_close 15 = .ok (.aload_n 0, 1) := by decide +kernel
theorem dX5_close_16 : decode cX5_close 16 = .ok (.getfield 27, 3) := by decide +kernel
theorem dX5_close_19 : decode cX5_close 19 = .ok (.iload_n 1, 1) := by decide +kernel
theorem dX5_close_20 : decode cX5_close 20 = .ok (.iload_n 3, 1) := by decide +kernel
theorem dX5_close_21 : decode cX5_close 21 = .ok (.iastore, 1) := by decide +kernel
theorem dX5_close_22 : decode cX5_close 22 = .ok (.aload_n 0, 1) := by decide +kernel
theorem dX5_close_23 : decode cX5_close 23 = .ok (.getfield 30, 3) := by decide +kernel
theorem dX5_close_26 : decode cX5_close 26 = .ok (.iload_n 1, 1) := by decide +kernel
theorem dX5_close_27 : decode cX5_close 27 = .ok (.iload 4, 2) := by decide +kernel
theorem dX5_close_29 : decode cX5_close 29 = .ok (.iastore, 1) := by decide +kernel
theorem dX5_close_30 : decode cX5_close 30 = .ok (.return_, 1) := by decide +kernel
theorem dX5_findWaiting_0 : decode cX5_findWaiting 0 = .ok (.iconst 0, 1) := by decide +kernel
theorem dX5_findWaiting_1 : decode cX5_findWaiting 1 = .ok (.istore_n 3, 1) := by decide +kernel
theorem dX5_findWaiting_2 : decode cX5_findWaiting 2 = .ok (.iload_n 3, 1) := by decide +kernel
theorem dX5_findWaiting_3 : decode cX5_findWaiting 3 = .ok (.aload_n 0, 1) := by decide +kernel
theorem dX5_findWaiting_4 : decode cX5_findWaiting 4 = .ok (.getfield 33, 3) := by decide +kernel
theorem dX5_findWaiting_7 : decode cX5_findWaiting 7 = .ok (.if_icmp .ge 40, 3) := by decide +kernel
theorem dX5_findWaiting_10 : decode cX5_findWaiting 10 = .ok (.aload_n 0, 1) := by decide +kernel
theorem dX5_findWaiting_11 : decode cX5_findWaiting 11 = .ok (.getfield 24, 3) := by decide +kernel
theorem dX5_findWaiting_14 : decode cX5_findWaiting 14 = .ok (.iload_n 3, 1) := by decide +kernel
theorem dX5_findWaiting_15 : decode cX5_findWaiting 15 = .ok (.iaload, 1) := by decide +kernel
theorem dX5_findWaiting_16 : decode cX5_findWaiting 16 = .ok (.ifCond .ne 25, 3) := by decide +kernel
theorem dX5_findWaiting_19 : decode cX5_findWaiting 19 = .ok (.aload_n 0, 1) := by decide +kernel
theorem dX5_findWaiting_20 : decode cX5_findWaiting 20 = .ok (.getfield 9, 3) := by decide +kernel
theorem dX5_findWaiting_23 : decode cX5_findWaiting 23 = .ok (.iload_n 3, 1) := by decide +kernel
theorem dX5_findWaiting_24 : decode cX5_findWaiting 24 = .ok (.iaload, 1) := by decide +kernel
theorem dX5_findWaiting_25 : decode cX5_findWaiting 25 = .ok (.iload_n 1, 1) := by decide +kernel
theorem dX5_findWaiting_26 : decode cX5_findWaiting 26 = .ok (.if_icmp .ne 15, 3) := by decide +kernel
theorem dX5_findWaiting_29 : decode cX5_findWaiting 29 = .ok (.aload_n 0, 1) := by decide +kernel
theorem dX5_findWaiting_30 : decode cX5_findWaiting 30 = .ok (.getfield 15, 3) := by decide +kernel
theorem dX5_findWaiting_33 : decode cX5_findWaiting 33 = .ok (.iload_n 3, 1) := by decide +kernel
theorem dX5_findWaiting_34 : decode cX5_findWaiting 34 = .ok (.iaload, 1) := by decide +kernel
theorem dX5_findWaiting_35 : decode cX5_findWaiting 35 = .ok (.iload_n 2, 1) := by decide +kernel
theorem dX5_findWaiting_36 : decode cX5_findWaiting 36 = .ok (.if_icmp .ne 5, 3) := by decide +kernel
theorem dX5_findWaiting_39 : decode cX5_findWaiting 39 = .ok (.iload_n 3, 1) := by decide +kernel
theorem dX5_findWaiting_40 : decode cX5_findWaiting 40 = .ok (.ireturn, 1) := by decide +kernel
theorem dX5_findWaiting_41 : decode cX5_findWaiting 41 = .ok (.iinc 3 1, 3) := by decide +kernel
theorem dX5_findWaiting_44 : decode cX5_findWaiting 44 = .ok (.goto (-42), 3) := by decide +kernel
theorem dX5_findWaiting_47 : decode cX5_findWaiting 47 = .ok (.iconst (-1), 1) := by decide +kernel
theorem dX5_findWaiting_48 : decode cX5_findWaiting 48 = .ok (.ireturn, 1) := by decide +kernel
theorem dX5_firstFiled_0 : decode cX5_firstFiled 0 = .ok (.iconst (-1), 1) := by decide +kernel
theorem dX5_firstFiled_1 : decode cX5_firstFiled 1 = .ok (.istore_n 2, 1) := by decide +kernel
theorem dX5_firstFiled_2 : decode cX5_firstFiled 2 = .ok (.iload_n 1, 1) := by decide +kernel
theorem dX5_firstFiled_3 : decode cX5_firstFiled 3 = .ok (.iconst 1, 1) := by decide +kernel
theorem dX5_firstFiled_4 : decode cX5_firstFiled 4 = .ok (.iadd, 1) := by decide +kernel
theorem dX5_firstFiled_5 : decode cX5_firstFiled 5 = .ok (.istore_n 3, 1) := by decide +kernel
theorem dX5_firstFiled_6 : decode cX5_firstFiled 6 = .ok (.iconst 0, 1) := by decide +kernel
theorem dX5_firstFiled_7 : decode cX5_firstFiled 7 = .ok (.istore 4, 2) := by decide +kernel
theorem dX5_firstFiled_9 : decode cX5_firstFiled 9 = .ok (.iload 4, 2) := by decide +kernel
theorem dX5_firstFiled_11 : decode cX5_firstFiled 11 = .ok (.aload_n 0, 1) := by decide +kernel
theorem dX5_firstFiled_12 : decode cX5_firstFiled 12 = .ok (.getfield 33, 3) := by decide +kernel
theorem dX5_firstFiled_15 : decode cX5_firstFiled 15 = .ok (.if_icmp .ge 41, 3) := by decide +kernel
theorem dX5_firstFiled_18 : decode cX5_firstFiled 18 = .ok (.aload_n 0, 1) := by decide +kernel
theorem dX5_firstFiled_19 : decode cX5_firstFiled 19 = .ok (.getfield 24, 3) := by decide +kernel
theorem dX5_firstFiled_22 : decode cX5_firstFiled 22 = .ok (.iload 4, 2) := by decide +kernel
theorem dX5_firstFiled_24 : decode cX5_firstFiled 24 = .ok (.iaload, 1) := by decide +kernel
theorem dX5_firstFiled_25 : decode cX5_firstFiled 25 = .ok (.ifCond .ne 25, 3) := by decide +kernel
theorem dX5_firstFiled_28 : decode cX5_firstFiled 28 = .ok (.aload_n 0, 1) := by decide +kernel
theorem dX5_firstFiled_29 : decode cX5_firstFiled 29 = .ok (.getfield 21, 3) := by decide +kernel
theorem dX5_firstFiled_32 : decode cX5_firstFiled 32 = .ok (.iload 4, 2) := by decide +kernel
theorem dX5_firstFiled_34 : decode cX5_firstFiled 34 = .ok (.iaload, 1) := by decide +kernel
theorem dX5_firstFiled_35 : decode cX5_firstFiled 35 = .ok (.iload_n 3, 1) := by decide +kernel
theorem dX5_firstFiled_36 : decode cX5_firstFiled 36 = .ok (.if_icmp .ge 14, 3) := by decide +kernel
theorem dX5_firstFiled_39 : decode cX5_firstFiled 39 = .ok (.aload_n 0, 1) := by decide +kernel
theorem dX5_firstFiled_40 : decode cX5_firstFiled 40 = .ok (.getfield 21, 3) := by decide +kernel
theorem dX5_firstFiled_43 : decode cX5_firstFiled 43 = .ok (.iload 4, 2) := by decide +kernel
theorem dX5_firstFiled_45 : decode cX5_firstFiled 45 = .ok (.iaload, 1) := by decide +kernel
theorem dX5_firstFiled_46 : decode cX5_firstFiled 46 = .ok (.istore_n 3, 1) := by decide +kernel
theorem dX5_firstFiled_47 : decode cX5_firstFiled 47 = .ok (.iload 4, 2) := by decide +kernel
theorem dX5_firstFiled_49 : decode cX5_firstFiled 49 = .ok (.istore_n 2, 1) := by decide +kernel
theorem dX5_firstFiled_50 : decode cX5_firstFiled 50 = .ok (.iinc 4 1, 3) := by decide +kernel
theorem dX5_firstFiled_53 : decode cX5_firstFiled 53 = .ok (.goto (-44), 3) := by decide +kernel
theorem dX5_firstFiled_56 : decode cX5_firstFiled 56 = .ok (.iload_n 2, 1) := by decide +kernel
theorem dX5_firstFiled_57 : decode cX5_firstFiled 57 = .ok (.ireturn, 1) := by decide +kernel
set_option maxRecDepth 20000 in
theorem ggX5_oldestToDismiss_X5_firstFiled : GoodIn wsX5_oldestToDismiss wsX5_firstFiled := goodIn_r _ [5, 6, 7, 8, 9, 10, 11, 12, 13, 14, 15, 16] (by decide +kernel) (by decide +kernel)
set_option maxRecDepth 20000 in
theorem gX5_oldestToDismiss_X5_firstFiled : GoodIn wsX5_oldestToDismiss (wsV RX5 41 RX5 yX5_firstFiled wsX5_firstFiled) := goodIn_app (goodIn_of _ (by decide +kernel)) ggX5_oldestToDismiss_X5_firstFiled
theorem dX5_oldestToDismiss_0 : decode cX5_oldestToDismiss 0 = .ok (.aload_n 0, 1) := by decide +kernel
theorem dX5_oldestToDismiss_1 : decode cX5_oldestToDismiss 1 = .ok (.iload_n 1, 1) := by decide +kernel
theorem dX5_oldestToDismiss_2 : decode cX5_oldestToDismiss 2 = .ok (.bipush 14, 2) := by decide +kernel
theorem dX5_oldestToDismiss_4 : decode cX5_oldestToDismiss 4 = .ok (.isub, 1) := by decide +kernel
theorem dX5_oldestToDismiss_5 : decode cX5_oldestToDismiss 5 = .ok (.invokevirtual 41, 3) := by decide +kernel
theorem dX5_oldestToDismiss_8 : decode cX5_oldestToDismiss 8 = .ok (.ireturn, 1) := by decide +kernel
theorem dX5_withMostAnger_0 : decode cX5_withMostAnger 0 = .ok (.iconst (-1), 1) := by decide +kernel
theorem dX5_withMostAnger_1 : decode cX5_withMostAnger 1 = .ok (.istore_n 2, 1) := by decide +kernel
theorem dX5_withMostAnger_2 : decode cX5_withMostAnger 2 = .ok (.iconst 0, 1) := by decide +kernel
theorem dX5_withMostAnger_3 : decode cX5_withMostAnger 3 = .ok (.istore_n 3, 1) := by decide +kernel
theorem dX5_withMostAnger_4 : decode cX5_withMostAnger 4 = .ok (.iconst 0, 1) := by decide +kernel
theorem dX5_withMostAnger_5 : decode cX5_withMostAnger 5 = .ok (.istore 4, 2) := by decide +kernel
theorem dX5_withMostAnger_7 : decode cX5_withMostAnger 7 = .ok (.iload 4, 2) := by decide +kernel
theorem dX5_withMostAnger_9 : decode cX5_withMostAnger 9 = .ok (.aload_n 0, 1) := by decide +kernel
theorem dX5_withMostAnger_10 : decode cX5_withMostAnger 10 = .ok (.getfield 33, 3) := by decide +kernel
theorem dX5_withMostAnger_13 : decode cX5_withMostAnger 13 = .ok (.if_icmp .ge 68, 3) := by decide +kernel
theorem dX5_withMostAnger_16 : decode cX5_withMostAnger 16 = .ok (.aload_n 0, 1) := by decide +kernel
theorem dX5_withMostAnger_17 : decode cX5_withMostAnger 17 = .ok (.getfield 24, 3) := by decide +kernel
theorem dX5_withMostAnger_20 : decode cX5_withMostAnger 20 = .ok (.iload 4, 2) := by decide +kernel
theorem dX5_withMostAnger_22 : decode cX5_withMostAnger 22 = .ok (.iaload, 1) := by decide +kernel
theorem dX5_withMostAnger_23 : decode cX5_withMostAnger 23 = .ok (.ifCond .ne 22, 3) := by decide +kernel
theorem dX5_withMostAnger_26 : decode cX5_withMostAnger 26 = .ok (.iload_n 1, 1) := by decide +kernel
theorem dX5_withMostAnger_27 : decode cX5_withMostAnger 27 = .ok (.aload_n 0, 1) := by decide +kernel
theorem dX5_withMostAnger_28 : decode cX5_withMostAnger 28 = .ok (.getfield 15, 3) := by decide +kernel
theorem dX5_withMostAnger_31 : decode cX5_withMostAnger 31 = .ok (.iload 4, 2) := by decide +kernel
theorem dX5_withMostAnger_33 : decode cX5_withMostAnger 33 = .ok (.iaload, 1) := by decide +kernel
theorem dX5_withMostAnger_34 : decode cX5_withMostAnger 34 = .ok (.ishr, 1) := by decide +kernel
theorem dX5_withMostAnger_35 : decode cX5_withMostAnger 35 = .ok (.iconst 1, 1) := by decide +kernel
theorem dX5_withMostAnger_36 : decode cX5_withMostAnger 36 = .ok (.iand, 1) := by decide +kernel
theorem dX5_withMostAnger_37 : decode cX5_withMostAnger 37 = .ok (.iconst 1, 1) := by decide +kernel
theorem dX5_withMostAnger_38 : decode cX5_withMostAnger 38 = .ok (.if_icmp .ne 7, 3) := by decide +kernel
theorem dX5_withMostAnger_41 : decode cX5_withMostAnger 41 = .ok (.iconst 1, 1) := by decide +kernel
theorem dX5_withMostAnger_42 : decode cX5_withMostAnger 42 = .ok (.goto 4, 3) := by decide +kernel
theorem dX5_withMostAnger_45 : decode cX5_withMostAnger 45 = .ok (.iconst 0, 1) := by decide +kernel
theorem dX5_withMostAnger_46 : decode cX5_withMostAnger 46 = .ok (.istore 5, 2) := by decide +kernel
theorem dX5_withMostAnger_48 : decode cX5_withMostAnger 48 = .ok (.iload 5, 2) := by decide +kernel
theorem dX5_withMostAnger_50 : decode cX5_withMostAnger 50 = .ok (.ifCond .eq 25, 3) := by decide +kernel
theorem dX5_withMostAnger_53 : decode cX5_withMostAnger 53 = .ok (.aload_n 0, 1) := by decide +kernel
theorem dX5_withMostAnger_54 : decode cX5_withMostAnger 54 = .ok (.getfield 18, 3) := by decide +kernel
theorem dX5_withMostAnger_57 : decode cX5_withMostAnger 57 = .ok (.iload 4, 2) := by decide +kernel
theorem dX5_withMostAnger_59 : decode cX5_withMostAnger 59 = .ok (.iaload, 1) := by decide +kernel
theorem dX5_withMostAnger_60 : decode cX5_withMostAnger 60 = .ok (.iload_n 3, 1) := by decide +kernel
theorem dX5_withMostAnger_61 : decode cX5_withMostAnger 61 = .ok (.if_icmp .le 14, 3) := by decide +kernel
theorem dX5_withMostAnger_64 : decode cX5_withMostAnger 64 = .ok (.aload_n 0, 1) := by decide +kernel
theorem dX5_withMostAnger_65 : decode cX5_withMostAnger 65 = .ok (.getfield 18, 3) := by decide +kernel
theorem dX5_withMostAnger_68 : decode cX5_withMostAnger 68 = .ok (.iload 4, 2) := by decide +kernel
theorem dX5_withMostAnger_70 : decode cX5_withMostAnger 70 = .ok (.iaload, 1) := by decide +kernel
theorem dX5_withMostAnger_71 : decode cX5_withMostAnger 71 = .ok (.istore_n 3, 1) := by decide +kernel
theorem dX5_withMostAnger_72 : decode cX5_withMostAnger 72 = .ok (.iload 4, 2) := by decide +kernel
theorem dX5_withMostAnger_74 : decode cX5_withMostAnger 74 = .ok (.istore_n 2, 1) := by decide +kernel
theorem dX5_withMostAnger_75 : decode cX5_withMostAnger 75 = .ok (.iinc 4 1, 3) := by decide +kernel
theorem dX5_withMostAnger_78 : decode cX5_withMostAnger 78 = .ok (.goto (-71), 3) := by decide +kernel
theorem dX5_withMostAnger_81 : decode cX5_withMostAnger 81 = .ok (.iload_n 2, 1) := by decide +kernel
theorem dX5_withMostAnger_82 : decode cX5_withMostAnger 82 = .ok (.ireturn, 1) := by decide +kernel
set_option maxRecDepth 20000 in
theorem ggX5_growOlder_X5_close : GoodIn wsX5_growOlder wsX5_close := goodIn_r _ [13, 2, 14, 15, 16, 17, 18, 12, 19, 1, 20, 21, 22, 23, 24, 25, 26, 27] (by decide +kernel) (by decide +kernel)
set_option maxRecDepth 20000 in
theorem gX5_growOlder_X5_close : GoodIn wsX5_growOlder (wsV RX5 51 RX5 yX5_close wsX5_close) := goodIn_app (goodIn_of _ (by decide +kernel)) ggX5_growOlder_X5_close
theorem dX5_growOlder_0 : decode cX5_growOlder 0 = .ok (.iconst 0, 1) := by decide +kernel
theorem dX5_growOlder_1 : decode cX5_growOlder 1 = .ok (.istore_n 2, 1) := by decide +kernel
theorem dX5_growOlder_2 : decode cX5_growOlder 2 = .ok (.iload_n 2, 1) := by decide +kernel
theorem dX5_growOlder_3 : decode cX5_growOlder 3 = .ok (.aload_n 0, 1) := by decide +kernel
theorem dX5_growOlder_4 : decode cX5_growOlder 4 = .ok (.getfield 33, 3) := by decide +kernel
theorem dX5_growOlder_7 : decode cX5_growOlder 7 = .ok (.if_icmp .ge 67, 3) := by decide +kernel
theorem dX5_growOlder_10 : decode cX5_growOlder 10 = .ok (.aload_n 0, 1) := by decide +kernel
theorem dX5_growOlder_11 : decode cX5_growOlder 11 = .ok (.getfield 24, 3) := by decide +kernel
theorem dX5_growOlder_14 : decode cX5_growOlder 14 = .ok (.iload_n 2, 1) := by decide +kernel
theorem dX5_growOlder_15 : decode cX5_growOlder 15 = .ok (.iaload, 1) := by decide +kernel
theorem dX5_growOlder_16 : decode cX5_growOlder 16 = .ok (.ifCond .ne 52, 3) := by decide +kernel
theorem dX5_growOlder_19 : decode cX5_growOlder 19 = .ok (.iload_n 1, 1) := by decide +kernel
theorem dX5_growOlder_20 : decode cX5_growOlder 20 = .ok (.aload_n 0, 1) := by decide +kernel
theorem dX5_growOlder_21 : decode cX5_growOlder 21 = .ok (.getfield 21, 3) := by decide +kernel
theorem dX5_growOlder_24 : decode cX5_growOlder 24 = .ok (.iload_n 2, 1) := by decide +kernel
theorem dX5_growOlder_25 : decode cX5_growOlder 25 = .ok (.iaload, 1) := by decide +kernel
theorem dX5_growOlder_26 : decode cX5_growOlder 26 = .ok (.isub, 1) := by decide +kernel
theorem dX5_growOlder_27 : decode cX5_growOlder 27 = .ok (.istore_n 3, 1) := by decide +kernel
theorem dX5_growOlder_28 : decode cX5_growOlder 28 = .ok (.iload_n 3, 1) := by decide +kernel
theorem dX5_growOlder_29 : decode cX5_growOlder 29 = .ok (.bipush 7, 2) := by decide +kernel
theorem dX5_growOlder_31 : decode cX5_growOlder 31 = .ok (.irem, 1) := by decide +kernel
theorem dX5_growOlder_32 : decode cX5_growOlder 32 = .ok (.ifCond .ne 22, 3) := by decide +kernel
theorem dX5_growOlder_35 : decode cX5_growOlder 35 = .ok (.aload_n 0, 1) := by decide +kernel
theorem dX5_growOlder_36 : decode cX5_growOlder 36 = .ok (.getfield 18, 3) := by decide +kernel
theorem dX5_growOlder_39 : decode cX5_growOlder 39 = .ok (.iload_n 2, 1) := by decide +kernel
theorem dX5_growOlder_40 : decode cX5_growOlder 40 = .ok (.bipush 9, 2) := by decide +kernel
theorem dX5_growOlder_42 : decode cX5_growOlder 42 = .ok (.aload_n 0, 1) := by decide +kernel
theorem dX5_growOlder_43 : decode cX5_growOlder 43 = .ok (.getfield 18, 3) := by decide +kernel
theorem dX5_growOlder_46 : decode cX5_growOlder 46 = .ok (.iload_n 2, 1) := by decide +kernel
theorem dX5_growOlder_47 : decode cX5_growOlder 47 = .ok (.iaload, 1) := by decide +kernel
theorem dX5_growOlder_48 : decode cX5_growOlder 48 = .ok (.iconst 1, 1) := by decide +kernel
theorem dX5_growOlder_49 : decode cX5_growOlder 49 = .ok (.iadd, 1) := by decide +kernel
theorem dX5_growOlder_50 : decode cX5_growOlder 50 = .ok (.invokestatic 45, 3) := by decide +kernel
theorem dX5_growOlder_53 : decode cX5_growOlder 53 = .ok (.iastore, 1) := by decide +kernel
theorem dX5_growOlder_54 : decode cX5_growOlder 54 = .ok (.iload_n 3, 1) := by decide +kernel
theorem dX5_growOlder_55 : decode cX5_growOlder 55 = .ok (.bipush 56, 2) := by decide +kernel
theorem dX5_growOlder_57 : decode cX5_growOlder 57 = .ok (.if_icmp .ne 11, 3) := by decide +kernel
theorem dX5_growOlder_60 : decode cX5_growOlder 60 = .ok (.aload_n 0, 1) := by decide +kernel
theorem dX5_growOlder_61 : decode cX5_growOlder 61 = .ok (.iload_n 2, 1) := by decide +kernel
theorem dX5_growOlder_62 : decode cX5_growOlder 62 = .ok (.iconst 3, 1) := by decide +kernel
theorem dX5_growOlder_63 : decode cX5_growOlder 63 = .ok (.iload_n 1, 1) := by decide +kernel
theorem dX5_growOlder_64 : decode cX5_growOlder 64 = .ok (.iconst (-1), 1) := by decide +kernel
theorem dX5_growOlder_65 : decode cX5_growOlder 65 = .ok (.invokevirtual 51, 3) := by decide +kernel
theorem dX5_growOlder_68 : decode cX5_growOlder 68 = .ok (.iinc 2 1, 3) := by decide +kernel
theorem dX5_growOlder_71 : decode cX5_growOlder 71 = .ok (.goto (-69), 3) := by decide +kernel
theorem dX5_growOlder_74 : decode cX5_growOlder 74 = .ok (.return_, 1) := by decide +kernel
theorem dX5_countInState_0 : decode cX5_countInState 0 = .ok (.iconst 0, 1) := by decide +kernel
theorem dX5_countInState_1 : decode cX5_countInState 1 = .ok (.istore_n 2, 1) := by decide +kernel
theorem dX5_countInState_2 : decode cX5_countInState 2 = .ok (.iconst 0, 1) := by decide +kernel
theorem dX5_countInState_3 : decode cX5_countInState 3 = .ok (.istore_n 3, 1) := by decide +kernel
theorem dX5_countInState_4 : decode cX5_countInState 4 = .ok (.iload_n 3, 1) := by decide +kernel
theorem dX5_countInState_5 : decode cX5_countInState 5 = .ok (.aload_n 0, 1) := by decide +kernel
theorem dX5_countInState_6 : decode cX5_countInState 6 = .ok (.getfield 33, 3) := by decide +kernel
theorem dX5_countInState_9 : decode cX5_countInState 9 = .ok (.if_icmp .ge 22, 3) := by decide +kernel
theorem dX5_countInState_12 : decode cX5_countInState 12 = .ok (.aload_n 0, 1) := by decide +kernel
theorem dX5_countInState_13 : decode cX5_countInState 13 = .ok (.getfield 24, 3) := by decide +kernel
theorem dX5_countInState_16 : decode cX5_countInState 16 = .ok (.iload_n 3, 1) := by decide +kernel
theorem dX5_countInState_17 : decode cX5_countInState 17 = .ok (.iaload, 1) := by decide +kernel
theorem dX5_countInState_18 : decode cX5_countInState 18 = .ok (.iload_n 1, 1) := by decide +kernel
theorem dX5_countInState_19 : decode cX5_countInState 19 = .ok (.if_icmp .ne 6, 3) := by decide +kernel
theorem dX5_countInState_22 : decode cX5_countInState 22 = .ok (.iinc 2 1, 3) := by decide +kernel
theorem dX5_countInState_25 : decode cX5_countInState 25 = .ok (.iinc 3 1, 3) := by decide +kernel
theorem dX5_countInState_28 : decode cX5_countInState 28 = .ok (.goto (-24), 3) := by decide +kernel
theorem dX5_countInState_31 : decode cX5_countInState 31 = .ok (.iload_n 2, 1) := by decide +kernel
theorem dX5_countInState_32 : decode cX5_countInState 32 = .ok (.ireturn, 1) := by decide +kernel
theorem dX5_countOfPerson_0 : decode cX5_countOfPerson 0 = .ok (.iconst 0, 1) := by decide +kernel
theorem dX5_countOfPerson_1 : decode cX5_countOfPerson 1 = .ok (.istore_n 2, 1) := by decide +kernel
theorem dX5_countOfPerson_2 : decode cX5_countOfPerson 2 = .ok (.iconst 0, 1) := by decide +kernel
theorem dX5_countOfPerson_3 : decode cX5_countOfPerson 3 = .ok (.istore_n 3, 1) := by decide +kernel
theorem dX5_countOfPerson_4 : decode cX5_countOfPerson 4 = .ok (.iload_n 3, 1) := by decide +kernel
theorem dX5_countOfPerson_5 : decode cX5_countOfPerson 5 = .ok (.aload_n 0, 1) := by decide +kernel
theorem dX5_countOfPerson_6 : decode cX5_countOfPerson 6 = .ok (.getfield 33, 3) := by decide +kernel
theorem dX5_countOfPerson_9 : decode cX5_countOfPerson 9 = .ok (.if_icmp .ge 22, 3) := by decide +kernel
theorem dX5_countOfPerson_12 : decode cX5_countOfPerson 12 = .ok (.aload_n 0, 1) := by decide +kernel
theorem dX5_countOfPerson_13 : decode cX5_countOfPerson 13 = .ok (.getfield 9, 3) := by decide +kernel
theorem dX5_countOfPerson_16 : decode cX5_countOfPerson 16 = .ok (.iload_n 3, 1) := by decide +kernel
theorem dX5_countOfPerson_17 : decode cX5_countOfPerson 17 = .ok (.iaload, 1) := by decide +kernel
theorem dX5_countOfPerson_18 : decode cX5_countOfPerson 18 = .ok (.iload_n 1, 1) := by decide +kernel
theorem dX5_countOfPerson_19 : decode cX5_countOfPerson 19 = .ok (.if_icmp .ne 6, 3) := by decide +kernel
theorem dX5_countOfPerson_22 : decode cX5_countOfPerson 22 = .ok (.iinc 2 1, 3) := by decide +kernel
theorem dX5_countOfPerson_25 : decode cX5_countOfPerson 25 = .ok (.iinc 3 1, 3) := by decide +kernel
theorem dX5_countOfPerson_28 : decode cX5_countOfPerson 28 = .ok (.goto (-24), 3) := by decide +kernel
theorem dX5_countOfPerson_31 : decode cX5_countOfPerson 31 = .ok (.iload_n 2, 1) := by decide +kernel
theorem dX5_countOfPerson_32 : decode cX5_countOfPerson 32 = .ok (.ireturn, 1) := by decide +kernel
theorem dX5_countAnsweredBy_0 : decode cX5_countAnsweredBy 0 = .ok (.iconst 0, 1) := by decide +kernel
theorem dX5_countAnsweredBy_1 : decode cX5_countAnsweredBy 1 = .ok (.istore_n 2, 1) := by decide +kernel
theorem dX5_countAnsweredBy_2 : decode cX5_countAnsweredBy 2 = .ok (.iconst 0, 1) := by decide +kernel
theorem dX5_countAnsweredBy_3 : decode cX5_countAnsweredBy 3 = .ok (.istore_n 3, 1) := by decide +kernel
theorem dX5_countAnsweredBy_4 : decode cX5_countAnsweredBy 4 = .ok (.iload_n 3, 1) := by decide +kernel
theorem dX5_countAnsweredBy_5 : decode cX5_countAnsweredBy 5 = .ok (.aload_n 0, 1) := by decide +kernel
theorem dX5_countAnsweredBy_6 : decode cX5_countAnsweredBy 6 = .ok (.getfield 33, 3) := by decide +kernel
theorem dX5_countAnsweredBy_9 : decode cX5_countAnsweredBy 9 = .ok (.if_icmp .ge 32, 3) := by decide +kernel
theorem dX5_countAnsweredBy_12 : decode cX5_countAnsweredBy 12 = .ok (.aload_n 0, 1) := by decide +kernel
theorem dX5_countAnsweredBy_13 : decode cX5_countAnsweredBy 13 = .ok (.getfield 24, 3) := by decide +kernel
theorem dX5_countAnsweredBy_16 : decode cX5_countAnsweredBy 16 = .ok (.iload_n 3, 1) := by decide +kernel
theorem dX5_countAnsweredBy_17 : decode cX5_countAnsweredBy 17 = .ok (.iaload, 1) := by decide +kernel
theorem dX5_countAnsweredBy_18 : decode cX5_countAnsweredBy 18 = .ok (.iconst 1, 1) := by decide +kernel
theorem dX5_countAnsweredBy_19 : decode cX5_countAnsweredBy 19 = .ok (.if_icmp .ne 16, 3) := by decide +kernel
theorem dX5_countAnsweredBy_22 : decode cX5_countAnsweredBy 22 = .ok (.aload_n 0, 1) := by decide +kernel
theorem dX5_countAnsweredBy_23 : decode cX5_countAnsweredBy 23 = .ok (.getfield 30, 3) := by decide +kernel
theorem dX5_countAnsweredBy_26 : decode cX5_countAnsweredBy 26 = .ok (.iload_n 3, 1) := by decide +kernel
theorem dX5_countAnsweredBy_27 : decode cX5_countAnsweredBy 27 = .ok (.iaload, 1) := by decide +kernel
theorem dX5_countAnsweredBy_28 : decode cX5_countAnsweredBy 28 = .ok (.iload_n 1, 1) := by decide +kernel
theorem dX5_countAnsweredBy_29 : decode cX5_countAnsweredBy 29 = .ok (.if_icmp .ne 6, 3) := by decide +kernel
theorem dX5_countAnsweredBy_32 : decode cX5_countAnsweredBy 32 = .ok (.iinc 2 1, 3) := by decide +kernel
theorem dX5_countAnsweredBy_35 : decode cX5_countAnsweredBy 35 = .ok (.iinc 3 1, 3) := by decide +kernel
theorem dX5_countAnsweredBy_38 : decode cX5_countAnsweredBy 38 = .ok (.goto (-34), 3) := by decide +kernel
theorem dX5_countAnsweredBy_41 : decode cX5_countAnsweredBy 41 = .ok (.iload_n 2, 1) := by decide +kernel
theorem dX5_countAnsweredBy_42 : decode cX5_countAnsweredBy 42 = .ok (.ireturn, 1) := by decide +kernel
theorem dX5_sumAnsweredAnger_0 : decode cX5_sumAnsweredAnger 0 = .ok (.iconst 0, 1) := by decide +kernel
theorem dX5_sumAnsweredAnger_1 : decode cX5_sumAnsweredAnger 1 = .ok (.istore_n 1, 1) := by decide +kernel
theorem dX5_sumAnsweredAnger_2 : decode cX5_sumAnsweredAnger 2 = .ok (.iconst 0, 1) := by decide +kernel
theorem dX5_sumAnsweredAnger_3 : decode cX5_sumAnsweredAnger 3 = .ok (.istore_n 2, 1) := by decide +kernel
theorem dX5_sumAnsweredAnger_4 : decode cX5_sumAnsweredAnger 4 = .ok (.iload_n 2, 1) := by decide +kernel
theorem dX5_sumAnsweredAnger_5 : decode cX5_sumAnsweredAnger 5 = .ok (.aload_n 0, 1) := by decide +kernel
theorem dX5_sumAnsweredAnger_6 : decode cX5_sumAnsweredAnger 6 = .ok (.getfield 33, 3) := by decide +kernel
theorem dX5_sumAnsweredAnger_9 : decode cX5_sumAnsweredAnger 9 = .ok (.if_icmp .ge 28, 3) := by decide +kernel
theorem dX5_sumAnsweredAnger_12 : decode cX5_sumAnsweredAnger 12 = .ok (.aload_n 0, 1) := by decide +kernel
theorem dX5_sumAnsweredAnger_13 : decode cX5_sumAnsweredAnger 13 = .ok (.getfield 24, 3) := by decide +kernel
theorem dX5_sumAnsweredAnger_16 : decode cX5_sumAnsweredAnger 16 = .ok (.iload_n 2, 1) := by decide +kernel
theorem dX5_sumAnsweredAnger_17 : decode cX5_sumAnsweredAnger 17 = .ok (.iaload, 1) := by decide +kernel
theorem dX5_sumAnsweredAnger_18 : decode cX5_sumAnsweredAnger 18 = .ok (.iconst 1, 1) := by decide +kernel
theorem dX5_sumAnsweredAnger_19 : decode cX5_sumAnsweredAnger 19 = .ok (.if_icmp .ne 12, 3) := by decide +kernel
theorem dX5_sumAnsweredAnger_22 : decode cX5_sumAnsweredAnger 22 = .ok (.iload_n 1, 1) := by decide +kernel
theorem dX5_sumAnsweredAnger_23 : decode cX5_sumAnsweredAnger 23 = .ok (.aload_n 0, 1) := by decide +kernel
theorem dX5_sumAnsweredAnger_24 : decode cX5_sumAnsweredAnger 24 = .ok (.getfield 18, 3) := by decide +kernel
theorem dX5_sumAnsweredAnger_27 : decode cX5_sumAnsweredAnger 27 = .ok (.iload_n 2, 1) := by decide +kernel
theorem dX5_sumAnsweredAnger_28 : decode cX5_sumAnsweredAnger 28 = .ok (.iaload, 1) := by decide +kernel
theorem dX5_sumAnsweredAnger_29 : decode cX5_sumAnsweredAnger 29 = .ok (.iadd, 1) := by decide +kernel
theorem dX5_sumAnsweredAnger_30 : decode cX5_sumAnsweredAnger 30 = .ok (.istore_n 1, 1) := by decide +kernel
theorem dX5_sumAnsweredAnger_31 : decode cX5_sumAnsweredAnger 31 = .ok (.iinc 2 1, 3) := by decide +kernel
theorem dX5_sumAnsweredAnger_34 : decode cX5_sumAnsweredAnger 34 = .ok (.goto (-30), 3) := by decide +kernel
theorem dX5_sumAnsweredAnger_37 : decode cX5_sumAnsweredAnger 37 = .ok (.iload_n 1, 1) := by decide +kernel
theorem dX5_sumAnsweredAnger_38 : decode cX5_sumAnsweredAnger 38 = .ok (.ireturn, 1) := by decide +kernel
theorem dX5_sumAnsweredWait_0 : decode cX5_sumAnsweredWait 0 = .ok (.iconst 0, 1) := by decide +kernel
theorem dX5_sumAnsweredWait_1 : decode cX5_sumAnsweredWait 1 = .ok (.istore_n 1, 1) := by decide +kernel
theorem dX5_sumAnsweredWait_2 : decode cX5_sumAnsweredWait 2 = .ok (.iconst 0, 1) := by decide +kernel
theorem dX5_sumAnsweredWait_3 : decode cX5_sumAnsweredWait 3 = .ok (.istore_n 2, 1) := by decide +kernel
theorem dX5_sumAnsweredWait_4 : decode cX5_sumAnsweredWait 4 = .ok (.iload_n 2, 1) := by decide +kernel
theorem dX5_sumAnsweredWait_5 : decode cX5_sumAnsweredWait 5 = .ok (.aload_n 0, 1) := by decide +kernel
theorem dX5_sumAnsweredWait_6 : decode cX5_sumAnsweredWait 6 = .ok (.getfield 33, 3) := by decide +kernel
theorem dX5_sumAnsweredWait_9 : decode cX5_sumAnsweredWait 9 = .ok (.if_icmp .ge 35, 3) := by decide +kernel
theorem dX5_sumAnsweredWait_12 : decode cX5_sumAnsweredWait 12 = .ok (.aload_n 0, 1) := by decide +kernel
theorem dX5_sumAnsweredWait_13 : decode cX5_sumAnsweredWait 13 = .ok (.getfield 24, 3) := by decide +kernel
theorem dX5_sumAnsweredWait_16 : decode cX5_sumAnsweredWait 16 = .ok (.iload_n 2, 1) := by decide +kernel
theorem dX5_sumAnsweredWait_17 : decode cX5_sumAnsweredWait 17 = .ok (.iaload, 1) := by decide +kernel
theorem dX5_sumAnsweredWait_18 : decode cX5_sumAnsweredWait 18 = .ok (.iconst 1, 1) := by decide +kernel
theorem dX5_sumAnsweredWait_19 : decode cX5_sumAnsweredWait 19 = .ok (.if_icmp .ne 19, 3) := by decide +kernel
theorem dX5_sumAnsweredWait_22 : decode cX5_sumAnsweredWait 22 = .ok (.iload_n 1, 1) := by decide +kernel
theorem dX5_sumAnsweredWait_23 : decode cX5_sumAnsweredWait 23 = .ok (.aload_n 0, 1) := by decide +kernel
theorem dX5_sumAnsweredWait_24 : decode cX5_sumAnsweredWait 24 = .ok (.getfield 27, 3) := by decide +kernel
theorem dX5_sumAnsweredWait_27 : decode cX5_sumAnsweredWait 27 = .ok (.iload_n 2, 1) := by decide +kernel
theorem dX5_sumAnsweredWait_28 : decode cX5_sumAnsweredWait 28 = .ok (.iaload, 1) := by decide +kernel
theorem dX5_sumAnsweredWait_29 : decode cX5_sumAnsweredWait 29 = .ok (.aload_n 0, 1) := by decide +kernel
theorem dX5_sumAnsweredWait_30 : decode cX5_sumAnsweredWait 30 = .ok (.getfield 21, 3) := by decide +kernel
theorem dX5_sumAnsweredWait_33 : decode cX5_sumAnsweredWait 33 = .ok (.iload_n 2, 1) := by decide +kernel
theorem dX5_sumAnsweredWait_34 : decode cX5_sumAnsweredWait 34 = .ok (.iaload, 1) := by decide +kernel
theorem dX5_sumAnsweredWait_35 : decode cX5_sumAnsweredWait 35 = .ok (.isub, 1) := by decide +kernel
theorem dX5_sumAnsweredWait_36 : decode cX5_sumAnsweredWait 36 = .ok (.iadd, 1) := by decide +kernel
theorem dX5_sumAnsweredWait_37 : decode cX5_sumAnsweredWait 37 = .ok (.istore_n 1, 1) := by decide +kernel
theorem dX5_sumAnsweredWait_38 : decode cX5_sumAnsweredWait 38 = .ok (.iinc 2 1, 3) := by decide +kernel
theorem dX5_sumAnsweredWait_41 : decode cX5_sumAnsweredWait 41 = .ok (.goto (-37), 3) := by decide +kernel
theorem dX5_sumAnsweredWait_44 : decode cX5_sumAnsweredWait 44 = .ok (.iload_n 1, 1) := by decide +kernel
theorem dX5_sumAnsweredWait_45 : decode cX5_sumAnsweredWait 45 = .ok (.ireturn, 1) := by decide +kernel
theorem dX5_copyFrom_0 : decode cX5_copyFrom 0 = .ok (.aload_n 0, 1) := by decide +kernel
theorem dX5_copyFrom_1 : decode cX5_copyFrom 1 = .ok (.aload_n 1, 1) := by decide +kernel
theorem dX5_copyFrom_2 : decode cX5_copyFrom 2 = .ok (.getfield 33, 3) := by decide +kernel
theorem dX5_copyFrom_5 : decode cX5_copyFrom 5 = .ok (.putfield 33, 3) := by decide +kernel
theorem dX5_copyFrom_8 : decode cX5_copyFrom 8 = .ok (.aload_n 1, 1) := by decide +kernel
theorem dX5_copyFrom_9 : decode cX5_copyFrom 9 = .ok (.getfield 9, 3) := by decide +kernel
theorem dX5_copyFrom_12 : decode cX5_copyFrom 12 = .ok (.iconst 0, 1) := by decide +kernel
theorem dX5_copyFrom_13 : decode cX5_copyFrom 13 = .ok (.aload_n 0, 1) := by decide +kernel
theorem dX5_copyFrom_14 : decode cX5_copyFrom 14 = .ok (.getfield 9, 3) := by decide +kernel
theorem dX5_copyFrom_17 : decode cX5_copyFrom 17 = .ok (.iconst 0, 1) := by decide +kernel
theorem dX5_copyFrom_18 : decode cX5_copyFrom 18 = .ok (.bipush 24, 2) := by decide +kernel
theorem dX5_copyFrom_20 : decode cX5_copyFrom 20 = .ok (.invokestatic 55, 3) := by decide +kernel
theorem dX5_copyFrom_23 : decode cX5_copyFrom 23 = .ok (.aload_n 1, 1) := by decide +kernel
theorem dX5_copyFrom_24 : decode cX5_copyFrom 24 = .ok (.getfield 15, 3) := by decide +kernel
theorem dX5_copyFrom_27 : decode cX5_copyFrom 27 = .ok (.iconst 0, 1) := by decide +kernel
theorem dX5_copyFrom_28 : decode cX5_copyFrom 28 = .ok (.aload_n 0, 1) := by decide +kernel
theorem dX5_copyFrom_29 : decode cX5_copyFrom 29 = .ok (.getfield 15, 3) := by decide +kernel
theorem dX5_copyFrom_32 : decode cX5_copyFrom 32 = .ok (.iconst 0, 1) := by decide +kernel
theorem dX5_copyFrom_33 : decode cX5_copyFrom 33 = .ok (.bipush 24, 2) := by decide +kernel
theorem dX5_copyFrom_35 : decode cX5_copyFrom 35 = .ok (.invokestatic 55, 3) := by decide +kernel
theorem dX5_copyFrom_38 : decode cX5_copyFrom 38 = .ok (.aload_n 1, 1) := by decide +kernel
theorem dX5_copyFrom_39 : decode cX5_copyFrom 39 = .ok (.getfield 18, 3) := by decide +kernel
theorem dX5_copyFrom_42 : decode cX5_copyFrom 42 = .ok (.iconst 0, 1) := by decide +kernel
theorem dX5_copyFrom_43 : decode cX5_copyFrom 43 = .ok (.aload_n 0, 1) := by decide +kernel
theorem dX5_copyFrom_44 : decode cX5_copyFrom 44 = .ok (.getfield 18, 3) := by decide +kernel
theorem dX5_copyFrom_47 : decode cX5_copyFrom 47 = .ok (.iconst 0, 1) := by decide +kernel
theorem dX5_copyFrom_48 : decode cX5_copyFrom 48 = .ok (.bipush 24, 2) := by decide +kernel
theorem dX5_copyFrom_50 : decode cX5_copyFrom 50 = .ok (.invokestatic 55, 3) := by decide +kernel
theorem dX5_copyFrom_53 : decode cX5_copyFrom 53 = .ok (.aload_n 1, 1) := by decide +kernel
theorem dX5_copyFrom_54 : decode cX5_copyFrom 54 = .ok (.getfield 21, 3) := by decide +kernel
theorem dX5_copyFrom_57 : decode cX5_copyFrom 57 = .ok (.iconst 0, 1) := by decide +kernel
theorem dX5_copyFrom_58 : decode cX5_copyFrom 58 = .ok (.aload_n 0, 1) := by decide +kernel
theorem dX5_copyFrom_59 : decode cX5_copyFrom 59 = .ok (.getfield 21, 3) := by decide +kernel
theorem dX5_copyFrom_62 : decode cX5_copyFrom 62 = .ok (.iconst 0, 1) := by decide +kernel
theorem dX5_copyFrom_63 : decode cX5_copyFrom 63 = .ok (.bipush 24, 2) := by decide +kernel
theorem dX5_copyFrom_65 : decode cX5_copyFrom 65 = .ok (.invokestatic 55, 3) := by decide +kernel
theorem dX5_copyFrom_68 : decode cX5_copyFrom 68 = .ok (.aload_n 1, 1) := by decide +kernel
theorem dX5_copyFrom_69 : decode cX5_copyFrom 69 = .ok (.getfield 24, 3) := by decide +kernel
theorem dX5_copyFrom_72 : decode cX5_copyFrom 72 = .ok (.iconst 0, 1) := by decide +kernel
theorem dX5_copyFrom_73 : decode cX5_copyFrom 73 = .ok (.aload_n 0, 1) := by decide +kernel
theorem dX5_copyFrom_74 : decode cX5_copyFrom 74 = .ok (.getfield 24, 3) := by decide +kernel
theorem dX5_copyFrom_77 : decode cX5_copyFrom 77 = .ok (.iconst 0, 1) := by decide +kernel
theorem dX5_copyFrom_78 : decode cX5_copyFrom 78 = .ok (.bipush 24, 2) := by decide +kernel
theorem dX5_copyFrom_80 : decode cX5_copyFrom 80 = .ok (.invokestatic 55, 3) := by decide +kernel
theorem dX5_copyFrom_83 : decode cX5_copyFrom 83 = .ok (.aload_n 1, 1) := by decide +kernel
theorem dX5_copyFrom_84 : decode cX5_copyFrom 84 = .ok (.getfield 27, 3) := by decide +kernel
theorem dX5_copyFrom_87 : decode cX5_copyFrom 87 = .ok (.iconst 0, 1) := by decide +kernel
theorem dX5_copyFrom_88 : decode cX5_copyFrom 88 = .ok (.aload_n 0, 1) := by decide +kernel
theorem dX5_copyFrom_89 : decode cX5_copyFrom 89 = .ok (.getfield 27, 3) := by decide +kernel
theorem dX5_copyFrom_92 : decode cX5_copyFrom 92 = .ok (.iconst 0, 1) := by decide +kernel
theorem dX5_copyFrom_93 : decode cX5_copyFrom 93 = .ok (.bipush 24, 2) := by decide +kernel
theorem dX5_copyFrom_95 : decode cX5_copyFrom 95 = .ok (.invokestatic 55, 3) := by decide +kernel
theorem dX5_copyFrom_98 : decode cX5_copyFrom 98 = .ok (.aload_n 1, 1) := by decide +kernel
theorem dX5_copyFrom_99 : decode cX5_copyFrom 99 = .ok (.getfield 30, 3) := by decide +kernel
theorem dX5_copyFrom_102 : decode cX5_copyFrom 102 = .ok (.iconst 0, 1) := by decide +kernel
theorem dX5_copyFrom_103 : decode cX5_copyFrom 103 = .ok (.aload_n 0, 1) := by decide +kernel
theorem dX5_copyFrom_104 : decode cX5_copyFrom 104 = .ok (.getfield 30, 3) := by decide +kernel
theorem dX5_copyFrom_107 : decode cX5_copyFrom 107 = .ok (.iconst 0, 1) := by decide +kernel
theorem dX5_copyFrom_108 : decode cX5_copyFrom 108 = .ok (.bipush 24, 2) := by decide +kernel
theorem dX5_copyFrom_110 : decode cX5_copyFrom 110 = .ok (.invokestatic 55, 3) := by decide +kernel
theorem dX5_copyFrom_113 : decode cX5_copyFrom 113 = .ok (.return_, 1) := by decide +kernel
theorem dX6_init_0 : decode cX6_init 0 = .ok (.aload_n 0, 1) := by decide +kernel
theorem dX6_init_1 : decode cX6_init 1 = .ok (.invokespecial 3, 3) := by decide +kernel
theorem dX6_init_4 : decode cX6_init 4 = .ok (.aload_n 0, 1) := by decide +kernel
theorem dX6_init_5 : decode cX6_init 5 = .ok (.bipush 10, 2) := by decide +kernel
theorem dX6_init_7 : decode cX6_init 7 = .ok (.newarray .int, 2) := by decide +kernel
theorem dX6_init_9 : decode cX6_init 9 = .ok (.putfield 9, 3) := by decide +kernel
theorem dX6_init_12 : decode cX6_init 12 = .ok (.return_, 1) := by decide +kernel
theorem dX6_lightIn_0 : decode cX6_lightIn 0 = .ok (.bipush 14, 2) := by decide +kernel
theorem dX6_lightIn_2 : decode cX6_lightIn 2 = .ok (.bipush 14, 2) := by decide +kernel
theorem dX6_lightIn_4 : decode cX6_lightIn 4 = .ok (.iload_n 0, 1) := by decide +kernel
theorem dX6_lightIn_5 : decode cX6_lightIn 5 = .ok (.bipush 28, 2) := by decide +kernel
theorem dX6_lightIn_7 : decode cX6_lightIn 7 = .ok (.irem, 1) := by decide +kernel
theorem dX6_lightIn_8 : decode cX6_lightIn 8 = .ok (.isub, 1) := by decide +kernel
theorem dX6_lightIn_9 : decode cX6_lightIn 9 = .ok (.invokestatic 15, 3) := by decide +kernel
theorem dX6_lightIn_12 : decode cX6_lightIn 12 = .ok (.isub, 1) := by decide +kernel
theorem dX6_lightIn_13 : decode cX6_lightIn 13 = .ok (.ireturn, 1) := by decide +kernel
theorem dX6_tideIn_0 : decode cX6_tideIn 0 = .ok (.bipush 7, 2) := by decide +kernel
theorem dX6_tideIn_2 : decode cX6_tideIn 2 = .ok (.iload_n 0, 1) := by decide +kernel
theorem dX6_tideIn_3 : decode cX6_tideIn 3 = .ok (.bipush 28, 2) := by decide +kernel
theorem dX6_tideIn_5 : decode cX6_tideIn 5 = .ok (.irem, 1) := by decide +kernel
theorem dX6_tideIn_6 : decode cX6_tideIn 6 = .ok (.bipush 14, 2) := by decide +kernel
theorem dX6_tideIn_8 : decode cX6_tideIn 8 = .ok (.irem, 1) := by decide +kernel
theorem dX6_tideIn_9 : decode cX6_tideIn 9 = .ok (.isub, 1) := by decide +kernel
theorem dX6_tideIn_10 : decode cX6_tideIn 10 = .ok (.invokestatic 15, 3) := by decide +kernel
theorem dX6_tideIn_13 : decode cX6_tideIn 13 = .ok (.ireturn, 1) := by decide +kernel
theorem dX6_hasCloud_0 : decode cX6_hasCloud 0 = .ok (.iload_n 1, 1) := by decide +kernel
theorem dX6_hasCloud_1 : decode cX6_hasCloud 1 = .ok (.ifCond .lt 15, 3) := by decide +kernel
theorem dX6_hasCloud_4 : decode cX6_hasCloud 4 = .ok (.iload_n 1, 1) := by decide +kernel
theorem dX6_hasCloud_5 : decode cX6_hasCloud 5 = .ok (.aload_n 0, 1) := by decide +kernel
theorem dX6_hasCloud_6 : decode cX6_hasCloud 6 = .ok (.getfield 21, 3) := by decide +kernel
theorem dX6_hasCloud_9 : decode cX6_hasCloud 9 = .ok (.if_icmp .ge 7, 3) := by decide +kernel
theorem dX6_hasCloud_12 : decode cX6_hasCloud 12 = .ok (.iconst 1, 1) := by decide +kernel
theorem dX6_hasCloud_13 : decode cX6_hasCloud 13 = .ok (.goto 4, 3) := by decide +kernel
theorem dX6_hasCloud_16 : decode cX6_hasCloud 16 = .ok (.iconst 0, 1) := by decide +kernel
theorem dX6_hasCloud_17 : decode cX6_hasCloud 17 = .ok (.ireturn, 1) := by decide +kernel
theorem dX6_addCloud_0 : decode cX6_addCloud 0 = .ok (.aload_n 0, 1) := by decide +kernel
theorem dX6_addCloud_1 : decode cX6_addCloud 1 = .ok (.getfield 21, 3) := by decide +kernel
theorem dX6_addCloud_4 : decode cX6_addCloud 4 = .ok (.bipush 10, 2) := by decide +kernel
theorem dX6_addCloud_6 : decode cX6_addCloud 6 = .ok (.if_icmp .ge 23, 3) := by decide +kernel
theorem dX6_addCloud_9 : decode cX6_addCloud 9 = .ok (.aload_n 0, 1) := by decide +kernel
theorem dX6_addCloud_10 : decode cX6_addCloud 10 = .ok (.getfield 9, 3) := by decide +kernel
theorem dX6_addCloud_13 : decode cX6_addCloud 13 = .ok (.aload_n 0, 1) := by decide +kernel
theorem dX6_addCloud_14 : decode cX6_addCloud 14 = .ok (.getfield 21, 3) := by decide +kernel
theorem dX6_addCloud_17 : decode cX6_addCloud 17 = .ok (.iload_n 1, 1) := by decide +kernel
theorem dX6_addCloud_18 : decode cX6_addCloud 18 = .ok (.iastore, 1) := by decide +kernel
theorem dX6_addCloud_19 : decode cX6_addCloud 19 = .ok (.aload_n 0, 1) := by decide +kernel
theorem dX6_addCloud_20 : decode cX6_addCloud 20 = .ok (.dup, 1) := by decide +kernel
theorem dX6_addCloud_21 : decode cX6_addCloud 21 = .ok (.getfield 21, 3) := by decide +kernel
theorem dX6_addCloud_24 : decode cX6_addCloud 24 = .ok (.iconst 1, 1) := by decide +kernel
theorem dX6_addCloud_25 : decode cX6_addCloud 25 = .ok (.iadd, 1) := by decide +kernel
theorem dX6_addCloud_26 : decode cX6_addCloud 26 = .ok (.putfield 21, 3) := by decide +kernel
theorem dX6_addCloud_29 : decode cX6_addCloud 29 = .ok (.return_, 1) := by decide +kernel
theorem dX6_cloudIn_0 : decode cX6_cloudIn 0 = .ok (.aload_n 0, 1) := by decide +kernel
theorem dX6_cloudIn_1 : decode cX6_cloudIn 1 = .ok (.getfield 21, 3) := by decide +kernel
theorem dX6_cloudIn_4 : decode cX6_cloudIn 4 = .ok (.ifCond .le 21, 3) := by decide +kernel
theorem dX6_cloudIn_7 : decode cX6_cloudIn 7 = .ok (.iload_n 1, 1) := by decide +kernel
theorem dX6_cloudIn_8 : decode cX6_cloudIn 8 = .ok (.ifCond .lt 17, 3) := by decide +kernel
theorem dX6_cloudIn_11 : decode cX6_cloudIn 11 = .ok (.aload_n 0, 1) := by decide +kernel
theorem dX6_cloudIn_12 : decode cX6_cloudIn 12 = .ok (.getfield 9, 3) := by decide +kernel
theorem dX6_cloudIn_15 : decode cX6_cloudIn 15 = .ok (.iload_n 1, 1) := by decide +kernel
theorem dX6_cloudIn_16 : decode cX6_cloudIn 16 = .ok (.aload_n 0, 1) := by decide +kernel
theorem dX6_cloudIn_17 : decode cX6_cloudIn 17 = .ok (.getfield 21, 3) := by decide +kernel
theorem dX6_cloudIn_20 : decode cX6_cloudIn 20 = .ok (.irem, 1) := by decide +kernel
theorem dX6_cloudIn_21 : decode cX6_cloudIn 21 = .ok (.iaload, 1) := by decide +kernel
theorem dX6_cloudIn_22 : decode cX6_cloudIn 22 = .ok (.goto 4, 3) := by decide +kernel
theorem dX6_cloudIn_25 : decode cX6_cloudIn 25 = .ok (.iconst 0, 1) := by decide +kernel
theorem dX6_cloudIn_26 : decode cX6_cloudIn 26 = .ok (.ireturn, 1) := by decide +kernel
set_option maxRecDepth 20000 in
theorem ggX6_visibleIn_X6_lightIn : GoodIn wsX6_visibleIn wsX6_lightIn := goodIn_r _ [4, 5, 6, 7, 8] (by decide +kernel) (by decide +kernel)
set_option maxRecDepth 20000 in
theorem gX6_visibleIn_X6_lightIn : GoodIn wsX6_visibleIn (va_wsS RX6 25 yX6_lightIn wsX6_lightIn) := goodIn_app (goodIn_of _ (by decide +kernel)) ggX6_visibleIn_X6_lightIn
set_option maxRecDepth 20000 in
theorem ggX6_visibleIn_X6_cloudIn : GoodIn wsX6_visibleIn wsX6_cloudIn := goodIn_r _ [12, 13, 14, 15, 16, 17, 18, 19] (by decide +kernel) (by decide +kernel)
set_option maxRecDepth 20000 in
theorem gX6_visibleIn_X6_cloudIn : GoodIn wsX6_visibleIn (wsV RX6 28 RX6 yX6_cloudIn wsX6_cloudIn) := goodIn_app (goodIn_of _ (by decide +kernel)) ggX6_visibleIn_X6_cloudIn
theorem dX6_visibleIn_0 : decode cX6_visibleIn 0 = .ok (.iload_n 1, 1) := by decide +kernel
theorem dX6_visibleIn_1 : decode cX6_visibleIn 1 = .ok (.invokestatic 25, 3) := by decide +kernel
theorem dX6_visibleIn_4 : decode cX6_visibleIn 4 = .ok (.bipush 10, 2) := by decide +kernel
theorem dX6_visibleIn_6 : decode cX6_visibleIn 6 = .ok (.aload_n 0, 1) := by decide +kernel
theorem dX6_visibleIn_7 : decode cX6_visibleIn 7 = .ok (.iload_n 1, 1) := by decide +kernel
theorem dX6_visibleIn_8 : decode cX6_visibleIn 8 = .ok (.invokevirtual 28, 3) := by decide +kernel
theorem dX6_visibleIn_11 : decode cX6_visibleIn 11 = .ok (.isub, 1) := by decide +kernel
theorem dX6_visibleIn_12 : decode cX6_visibleIn 12 = .ok (.imul, 1) := by decide +kernel
theorem dX6_visibleIn_13 : decode cX6_visibleIn 13 = .ok (.bipush 10, 2) := by decide +kernel
theorem dX6_visibleIn_15 : decode cX6_visibleIn 15 = .ok (.idiv, 1) := by decide +kernel
theorem dX6_visibleIn_16 : decode cX6_visibleIn 16 = .ok (.ireturn, 1) := by decide +kernel
set_option maxRecDepth 20000 in
theorem ggX6_costIn_X6_visibleIn : GoodIn wsX6_costIn wsX6_visibleIn := goodIn_r _ [5, 6, 7, 4, 8, 9, 10, 11, 12, 13, 14, 15, 16, 17, 18, 19, 20, 21, 22, 23] (by decide +kernel) (by decide +kernel)
set_option maxRecDepth 20000 in
theorem gX6_costIn_X6_visibleIn : GoodIn wsX6_costIn (wsV RX6 31 RX6 yX6_visibleIn wsX6_visibleIn) := goodIn_app (goodIn_of _ (by decide +kernel)) ggX6_costIn_X6_visibleIn
theorem dX6_costIn_0 : decode cX6_costIn 0 = .ok (.bipush 6, 2) := by decide +kernel
theorem dX6_costIn_2 : decode cX6_costIn 2 = .ok (.aload_n 0, 1) := by decide +kernel
theorem dX6_costIn_3 : decode cX6_costIn 3 = .ok (.iload_n 1, 1) := by decide +kernel
theorem dX6_costIn_4 : decode cX6_costIn 4 = .ok (.invokevirtual 31, 3) := by decide +kernel
theorem dX6_costIn_7 : decode cX6_costIn 7 = .ok (.iconst 3, 1) := by decide +kernel
theorem dX6_costIn_8 : decode cX6_costIn 8 = .ok (.idiv, 1) := by decide +kernel
theorem dX6_costIn_9 : decode cX6_costIn 9 = .ok (.isub, 1) := by decide +kernel
theorem dX6_costIn_10 : decode cX6_costIn 10 = .ok (.ireturn, 1) := by decide +kernel
set_option maxRecDepth 20000 in
theorem ggX6_justifies_X6_visibleIn : GoodIn wsX6_justifies wsX6_visibleIn := goodIn_r _ [8, 9, 10, 7, 11, 12, 13, 14, 15, 16, 17, 18, 19, 20, 21, 25, 26, 27, 28, 29] (by decide +kernel) (by decide +kernel)
set_option maxRecDepth 20000 in
theorem gX6_justifies_X6_visibleIn : GoodIn wsX6_justifies (wsV RX6 31 RX6 yX6_visibleIn wsX6_visibleIn) := goodIn_app (goodIn_of _ (by decide +kernel)) ggX6_justifies_X6_visibleIn
set_option maxRecDepth 20000 in
theorem ggX6_justifies_X6_tideIn : GoodIn wsX6_justifies wsX6_tideIn := goodIn_r _ [24, 12, 13, 14, 15] (by decide +kernel) (by decide +kernel)
set_option maxRecDepth 20000 in
theorem gX6_justifies_X6_tideIn : GoodIn wsX6_justifies (va_wsS RX6 40 yX6_tideIn wsX6_tideIn) := goodIn_app (goodIn_of _ (by decide +kernel)) ggX6_justifies_X6_tideIn
set_option maxRecDepth 20000 in
theorem ggX6_justifies_X6_lightIn : GoodIn wsX6_justifies wsX6_lightIn := goodIn_r _ [11, 12, 13, 14, 15] (by decide +kernel) (by decide +kernel)
set_option maxRecDepth 20000 in
theorem gX6_justifies_X6_lightIn : GoodIn wsX6_justifies (va_wsS RX6 25 yX6_lightIn wsX6_lightIn) := goodIn_app (goodIn_of _ (by decide +kernel)) ggX6_justifies_X6_lightIn
set_option maxRecDepth 20000 in
theorem ggX6_justifies_X6_cloudIn : GoodIn wsX6_justifies wsX6_cloudIn := goodIn_r _ [19, 20, 21, 25, 26, 27, 28, 29] (by decide +kernel) (by decide +kernel)
set_option maxRecDepth 20000 in
theorem gX6_justifies_X6_cloudIn : GoodIn wsX6_justifies (wsV RX6 28 RX6 yX6_cloudIn wsX6_cloudIn) := goodIn_app (goodIn_of _ (by decide +kernel)) ggX6_justifies_X6_cloudIn
theorem dX6_justifies_0 : decode cX6_justifies 0 = .ok (.iload_n 1, 1) := by decide +kernel
theorem dX6_justifies_1 : decode cX6_justifies 1 = .ok (.tableswitch 80 0 2 #[27, 45, 63], 27) := by decide +kernel
theorem dX6_justifies_28 : decode cX6_justifies 28 = .ok (.aload_n 0, 1) := by decide +kernel
theorem dX6_justifies_29 : decode cX6_justifies 29 = .ok (.iload_n 2, 1) := by decide +kernel
theorem dX6_justifies_30 : decode cX6_justifies 30 = .ok (.invokevirtual 31, 3) := by decide +kernel
theorem dX6_justifies_33 : decode cX6_justifies 33 = .ok (.aload_n 0, 1) := by decide +kernel
theorem dX6_justifies_34 : decode cX6_justifies 34 = .ok (.getfield 34, 3) := by decide +kernel
theorem dX6_justifies_37 : decode cX6_justifies 37 = .ok (.if_icmp .lt 7, 3) := by decide +kernel
theorem dX6_justifies_40 : decode cX6_justifies 40 = .ok (.iconst 1, 1) := by decide +kernel
theorem dX6_justifies_41 : decode cX6_justifies 41 = .ok (.goto 4, 3) := by decide +kernel
theorem dX6_justifies_44 : decode cX6_justifies 44 = .ok (.iconst 0, 1) := by decide +kernel
theorem dX6_justifies_45 : decode cX6_justifies 45 = .ok (.ireturn, 1) := by decide +kernel
theorem dX6_justifies_46 : decode cX6_justifies 46 = .ok (.aload_n 0, 1) := by decide +kernel
theorem dX6_justifies_47 : decode cX6_justifies 47 = .ok (.iload_n 2, 1) := by decide +kernel
theorem dX6_justifies_48 : decode cX6_justifies 48 = .ok (.invokevirtual 31, 3) := by decide +kernel
theorem dX6_justifies_51 : decode cX6_justifies 51 = .ok (.aload_n 0, 1) := by decide +kernel
theorem dX6_justifies_52 : decode cX6_justifies 52 = .ok (.getfield 37, 3) := by decide +kernel
theorem dX6_justifies_55 : decode cX6_justifies 55 = .ok (.if_icmp .gt 7, 3) := by decide +kernel
theorem dX6_justifies_58 : decode cX6_justifies 58 = .ok (.iconst 1, 1) := by decide +kernel
theorem dX6_justifies_59 : decode cX6_justifies 59 = .ok (.goto 4, 3) := by decide +kernel
theorem dX6_justifies_62 : decode cX6_justifies 62 = .ok (.iconst 0, 1) := by decide +kernel
theorem dX6_justifies_63 : decode cX6_justifies 63 = .ok (.ireturn, 1) := by decide +kernel
theorem dX6_justifies_64 : decode cX6_justifies 64 = .ok (.iload_n 2, 1) := by decide +kernel
theorem dX6_justifies_65 : decode cX6_justifies 65 = .ok (.invokestatic 40, 3) := by decide +kernel
theorem dX6_justifies_68 : decode cX6_justifies 68 = .ok (.aload_n 0, 1) := by decide +kernel
theorem dX6_justifies_69 : decode cX6_justifies 69 = .ok (.getfield 43, 3) := by decide +kernel
theorem dX6_justifies_72 : decode cX6_justifies 72 = .ok (.if_icmp .lt 7, 3) := by decide +kernel
theorem dX6_justifies_75 : decode cX6_justifies 75 = .ok (.iconst 1, 1) := by decide +kernel
theorem dX6_justifies_76 : decode cX6_justifies 76 = .ok (.goto 4, 3) := by decide +kernel
theorem dX6_justifies_79 : decode cX6_justifies 79 = .ok (.iconst 0, 1) := by decide +kernel
theorem dX6_justifies_80 : decode cX6_justifies 80 = .ok (.ireturn, 1) := by decide +kernel
theorem dX6_justifies_81 : decode cX6_justifies 81 = .ok (.iload_n 2, 1) := by decide +kernel
theorem dX6_justifies_82 : decode cX6_justifies 82 = .ok (.invokestatic 25, 3) := by decide +kernel
theorem dX6_justifies_85 : decode cX6_justifies 85 = .ok (.iconst 4, 1) := by decide +kernel
theorem dX6_justifies_86 : decode cX6_justifies 86 = .ok (.if_icmp .lt 16, 3) := by decide +kernel
theorem dX6_justifies_89 : decode cX6_justifies 89 = .ok (.aload_n 0, 1) := by decide +kernel
theorem dX6_justifies_90 : decode cX6_justifies 90 = .ok (.iload_n 2, 1) := by decide +kernel
theorem dX6_justifies_91 : decode cX6_justifies 91 = .ok (.invokevirtual 28, 3) := by decide +kernel
theorem dX6_justifies_94 : decode cX6_justifies 94 = .ok (.iconst 2, 1) := by decide +kernel
theorem dX6_justifies_95 : decode cX6_justifies 95 = .ok (.if_icmp .gt 7, 3) := by decide +kernel
theorem dX6_justifies_98 : decode cX6_justifies 98 = .ok (.iconst 1, 1) := by decide +kernel
theorem dX6_justifies_99 : decode cX6_justifies 99 = .ok (.goto 4, 3) := by decide +kernel
theorem dX6_justifies_102 : decode cX6_justifies 102 = .ok (.iconst 0, 1) := by decide +kernel
theorem dX6_justifies_103 : decode cX6_justifies 103 = .ok (.ireturn, 1) := by decide +kernel
set_option maxRecDepth 20000 in
theorem ggX6_justifiedSorts_X6_justifies : GoodIn wsX6_justifiedSorts wsX6_justifies := goodIn_r _ [5, 6, 7, 8, 9, 10, 11, 4, 12, 13, 14, 15, 16, 17, 18, 19, 20, 21, 22, 23, 24, 25, 26, 27, 28, 29, 30, 31, 32, 33] (by decide +kernel) (by decide +kernel)
set_option maxRecDepth 20000 in
theorem gX6_justifiedSorts_X6_justifies : GoodIn wsX6_justifiedSorts (wsV RX6 46 RX6 yX6_justifies wsX6_justifies) := goodIn_app (goodIn_of _ (by decide +kernel)) ggX6_justifiedSorts_X6_justifies
theorem dX6_justifiedSorts_0 : decode cX6_justifiedSorts 0 = .ok (.iconst 0, 1) := by decide +kernel
theorem dX6_justifiedSorts_1 : decode cX6_justifiedSorts 1 = .ok (.istore_n 2, 1) := by decide +kernel
theorem dX6_justifiedSorts_2 : decode cX6_justifiedSorts 2 = .ok (.iconst 0, 1) := by decide +kernel
theorem dX6_justifiedSorts_3 : decode cX6_justifiedSorts 3 = .ok (.istore_n 3, 1) := by decide +kernel
theorem dX6_justifiedSorts_4 : decode cX6_justifiedSorts 4 = .ok (.iload_n 3, 1) := by decide +kernel
theorem dX6_justifiedSorts_5 : decode cX6_justifiedSorts 5 = .ok (.iconst 3, 1) := by decide +kernel
theorem dX6_justifiedSorts_6 : decode cX6_justifiedSorts 6 = .ok (.if_icmp .gt 24, 3) := by decide +kernel
theorem dX6_justifiedSorts_9 : decode cX6_justifiedSorts 9 = .ok (.aload_n 0, 1) := by decide +kernel
theorem dX6_justifiedSorts_10 : decode cX6_justifiedSorts 10 = .ok (.iload_n 3, 1) := by decide +kernel
theorem dX6_justifiedSorts_11 : decode cX6_justifiedSorts 11 = .ok (.iload_n 1, 1) := by decide +kernel
theorem dX6_justifiedSorts_12 : decode cX6_justifiedSorts 12 = .ok (.invokevirtual 46, 3) := by decide +kernel
theorem dX6_justifiedSorts_15 : decode cX6_justifiedSorts 15 = .ok (.ifCond .eq 9, 3) := by decide +kernel
theorem dX6_justifiedSorts_18 : decode cX6_justifiedSorts 18 = .ok (.iload_n 2, 1) := by decide +kernel
theorem dX6_justifiedSorts_19 : decode cX6_justifiedSorts 19 = .ok (.iconst 1, 1) := by decide +kernel
theorem dX6_justifiedSorts_20 : decode cX6_justifiedSorts 20 = .ok (.iload_n 3, 1) := by decide +kernel
theorem dX6_justifiedSorts_21 : decode cX6_justifiedSorts 21 = .ok (.ishl, 1) := by decide +kernel
theorem dX6_justifiedSorts_22 : decode cX6_justifiedSorts 22 = .ok (.ior, 1) := by decide +kernel
theorem dX6_justifiedSorts_23 : decode cX6_justifiedSorts 23 = .ok (.istore_n 2, 1) := by decide +kernel
theorem dX6_justifiedSorts_24 : decode cX6_justifiedSorts 24 = .ok (.iinc 3 1, 3) := by decide +kernel
theorem dX6_justifiedSorts_27 : decode cX6_justifiedSorts 27 = .ok (.goto (-23), 3) := by decide +kernel
theorem dX6_justifiedSorts_30 : decode cX6_justifiedSorts 30 = .ok (.iload_n 2, 1) := by decide +kernel
theorem dX6_justifiedSorts_31 : decode cX6_justifiedSorts 31 = .ok (.ireturn, 1) := by decide +kernel
set_option maxRecDepth 20000 in
theorem ggX6_countJustified_X6_justifies : GoodIn wsX6_countJustified wsX6_justifies := goodIn_r _ [5, 6, 7, 8, 9, 10, 11, 4, 12, 13, 14, 15, 16, 17, 18, 19, 20, 21, 22, 23, 24, 25, 26, 27, 28, 29, 30, 31, 32, 33] (by decide +kernel) (by decide +kernel)
set_option maxRecDepth 20000 in
theorem gX6_countJustified_X6_justifies : GoodIn wsX6_countJustified (wsV RX6 46 RX6 yX6_justifies wsX6_justifies) := goodIn_app (goodIn_of _ (by decide +kernel)) ggX6_countJustified_X6_justifies
theorem dX6_countJustified_0 : decode cX6_countJustified 0 = .ok (.iconst 0, 1) := by decide +kernel
theorem dX6_countJustified_1 : decode cX6_countJustified 1 = .ok (.istore_n 3, 1) := by decide +kernel
theorem dX6_countJustified_2 : decode cX6_countJustified 2 = .ok (.iload_n 2, 1) := by decide +kernel
theorem dX6_countJustified_3 : decode cX6_countJustified 3 = .ok (.istore 4, 2) := by decide +kernel
theorem dX6_countJustified_5 : decode cX6_countJustified 5 = .ok (.iload 4, 2) := by decide +kernel
theorem dX6_countJustified_7 : decode cX6_countJustified 7 = .ok (.iload_n 2, 1) := by decide +kernel
theorem dX6_countJustified_8 : decode cX6_countJustified 8 = .ok (.bipush 28, 2) := by decide +kernel
theorem dX6_countJustified_10 : decode cX6_countJustified 10 = .ok (.iadd, 1) := by decide +kernel
theorem dX6_countJustified_11 : decode cX6_countJustified 11 = .ok (.if_icmp .ge 22, 3) := by decide +kernel
theorem dX6_countJustified_14 : decode cX6_countJustified 14 = .ok (.aload_n 0, 1) := by decide +kernel
theorem dX6_countJustified_15 : decode cX6_countJustified 15 = .ok (.iload_n 1, 1) := by decide +kernel
theorem dX6_countJustified_16 : decode cX6_countJustified 16 = .ok (.iload 4, 2) := by decide +kernel
theorem dX6_countJustified_18 : decode cX6_countJustified 18 = .ok (.invokevirtual 46, 3) := by decide +kernel
theorem dX6_countJustified_21 : decode cX6_countJustified 21 = .ok (.ifCond .eq 6, 3) := by decide +kernel
theorem dX6_countJustified_24 : decode cX6_countJustified 24 = .ok (.iinc 3 1, 3) := by decide +kernel
theorem dX6_countJustified_27 : decode cX6_countJustified 27 = .ok (.iinc 4 1, 3) := by decide +kernel
theorem dX6_countJustified_30 : decode cX6_countJustified 30 = .ok (.goto (-25), 3) := by decide +kernel
theorem dX6_countJustified_33 : decode cX6_countJustified 33 = .ok (.iload_n 3, 1) := by decide +kernel
theorem dX6_countJustified_34 : decode cX6_countJustified 34 = .ok (.ireturn, 1) := by decide +kernel
theorem dX6_copyFrom_0 : decode cX6_copyFrom 0 = .ok (.aload_n 0, 1) := by decide +kernel
theorem dX6_copyFrom_1 : decode cX6_copyFrom 1 = .ok (.aload_n 1, 1) := by decide +kernel
theorem dX6_copyFrom_2 : decode cX6_copyFrom 2 = .ok (.getfield 34, 3) := by decide +kernel
theorem dX6_copyFrom_5 : decode cX6_copyFrom 5 = .ok (.putfield 34, 3) := by decide +kernel
theorem dX6_copyFrom_8 : decode cX6_copyFrom 8 = .ok (.aload_n 0, 1) := by decide +kernel
theorem dX6_copyFrom_9 : decode cX6_copyFrom 9 = .ok (.aload_n 1, 1) := by decide +kernel
theorem dX6_copyFrom_10 : decode cX6_copyFrom 10 = .ok (.getfield 37, 3) := by decide +kernel
theorem dX6_copyFrom_13 : decode cX6_copyFrom 13 = .ok (.putfield 37, 3) := by decide +kernel
theorem dX6_copyFrom_16 : decode cX6_copyFrom 16 = .ok (.aload_n 0, 1) := by decide +kernel
theorem dX6_copyFrom_17 : decode cX6_copyFrom 17 = .ok (.aload_n 1, 1) := by decide +kernel
theorem dX6_copyFrom_18 : decode cX6_copyFrom 18 = .ok (.getfield 43, 3) := by decide +kernel
theorem dX6_copyFrom_21 : decode cX6_copyFrom 21 = .ok (.putfield 43, 3) := by decide +kernel
theorem dX6_copyFrom_24 : decode cX6_copyFrom 24 = .ok (.aload_n 0, 1) := by decide +kernel
theorem dX6_copyFrom_25 : decode cX6_copyFrom 25 = .ok (.aload_n 1, 1) := by decide +kernel
theorem dX6_copyFrom_26 : decode cX6_copyFrom 26 = .ok (.getfield 21, 3) := by decide +kernel
theorem dX6_copyFrom_29 : decode cX6_copyFrom 29 = .ok (.putfield 21, 3) := by decide +kernel
theorem dX6_copyFrom_32 : decode cX6_copyFrom 32 = .ok (.aload_n 1, 1) := by decide +kernel
theorem dX6_copyFrom_33 : decode cX6_copyFrom 33 = .ok (.getfield 9, 3) := by decide +kernel
theorem dX6_copyFrom_36 : decode cX6_copyFrom 36 = .ok (.iconst 0, 1) := by decide +kernel
theorem dX6_copyFrom_37 : decode cX6_copyFrom 37 = .ok (.aload_n 0, 1) := by decide +kernel
theorem dX6_copyFrom_38 : decode cX6_copyFrom 38 = .ok (.getfield 9, 3) := by decide +kernel
theorem dX6_copyFrom_41 : decode cX6_copyFrom 41 = .ok (.iconst 0, 1) := by decide +kernel
theorem dX6_copyFrom_42 : decode cX6_copyFrom 42 = .ok (.bipush 10, 2) := by decide +kernel
theorem dX6_copyFrom_44 : decode cX6_copyFrom 44 = .ok (.invokestatic 50, 3) := by decide +kernel
theorem dX6_copyFrom_47 : decode cX6_copyFrom 47 = .ok (.return_, 1) := by decide +kernel
set_option maxRecDepth 20000 in
theorem ggX7_init_X3_init : GoodIn wsX7_init wsX3_init := goodIn_r _ [11, 12, 2, 3, 13, 14, 15, 16, 17, 18, 19, 20, 21, 22, 23, 24, 25, 26, 27, 28, 29, 30, 31, 32, 33, 34, 35, 36, 37, 38, 39, 40, 41, 42, 43, 44, 51, 52, 53, 54, 55, 47, 48, 49, 50, 56, 57, 58, 59, 60, 61, 62, 63, 64, 65, 66, 67] (by decide +kernel) (by decide +kernel)
set_option maxRecDepth 20000 in
theorem gX7_init_X3_init_n21 : GoodIn wsX7_init (wsX3_init) := ggX7_init_X3_init
theorem dX7_init_0 : decode cX7_init 0 = .ok (.aload_n 0, 1) := by decide +kernel
theorem dX7_init_1 : decode cX7_init 1 = .ok (.invokespecial 3, 3) := by decide +kernel
theorem dX7_init_4 : decode cX7_init 4 = .ok (.aload_n 0, 1) := by decide +kernel
theorem dX7_init_5 : decode cX7_init 5 = .ok (.iconst 2, 1) := by decide +kernel
theorem dX7_init_6 : decode cX7_init 6 = .ok (.newarray .boolean, 2) := by decide +kernel
theorem dX7_init_8 : decode cX7_init 8 = .ok (.putfield 9, 3) := by decide +kernel
theorem dX7_init_11 : decode cX7_init 11 = .ok (.aload_n 0, 1) := by decide +kernel
theorem dX7_init_12 : decode cX7_init 12 = .ok (.iconst 2, 1) := by decide +kernel
theorem dX7_init_13 : decode cX7_init 13 = .ok (.anewarray 15, 3) := by decide +kernel
theorem dX7_init_16 : decode cX7_init 16 = .ok (.putfield 17, 3) := by decide +kernel
theorem dX7_init_19 : decode cX7_init 19 = .ok (.iconst 0, 1) := by decide +kernel
theorem dX7_init_20 : decode cX7_init 20 = .ok (.istore_n 1, 1) := by decide +kernel
theorem dX7_init_21 : decode cX7_init 21 = .ok (.iload_n 1, 1) := by decide +kernel
theorem dX7_init_22 : decode cX7_init 22 = .ok (.iconst 2, 1) := by decide +kernel
theorem dX7_init_23 : decode cX7_init 23 = .ok (.if_icmp .ge 22, 3) := by decide +kernel
theorem dX7_init_26 : decode cX7_init 26 = .ok (.aload_n 0, 1) := by decide +kernel
theorem dX7_init_27 : decode cX7_init 27 = .ok (.getfield 17, 3) := by decide +kernel
theorem dX7_init_30 : decode cX7_init 30 = .ok (.iload_n 1, 1) := by decide +kernel
theorem dX7_init_31 : decode cX7_init 31 = .ok (.new 15, 3) := by decide +kernel
theorem dX7_init_34 : decode cX7_init 34 = .ok (.dup, 1) := by decide +kernel
theorem dX7_init_35 : decode cX7_init 35 = .ok (.invokespecial 21, 3) := by decide +kernel
theorem dX7_init_38 : decode cX7_init 38 = .ok (.aastore, 1) := by decide +kernel
theorem dX7_init_39 : decode cX7_init 39 = .ok (.iinc 1 1, 3) := by decide +kernel
theorem dX7_init_42 : decode cX7_init 42 = .ok (.goto (-21), 3) := by decide +kernel
theorem dX7_init_45 : decode cX7_init 45 = .ok (.return_, 1) := by decide +kernel
set_option maxRecDepth 20000 in
theorem ggX7_put_X3_copyFrom : GoodIn wsX7_put wsX3_copyFrom := goodIn_r _ [7, 8, 9, 10, 11, 12, 13, 14, 15, 16, 17, 18, 19, 20, 21, 22, 23, 24, 25, 26, 27, 28, 29, 30, 31, 32, 33, 34, 35, 36, 37, 38, 39, 40, 41, 42, 43, 44, 45, 46, 47, 48, 49, 52, 53, 54, 55, 56, 57, 58, 59, 60, 61, 62, 63, 64, 65, 66, 67, 68, 69, 70, 71, 72] (by decide +kernel) (by decide +kernel)
set_option maxRecDepth 20000 in
theorem gX7_put_X3_copyFrom : GoodIn wsX7_put (wsV RX7 22 RX3 yX3_copyFrom wsX3_copyFrom) := goodIn_app (goodIn_of _ (by decide +kernel)) ggX7_put_X3_copyFrom
theorem dX7_put_0 : decode cX7_put 0 = .ok (.iload_n 1, 1) := by decide +kernel
theorem dX7_put_1 : decode cX7_put 1 = .ok (.ifCond .lt 25, 3) := by decide +kernel
theorem dX7_put_4 : decode cX7_put 4 = .ok (.iload_n 1, 1) := by decide +kernel
theorem dX7_put_5 : decode cX7_put 5 = .ok (.iconst 2, 1) := by decide +kernel
theorem dX7_put_6 : decode cX7_put 6 = .ok (.if_icmp .ge 20, 3) := by decide +kernel
theorem dX7_put_9 : decode cX7_put 9 = .ok (.aload_n 0, 1) := by decide +kernel
theorem dX7_put_10 : decode cX7_put 10 = .ok (.getfield 17, 3) := by decide +kernel
theorem dX7_put_13 : decode cX7_put 13 = .ok (.iload_n 1, 1) := by decide +kernel
theorem dX7_put_14 : decode cX7_put 14 = .ok (.aaload, 1) := by decide +kernel
theorem dX7_put_15 : decode cX7_put 15 = .ok (.aload_n 2, 1) := by decide +kernel
theorem dX7_put_16 : decode cX7_put 16 = .ok (.invokevirtual 22, 3) := by decide +kernel
theorem dX7_put_19 : decode cX7_put 19 = .ok (.aload_n 0, 1) := by decide +kernel
theorem dX7_put_20 : decode cX7_put 20 = .ok (.getfield 9, 3) := by decide +kernel
theorem dX7_put_23 : decode cX7_put 23 = .ok (.iload_n 1, 1) := by decide +kernel
theorem dX7_put_24 : decode cX7_put 24 = .ok (.iconst 1, 1) := by decide +kernel
theorem dX7_put_25 : decode cX7_put 25 = .ok (.bastore, 1) := by decide +kernel
theorem dX7_put_26 : decode cX7_put 26 = .ok (.return_, 1) := by decide +kernel
theorem dX7_forget_0 : decode cX7_forget 0 = .ok (.iconst 0, 1) := by decide +kernel
theorem dX7_forget_1 : decode cX7_forget 1 = .ok (.istore_n 1, 1) := by decide +kernel
theorem dX7_forget_2 : decode cX7_forget 2 = .ok (.iload_n 1, 1) := by decide +kernel
theorem dX7_forget_3 : decode cX7_forget 3 = .ok (.iconst 2, 1) := by decide +kernel
theorem dX7_forget_4 : decode cX7_forget 4 = .ok (.if_icmp .ge 16, 3) := by decide +kernel
theorem dX7_forget_7 : decode cX7_forget 7 = .ok (.aload_n 0, 1) := by decide +kernel
theorem dX7_forget_8 : decode cX7_forget 8 = .ok (.getfield 9, 3) := by decide +kernel
theorem dX7_forget_11 : decode cX7_forget 11 = .ok (.iload_n 1, 1) := by decide +kernel
theorem dX7_forget_12 : decode cX7_forget 12 = .ok (.iconst 0, 1) := by decide +kernel
theorem dX7_forget_13 : decode cX7_forget 13 = .ok (.bastore, 1) := by decide +kernel
theorem dX7_forget_14 : decode cX7_forget 14 = .ok (.iinc 1 1, 3) := by decide +kernel
theorem dX7_forget_17 : decode cX7_forget 17 = .ok (.goto (-15), 3) := by decide +kernel
theorem dX7_forget_20 : decode cX7_forget 20 = .ok (.return_, 1) := by decide +kernel
theorem dX8_init_0 : decode cX8_init 0 = .ok (.aload_n 0, 1) := by decide +kernel
theorem dX8_init_1 : decode cX8_init 1 = .ok (.invokespecial 3, 3) := by decide +kernel
theorem dX8_init_4 : decode cX8_init 4 = .ok (.aload_n 0, 1) := by decide +kernel
theorem dX8_init_5 : decode cX8_init 5 = .ok (.iconst 5, 1) := by decide +kernel
theorem dX8_init_6 : decode cX8_init 6 = .ok (.newarray .int, 2) := by decide +kernel
theorem dX8_init_8 : decode cX8_init 8 = .ok (.putfield 9, 3) := by decide +kernel
theorem dX8_init_11 : decode cX8_init 11 = .ok (.aload_n 0, 1) := by decide +kernel
theorem dX8_init_12 : decode cX8_init 12 = .ok (.iconst 5, 1) := by decide +kernel
theorem dX8_init_13 : decode cX8_init 13 = .ok (.newarray .int, 2) := by decide +kernel
theorem dX8_init_15 : decode cX8_init 15 = .ok (.putfield 15, 3) := by decide +kernel
theorem dX8_init_18 : decode cX8_init 18 = .ok (.return_, 1) := by decide +kernel
theorem dX8_has_0 : decode cX8_has 0 = .ok (.iload_n 1, 1) := by decide +kernel
theorem dX8_has_1 : decode cX8_has 1 = .ok (.ifCond .lt 15, 3) := by decide +kernel
theorem dX8_has_4 : decode cX8_has 4 = .ok (.iload_n 1, 1) := by decide +kernel
theorem dX8_has_5 : decode cX8_has 5 = .ok (.aload_n 0, 1) := by decide +kernel
theorem dX8_has_6 : decode cX8_has 6 = .ok (.getfield 18, 3) := by decide +kernel
theorem dX8_has_9 : decode cX8_has 9 = .ok (.if_icmp .ge 7, 3) := by decide +kernel
theorem dX8_has_12 : decode cX8_has 12 = .ok (.iconst 1, 1) := by decide +kernel
theorem dX8_has_13 : decode cX8_has 13 = .ok (.goto 4, 3) := by decide +kernel
theorem dX8_has_16 : decode cX8_has 16 = .ok (.iconst 0, 1) := by decide +kernel
theorem dX8_has_17 : decode cX8_has 17 = .ok (.ireturn, 1) := by decide +kernel
theorem dX8_add_0 : decode cX8_add 0 = .ok (.aload_n 0, 1) := by decide +kernel
theorem dX8_add_1 : decode cX8_add 1 = .ok (.getfield 18, 3) := by decide +kernel
theorem dX8_add_4 : decode cX8_add 4 = .ok (.iconst 5, 1) := by decide +kernel
theorem dX8_add_5 : decode cX8_add 5 = .ok (.if_icmp .ge 33, 3) := by decide +kernel
theorem dX8_add_8 : decode cX8_add 8 = .ok (.aload_n 0, 1) := by decide +kernel
theorem dX8_add_9 : decode cX8_add 9 = .ok (.getfield 9, 3) := by decide +kernel
theorem dX8_add_12 : decode cX8_add 12 = .ok (.aload_n 0, 1) := by decide +kernel
theorem dX8_add_13 : decode cX8_add 13 = .ok (.getfield 18, 3) := by decide +kernel
theorem dX8_add_16 : decode cX8_add 16 = .ok (.iload_n 1, 1) := by decide +kernel
theorem dX8_add_17 : decode cX8_add 17 = .ok (.iastore, 1) := by decide +kernel
theorem dX8_add_18 : decode cX8_add 18 = .ok (.aload_n 0, 1) := by decide +kernel
theorem dX8_add_19 : decode cX8_add 19 = .ok (.getfield 15, 3) := by decide +kernel
theorem dX8_add_22 : decode cX8_add 22 = .ok (.aload_n 0, 1) := by decide +kernel
theorem dX8_add_23 : decode cX8_add 23 = .ok (.getfield 18, 3) := by decide +kernel
theorem dX8_add_26 : decode cX8_add 26 = .ok (.iload_n 2, 1) := by decide +kernel
theorem dX8_add_27 : decode cX8_add 27 = .ok (.iastore, 1) := by decide +kernel
theorem dX8_add_28 : decode cX8_add 28 = .ok (.aload_n 0, 1) := by decide +kernel
theorem dX8_add_29 : decode cX8_add 29 = .ok (.dup, 1) := by decide +kernel
theorem dX8_add_30 : decode cX8_add 30 = .ok (.getfield 18, 3) := by decide +kernel
theorem dX8_add_33 : decode cX8_add 33 = .ok (.iconst 1, 1) := by decide +kernel
theorem dX8_add_34 : decode cX8_add 34 = .ok (.iadd, 1) := by decide +kernel
theorem dX8_add_35 : decode cX8_add 35 = .ok (.putfield 18, 3) := by decide +kernel
theorem dX8_add_38 : decode cX8_add 38 = .ok (.return_, 1) := by decide +kernel
set_option maxRecDepth 20000 in
theorem ggX8_burn_X8_has : GoodIn wsX8_burn wsX8_has := goodIn_r _ [7, 8, 9, 10, 11, 12] (by decide +kernel) (by decide +kernel)
set_option maxRecDepth 20000 in
theorem gX8_burn_X8_has : GoodIn wsX8_burn (wsV RX8 22 RX8 yX8_has wsX8_has) := goodIn_app (goodIn_of _ (by decide +kernel)) ggX8_burn_X8_has
theorem dX8_burn_0 : decode cX8_burn 0 = .ok (.aload_n 0, 1) := by decide +kernel
theorem dX8_burn_1 : decode cX8_burn 1 = .ok (.iload_n 1, 1) := by decide +kernel
theorem dX8_burn_2 : decode cX8_burn 2 = .ok (.invokevirtual 22, 3) := by decide +kernel
theorem dX8_burn_5 : decode cX8_burn 5 = .ok (.ifCond .eq 23, 3) := by decide +kernel
theorem dX8_burn_8 : decode cX8_burn 8 = .ok (.aload_n 0, 1) := by decide +kernel
theorem dX8_burn_9 : decode cX8_burn 9 = .ok (.getfield 15, 3) := by decide +kernel
theorem dX8_burn_12 : decode cX8_burn 12 = .ok (.iload_n 1, 1) := by decide +kernel
theorem dX8_burn_13 : decode cX8_burn 13 = .ok (.dup2, 1) := by decide +kernel
theorem dX8_burn_14 : decode cX8_burn 14 = .ok (.iaload, 1) := by decide +kernel
theorem dX8_burn_15 : decode cX8_burn 15 = .ok (.iload_n 2, 1) := by decide +kernel
theorem dX8_burn_16 : decode cX8_burn 16 = .ok (.isub, 1) := by decide +kernel
theorem dX8_burn_17 : decode cX8_burn 17 = .ok (.iastore, 1) := by decide +kernel
theorem dX8_burn_18 : decode cX8_burn 18 = .ok (.aload_n 0, 1) := by decide +kernel
theorem dX8_burn_19 : decode cX8_burn 19 = .ok (.dup, 1) := by decide +kernel
theorem dX8_burn_20 : decode cX8_burn 20 = .ok (.getfield 26, 3) := by decide +kernel
theorem dX8_burn_23 : decode cX8_burn 23 = .ok (.iload_n 2, 1) := by decide +kernel
theorem dX8_burn_24 : decode cX8_burn 24 = .ok (.iadd, 1) := by decide +kernel
theorem dX8_burn_25 : decode cX8_burn 25 = .ok (.putfield 26, 3) := by decide +kernel
theorem dX8_burn_28 : decode cX8_burn 28 = .ok (.return_, 1) := by decide +kernel
theorem dX8_withLeastOil_0 : decode cX8_withLeastOil 0 = .ok (.iconst (-1), 1) := by decide +kernel
theorem dX8_withLeastOil_1 : decode cX8_withLeastOil 1 = .ok (.istore_n 1, 1) := by decide +kernel
theorem dX8_withLeastOil_2 : decode cX8_withLeastOil 2 = .ok (.bipush 100, 2) := by decide +kernel
theorem dX8_withLeastOil_4 : decode cX8_withLeastOil 4 = .ok (.istore_n 2, 1) := by decide +kernel
theorem dX8_withLeastOil_5 : decode cX8_withLeastOil 5 = .ok (.iconst 0, 1) := by decide +kernel
theorem dX8_withLeastOil_6 : decode cX8_withLeastOil 6 = .ok (.istore_n 3, 1) := by decide +kernel
theorem dX8_withLeastOil_7 : decode cX8_withLeastOil 7 = .ok (.iload_n 3, 1) := by decide +kernel
theorem dX8_withLeastOil_8 : decode cX8_withLeastOil 8 = .ok (.aload_n 0, 1) := by decide +kernel
theorem dX8_withLeastOil_9 : decode cX8_withLeastOil 9 = .ok (.getfield 18, 3) := by decide +kernel
theorem dX8_withLeastOil_12 : decode cX8_withLeastOil 12 = .ok (.if_icmp .ge 28, 3) := by decide +kernel
theorem dX8_withLeastOil_15 : decode cX8_withLeastOil 15 = .ok (.aload_n 0, 1) := by decide +kernel
theorem dX8_withLeastOil_16 : decode cX8_withLeastOil 16 = .ok (.getfield 15, 3) := by decide +kernel
theorem dX8_withLeastOil_19 : decode cX8_withLeastOil 19 = .ok (.iload_n 3, 1) := by decide +kernel
theorem dX8_withLeastOil_20 : decode cX8_withLeastOil 20 = .ok (.iaload, 1) := by decide +kernel
theorem dX8_withLeastOil_21 : decode cX8_withLeastOil 21 = .ok (.iload_n 2, 1) := by decide +kernel
theorem dX8_withLeastOil_22 : decode cX8_withLeastOil 22 = .ok (.if_icmp .ge 12, 3) := by decide +kernel
theorem dX8_withLeastOil_25 : decode cX8_withLeastOil 25 = .ok (.aload_n 0, 1) := by decide +kernel
theorem dX8_withLeastOil_26 : decode cX8_withLeastOil 26 = .ok (.getfield 15, 3) := by decide +kernel
theorem dX8_withLeastOil_29 : decode cX8_withLeastOil 29 = .ok (.iload_n 3, 1) := by decide +kernel
theorem dX8_withLeastOil_30 : decode cX8_withLeastOil 30 = .ok (.iaload, 1) := by decide +kernel
theorem dX8_withLeastOil_31 : decode cX8_withLeastOil 31 = .ok (.istore_n 2, 1) := by decide +kernel
theorem dX8_withLeastOil_32 : decode cX8_withLeastOil 32 = .ok (.iload_n 3, 1) := by decide +kernel
theorem dX8_withLeastOil_33 : decode cX8_withLeastOil 33 = .ok (.istore_n 1, 1) := by decide +kernel
theorem dX8_withLeastOil_34 : decode cX8_withLeastOil 34 = .ok (.iinc 3 1, 3) := by decide +kernel
theorem dX8_withLeastOil_37 : decode cX8_withLeastOil 37 = .ok (.goto (-30), 3) := by decide +kernel
theorem dX8_withLeastOil_40 : decode cX8_withLeastOil 40 = .ok (.iload_n 1, 1) := by decide +kernel
theorem dX8_withLeastOil_41 : decode cX8_withLeastOil 41 = .ok (.ireturn, 1) := by decide +kernel
theorem dX8_copyFrom_0 : decode cX8_copyFrom 0 = .ok (.aload_n 0, 1) := by decide +kernel
theorem dX8_copyFrom_1 : decode cX8_copyFrom 1 = .ok (.aload_n 1, 1) := by decide +kernel
theorem dX8_copyFrom_2 : decode cX8_copyFrom 2 = .ok (.getfield 18, 3) := by decide +kernel
theorem dX8_copyFrom_5 : decode cX8_copyFrom 5 = .ok (.putfield 18, 3) := by decide +kernel
theorem dX8_copyFrom_8 : decode cX8_copyFrom 8 = .ok (.aload_n 0, 1) := by decide +kernel
theorem dX8_copyFrom_9 : decode cX8_copyFrom 9 = .ok (.aload_n 1, 1) := by decide +kernel
theorem dX8_copyFrom_10 : decode cX8_copyFrom 10 = .ok (.getfield 26, 3) := by decide +kernel
theorem dX8_copyFrom_13 : decode cX8_copyFrom 13 = .ok (.putfield 26, 3) := by decide +kernel
theorem dX8_copyFrom_16 : decode cX8_copyFrom 16 = .ok (.aload_n 1, 1) := by decide +kernel
theorem dX8_copyFrom_17 : decode cX8_copyFrom 17 = .ok (.getfield 9, 3) := by decide +kernel
theorem dX8_copyFrom_20 : decode cX8_copyFrom 20 = .ok (.iconst 0, 1) := by decide +kernel
theorem dX8_copyFrom_21 : decode cX8_copyFrom 21 = .ok (.aload_n 0, 1) := by decide +kernel
theorem dX8_copyFrom_22 : decode cX8_copyFrom 22 = .ok (.getfield 9, 3) := by decide +kernel
theorem dX8_copyFrom_25 : decode cX8_copyFrom 25 = .ok (.iconst 0, 1) := by decide +kernel
theorem dX8_copyFrom_26 : decode cX8_copyFrom 26 = .ok (.iconst 5, 1) := by decide +kernel
theorem dX8_copyFrom_27 : decode cX8_copyFrom 27 = .ok (.invokestatic 29, 3) := by decide +kernel
theorem dX8_copyFrom_30 : decode cX8_copyFrom 30 = .ok (.aload_n 1, 1) := by decide +kernel
theorem dX8_copyFrom_31 : decode cX8_copyFrom 31 = .ok (.getfield 15, 3) := by decide +kernel
theorem dX8_copyFrom_34 : decode cX8_copyFrom 34 = .ok (.iconst 0, 1) := by decide +kernel
theorem dX8_copyFrom_35 : decode cX8_copyFrom 35 = .ok (.aload_n 0, 1) := by decide +kernel
theorem dX8_copyFrom_36 : decode cX8_copyFrom 36 = .ok (.getfield 15, 3) := by decide +kernel
theorem dX8_copyFrom_39 : decode cX8_copyFrom 39 = .ok (.iconst 0, 1) := by decide +kernel
theorem dX8_copyFrom_40 : decode cX8_copyFrom 40 = .ok (.iconst 5, 1) := by decide +kernel
theorem dX8_copyFrom_41 : decode cX8_copyFrom 41 = .ok (.invokestatic 29, 3) := by decide +kernel
theorem dX8_copyFrom_44 : decode cX8_copyFrom 44 = .ok (.return_, 1) := by decide +kernel

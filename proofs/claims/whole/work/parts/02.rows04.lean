theorem dX9_ones_5 : decode cX9_ones 5 = .ok (.bipush 8, 2) := by decide +kernel
theorem dX9_ones_7 : decode cX9_ones 7 = .ok (.if_icmp .ge 17, 3) := by decide +kernel
theorem dX9_ones_10 : decode cX9_ones 10 = .ok (.iload_n 1, 1) := by decide +kernel
theorem dX9_ones_11 : decode cX9_ones 11 = .ok (.iload_n 0, 1) := by decide +kernel
theorem dX9_ones_12 : decode cX9_ones 12 = .ok (.iload_n 2, 1) := by decide +kernel
theorem dX9_ones_13 : decode cX9_ones 13 = .ok (.ishr, 1) := by decide +kernel
theorem dX9_ones_14 : decode cX9_ones 14 = .ok (.iconst 1, 1) := by decide +kernel
theorem dX9_ones_15 : decode cX9_ones 15 = .ok (.iand, 1) := by decide +kernel
theorem dX9_ones_16 : decode cX9_ones 16 = .ok (.iadd, 1) := by decide +kernel
theorem dX9_ones_17 : decode cX9_ones 17 = .ok (.istore_n 1, 1) := by decide +kernel
theorem dX9_ones_18 : decode cX9_ones 18 = .ok (.iinc 2 1, 3) := by decide +kernel
theorem dX9_ones_21 : decode cX9_ones 21 = .ok (.goto (-17), 3) := by decide +kernel
theorem dX9_ones_24 : decode cX9_ones 24 = .ok (.iload_n 1, 1) := by decide +kernel
theorem dX9_ones_25 : decode cX9_ones 25 = .ok (.ireturn, 1) := by decide +kernel
set_option maxRecDepth 20000 in
theorem ggX9_write_X9_in : GoodIn wsX9_write wsX9_in := goodIn_r _ [6] (by decide +kernel) (by decide +kernel)
set_option maxRecDepth 20000 in
theorem gX9_write_X9_in : GoodIn wsX9_write (va_wsS RX9 62 yX9_in wsX9_in) := goodIn_app (goodIn_of _ (by decide +kernel)) ggX9_write_X9_in
theorem dX9_write_0 : decode cX9_write 0 = .ok (.iload_n 1, 1) := by decide +kernel
theorem dX9_write_1 : decode cX9_write 1 = .ok (.bipush 32, 2) := by decide +kernel
theorem dX9_write_3 : decode cX9_write 3 = .ok (.bipush 126, 2) := by decide +kernel
theorem dX9_write_5 : decode cX9_write 5 = .ok (.invokestatic 62, 3) := by decide +kernel
theorem dX9_write_8 : decode cX9_write 8 = .ok (.ifCond .ne 5, 3) := by decide +kernel
theorem dX9_write_11 : decode cX9_write 11 = .ok (.iconst (-1), 1) := by decide +kernel
theorem dX9_write_12 : decode cX9_write 12 = .ok (.ireturn, 1) := by decide +kernel
theorem dX9_write_13 : decode cX9_write 13 = .ok (.aload_n 0, 1) := by decide +kernel
theorem dX9_write_14 : decode cX9_write 14 = .ok (.getfield 66, 3) := by decide +kernel
theorem dX9_write_17 : decode cX9_write 17 = .ok (.sipush 200, 3) := by decide +kernel
theorem dX9_write_20 : decode cX9_write 20 = .ok (.if_icmp .ne 6, 3) := by decide +kernel
theorem dX9_write_23 : decode cX9_write 23 = .ok (.bipush (-3), 2) := by decide +kernel
theorem dX9_write_25 : decode cX9_write 25 = .ok (.ireturn, 1) := by decide +kernel
theorem dX9_write_26 : decode cX9_write 26 = .ok (.aload_n 0, 1) := by decide +kernel
theorem dX9_write_27 : decode cX9_write 27 = .ok (.getfield 7, 3) := by decide +kernel
theorem dX9_write_30 : decode cX9_write 30 = .ok (.aload_n 0, 1) := by decide +kernel
theorem dX9_write_31 : decode cX9_write 31 = .ok (.getfield 66, 3) := by decide +kernel
theorem dX9_write_34 : decode cX9_write 34 = .ok (.iload_n 1, 1) := by decide +kernel
theorem dX9_write_35 : decode cX9_write 35 = .ok (.iastore, 1) := by decide +kernel
theorem dX9_write_36 : decode cX9_write 36 = .ok (.aload_n 0, 1) := by decide +kernel
theorem dX9_write_37 : decode cX9_write 37 = .ok (.dup, 1) := by decide +kernel
theorem dX9_write_38 : decode cX9_write 38 = .ok (.getfield 66, 3) := by decide +kernel
theorem dX9_write_41 : decode cX9_write 41 = .ok (.iconst 1, 1) := by decide +kernel
theorem dX9_write_42 : decode cX9_write 42 = .ok (.iadd, 1) := by decide +kernel
theorem dX9_write_43 : decode cX9_write 43 = .ok (.putfield 66, 3) := by decide +kernel
theorem dX9_write_46 : decode cX9_write 46 = .ok (.aload_n 0, 1) := by decide +kernel
theorem dX9_write_47 : decode cX9_write 47 = .ok (.getfield 66, 3) := by decide +kernel
theorem dX9_write_50 : decode cX9_write 50 = .ok (.ireturn, 1) := by decide +kernel
theorem dX9_wipe_0 : decode cX9_wipe 0 = .ok (.aload_n 0, 1) := by decide +kernel
theorem dX9_wipe_1 : decode cX9_wipe 1 = .ok (.getfield 66, 3) := by decide +kernel
theorem dX9_wipe_4 : decode cX9_wipe 4 = .ok (.istore_n 1, 1) := by decide +kernel
theorem dX9_wipe_5 : decode cX9_wipe 5 = .ok (.aload_n 0, 1) := by decide +kernel
theorem dX9_wipe_6 : decode cX9_wipe 6 = .ok (.iconst 0, 1) := by decide +kernel
theorem dX9_wipe_7 : decode cX9_wipe 7 = .ok (.putfield 66, 3) := by decide +kernel
theorem dX9_wipe_10 : decode cX9_wipe 10 = .ok (.iload_n 1, 1) := by decide +kernel
theorem dX9_wipe_11 : decode cX9_wipe 11 = .ok (.ireturn, 1) := by decide +kernel
theorem dX9_letterAt_0 : decode cX9_letterAt 0 = .ok (.iload_n 1, 1) := by decide +kernel
theorem dX9_letterAt_1 : decode cX9_letterAt 1 = .ok (.aload_n 0, 1) := by decide +kernel
theorem dX9_letterAt_2 : decode cX9_letterAt 2 = .ok (.getfield 66, 3) := by decide +kernel
theorem dX9_letterAt_5 : decode cX9_letterAt 5 = .ok (.if_icmp .ge 12, 3) := by decide +kernel
theorem dX9_letterAt_8 : decode cX9_letterAt 8 = .ok (.aload_n 0, 1) := by decide +kernel
theorem dX9_letterAt_9 : decode cX9_letterAt 9 = .ok (.getfield 7, 3) := by decide +kernel
theorem dX9_letterAt_12 : decode cX9_letterAt 12 = .ok (.iload_n 1, 1) := by decide +kernel
theorem dX9_letterAt_13 : decode cX9_letterAt 13 = .ok (.iaload, 1) := by decide +kernel
theorem dX9_letterAt_14 : decode cX9_letterAt 14 = .ok (.goto 4, 3) := by decide +kernel
theorem dX9_letterAt_17 : decode cX9_letterAt 17 = .ok (.iconst (-1), 1) := by decide +kernel
theorem dX9_letterAt_18 : decode cX9_letterAt 18 = .ok (.ireturn, 1) := by decide +kernel
set_option maxRecDepth 20000 in
theorem ggX9_isFigure_X9_in : GoodIn wsX9_isFigure wsX9_in := goodIn_r _ [4] (by decide +kernel) (by decide +kernel)
set_option maxRecDepth 20000 in
theorem gX9_isFigure_X9_in : GoodIn wsX9_isFigure (va_wsS RX9 62 yX9_in wsX9_in) := goodIn_app (goodIn_of _ (by decide +kernel)) ggX9_isFigure_X9_in
theorem dX9_isFigure_0 : decode cX9_isFigure 0 = .ok (.iload_n 0, 1) := by decide +kernel
theorem dX9_isFigure_1 : decode cX9_isFigure 1 = .ok (.bipush 48, 2) := by decide +kernel
theorem dX9_isFigure_3 : decode cX9_isFigure 3 = .ok (.bipush 57, 2) := by decide +kernel
theorem dX9_isFigure_5 : decode cX9_isFigure 5 = .ok (.invokestatic 62, 3) := by decide +kernel
theorem dX9_isFigure_8 : decode cX9_isFigure 8 = .ok (.ireturn, 1) := by decide +kernel
set_option maxRecDepth 20000 in
theorem ggX9_number_X9_letterAt : GoodIn wsX9_number wsX9_letterAt := goodIn_r _ [6, 7, 8, 15, 16, 17, 18, 19, 20, 21, 22, 23, 24, 25, 26, 27, 28, 29, 30, 31, 32, 33, 34] (by decide +kernel) (by decide +kernel)
set_option maxRecDepth 20000 in
theorem gX9_number_X9_letterAt : GoodIn wsX9_number (wsV RX9 73 RX9 yX9_letterAt wsX9_letterAt) := goodIn_app (goodIn_of _ (by decide +kernel)) ggX9_number_X9_letterAt
set_option maxRecDepth 20000 in
theorem ggX9_number_X9_isFigure : GoodIn wsX9_number wsX9_isFigure := goodIn_r _ [11, 12, 13, 5, 14] (by decide +kernel) (by decide +kernel)
set_option maxRecDepth 20000 in
theorem gX9_number_X9_isFigure : GoodIn wsX9_number (va_wsS RX9 77 yX9_isFigure wsX9_isFigure) := goodIn_app (goodIn_of _ (by decide +kernel)) ggX9_number_X9_isFigure
theorem dX9_number_0 : decode cX9_number 0 = .ok (.aload_n 0, 1) := by decide +kernel
theorem dX9_number_1 : decode cX9_number 1 = .ok (.aload_n 0, 1) := by decide +kernel
theorem dX9_number_2 : decode cX9_number 2 = .ok (.getfield 70, 3) := by decide +kernel
theorem dX9_number_5 : decode cX9_number 5 = .ok (.invokevirtual 73, 3) := by decide +kernel
theorem dX9_number_8 : decode cX9_number 8 = .ok (.invokestatic 77, 3) := by decide +kernel
theorem dX9_number_11 : decode cX9_number 11 = .ok (.ifCond .ne 5, 3) := by decide +kernel
theorem dX9_number_14 : decode cX9_number 14 = .ok (.iconst (-1), 1) := by decide +kernel
theorem dX9_number_15 : decode cX9_number 15 = .ok (.ireturn, 1) := by decide +kernel
theorem dX9_number_16 : decode cX9_number 16 = .ok (.aload_n 0, 1) := by decide +kernel
theorem dX9_number_17 : decode cX9_number 17 = .ok (.aload_n 0, 1) := by decide +kernel
theorem dX9_number_18 : decode cX9_number 18 = .ok (.getfield 70, 3) := by decide +kernel
theorem dX9_number_21 : decode cX9_number 21 = .ok (.invokevirtual 73, 3) := by decide +kernel
theorem dX9_number_24 : decode cX9_number 24 = .ok (.bipush 48, 2) := by decide +kernel
theorem dX9_number_26 : decode cX9_number 26 = .ok (.isub, 1) := by decide +kernel
theorem dX9_number_27 : decode cX9_number 27 = .ok (.istore_n 1, 1) := by decide +kernel
theorem dX9_number_28 : decode cX9_number 28 = .ok (.aload_n 0, 1) := by decide +kernel
theorem dX9_number_29 : decode cX9_number 29 = .ok (.dup, 1) := by decide +kernel
theorem dX9_number_30 : decode cX9_number 30 = .ok (.getfield 70, 3) := by decide +kernel
theorem dX9_number_33 : decode cX9_number 33 = .ok (.iconst 1, 1) := by decide +kernel
theorem dX9_number_34 : decode cX9_number 34 = .ok (.iadd, 1) := by decide +kernel
theorem dX9_number_35 : decode cX9_number 35 = .ok (.putfield 70, 3) := by decide +kernel
theorem dX9_number_38 : decode cX9_number 38 = .ok (.aload_n 0, 1) := by decide +kernel
theorem dX9_number_39 : decode cX9_number 39 = .ok (.aload_n 0, 1) := by decide +kernel
theorem dX9_number_40 : decode cX9_number 40 = .ok (.getfield 70, 3) := by decide +kernel
theorem dX9_number_43 : decode cX9_number 43 = .ok (.invokevirtual 73, 3) := by decide +kernel
theorem dX9_number_46 : decode cX9_number 46 = .ok (.invokestatic 77, 3) := by decide +kernel
theorem dX9_number_49 : decode cX9_number 49 = .ok (.ifCond .eq 30, 3) := by decide +kernel
theorem dX9_number_52 : decode cX9_number 52 = .ok (.bipush 10, 2) := by decide +kernel
theorem dX9_number_54 : decode cX9_number 54 = .ok (.iload_n 1, 1) := by decide +kernel
theorem dX9_number_55 : decode cX9_number 55 = .ok (.imul, 1) := by decide +kernel
theorem dX9_number_56 : decode cX9_number 56 = .ok (.aload_n 0, 1) := by decide +kernel
theorem dX9_number_57 : decode cX9_number 57 = .ok (.aload_n 0, 1) := by decide +kernel
theorem dX9_number_58 : decode cX9_number 58 = .ok (.getfield 70, 3) := by decide +kernel
theorem dX9_number_61 : decode cX9_number 61 = .ok (.invokevirtual 73, 3) := by decide +kernel
theorem dX9_number_64 : decode cX9_number 64 = .ok (.iadd, 1) := by decide +kernel
theorem dX9_number_65 : decode cX9_number 65 = .ok (.bipush 48, 2) := by decide +kernel
theorem dX9_number_67 : decode cX9_number 67 = .ok (.isub, 1) := by decide +kernel
theorem dX9_number_68 : decode cX9_number 68 = .ok (.istore_n 1, 1) := by decide +kernel
theorem dX9_number_69 : decode cX9_number 69 = .ok (.aload_n 0, 1) := by decide +kernel
theorem dX9_number_70 : decode cX9_number 70 = .ok (.dup, 1) := by decide +kernel
theorem dX9_number_71 : decode cX9_number 71 = .ok (.getfield 70, 3) := by decide +kernel
theorem dX9_number_74 : decode cX9_number 74 = .ok (.iconst 1, 1) := by decide +kernel
theorem dX9_number_75 : decode cX9_number 75 = .ok (.iadd, 1) := by decide +kernel
theorem dX9_number_76 : decode cX9_number 76 = .ok (.putfield 70, 3) := by decide +kernel
theorem dX9_number_79 : decode cX9_number 79 = .ok (.iload_n 1, 1) := by decide +kernel
theorem dX9_number_80 : decode cX9_number 80 = .ok (.ireturn, 1) := by decide +kernel
set_option maxRecDepth 20000 in
theorem ggX9_sign_X9_letterAt : GoodIn wsX9_sign wsX9_letterAt := goodIn_r _ [6, 7, 8, 9, 10, 11, 12, 13, 14, 15, 16, 17, 18, 19, 20, 21, 22, 23, 24, 25, 26, 27, 28] (by decide +kernel) (by decide +kernel)
set_option maxRecDepth 20000 in
theorem gX9_sign_X9_letterAt : GoodIn wsX9_sign (wsV RX9 73 RX9 yX9_letterAt wsX9_letterAt) := goodIn_app (goodIn_of _ (by decide +kernel)) ggX9_sign_X9_letterAt
theorem dX9_sign_0 : decode cX9_sign 0 = .ok (.aload_n 0, 1) := by decide +kernel
theorem dX9_sign_1 : decode cX9_sign 1 = .ok (.aload_n 0, 1) := by decide +kernel
theorem dX9_sign_2 : decode cX9_sign 2 = .ok (.getfield 70, 3) := by decide +kernel
theorem dX9_sign_5 : decode cX9_sign 5 = .ok (.invokevirtual 73, 3) := by decide +kernel
theorem dX9_sign_8 : decode cX9_sign 8 = .ok (.iload_n 1, 1) := by decide +kernel
theorem dX9_sign_9 : decode cX9_sign 9 = .ok (.if_icmp .ne 7, 3) := by decide +kernel
theorem dX9_sign_12 : decode cX9_sign 12 = .ok (.iconst 1, 1) := by decide +kernel
theorem dX9_sign_13 : decode cX9_sign 13 = .ok (.goto 4, 3) := by decide +kernel
theorem dX9_sign_16 : decode cX9_sign 16 = .ok (.iconst 0, 1) := by decide +kernel
theorem dX9_sign_17 : decode cX9_sign 17 = .ok (.istore_n 2, 1) := by decide +kernel
theorem dX9_sign_18 : decode cX9_sign 18 = .ok (.aload_n 0, 1) := by decide +kernel
theorem dX9_sign_19 : decode cX9_sign 19 = .ok (.dup, 1) := by decide +kernel
theorem dX9_sign_20 : decode cX9_sign 20 = .ok (.getfield 70, 3) := by decide +kernel
theorem dX9_sign_23 : decode cX9_sign 23 = .ok (.iload_n 2, 1) := by decide +kernel
theorem dX9_sign_24 : decode cX9_sign 24 = .ok (.ifCond .eq 7, 3) := by decide +kernel
theorem dX9_sign_27 : decode cX9_sign 27 = .ok (.iconst 1, 1) := by decide +kernel
theorem dX9_sign_28 : decode cX9_sign 28 = .ok (.goto 4, 3) := by decide +kernel
theorem dX9_sign_31 : decode cX9_sign 31 = .ok (.iconst 0, 1) := by decide +kernel
theorem dX9_sign_32 : decode cX9_sign 32 = .ok (.iadd, 1) := by decide +kernel
theorem dX9_sign_33 : decode cX9_sign 33 = .ok (.putfield 70, 3) := by decide +kernel
theorem dX9_sign_36 : decode cX9_sign 36 = .ok (.iload_n 2, 1) := by decide +kernel
theorem dX9_sign_37 : decode cX9_sign 37 = .ok (.ireturn, 1) := by decide +kernel
set_option maxRecDepth 20000 in
theorem ggX9_two_X9_number : GoodIn wsX9_two wsX9_number := goodIn_r _ [7, 8, 9, 10, 11, 6, 12, 13, 14, 15, 16, 17, 18, 19, 20, 25, 26, 27, 28, 29, 30, 31, 32, 33, 34, 35, 36, 37, 38, 39, 40, 41, 42, 43, 44] (by decide +kernel) (by decide +kernel)
set_option maxRecDepth 20000 in
theorem gX9_two_X9_number : GoodIn wsX9_two (wsV RX9 81 RX9 yX9_number wsX9_number) := goodIn_app (goodIn_of _ (by decide +kernel)) ggX9_two_X9_number
set_option maxRecDepth 20000 in
theorem ggX9_two_X9_sign : GoodIn wsX9_two wsX9_sign := goodIn_r _ [24, 8, 9, 10, 11, 6, 12, 13, 14, 25, 26, 27, 28, 29, 30, 31, 32, 33, 34, 35, 36, 37, 38, 39, 40, 41, 42, 43, 44] (by decide +kernel) (by decide +kernel)
set_option maxRecDepth 20000 in
theorem gX9_two_X9_sign : GoodIn wsX9_two (wsV RX9 88 RX9 yX9_sign wsX9_sign) := goodIn_app (goodIn_of _ (by decide +kernel)) ggX9_two_X9_sign
theorem dX9_two_0 : decode cX9_two 0 = .ok (.aload_n 0, 1) := by decide +kernel
theorem dX9_two_1 : decode cX9_two 1 = .ok (.aload_n 0, 1) := by decide +kernel
theorem dX9_two_2 : decode cX9_two 2 = .ok (.invokevirtual 81, 3) := by decide +kernel
theorem dX9_two_5 : decode cX9_two 5 = .ok (.putfield 85, 3) := by decide +kernel
theorem dX9_two_8 : decode cX9_two 8 = .ok (.aload_n 0, 1) := by decide +kernel
theorem dX9_two_9 : decode cX9_two 9 = .ok (.getfield 85, 3) := by decide +kernel
theorem dX9_two_12 : decode cX9_two 12 = .ok (.ifCond .lt 12, 3) := by decide +kernel
theorem dX9_two_15 : decode cX9_two 15 = .ok (.aload_n 0, 1) := by decide +kernel
theorem dX9_two_16 : decode cX9_two 16 = .ok (.bipush 44, 2) := by decide +kernel
theorem dX9_two_18 : decode cX9_two 18 = .ok (.invokevirtual 88, 3) := by decide +kernel
theorem dX9_two_21 : decode cX9_two 21 = .ok (.ifCond .ne 5, 3) := by decide +kernel
theorem dX9_two_24 : decode cX9_two 24 = .ok (.iconst 0, 1) := by decide +kernel
theorem dX9_two_25 : decode cX9_two 25 = .ok (.ireturn, 1) := by decide +kernel
theorem dX9_two_26 : decode cX9_two 26 = .ok (.aload_n 0, 1) := by decide +kernel
theorem dX9_two_27 : decode cX9_two 27 = .ok (.aload_n 0, 1) := by decide +kernel
theorem dX9_two_28 : decode cX9_two 28 = .ok (.invokevirtual 81, 3) := by decide +kernel
theorem dX9_two_31 : decode cX9_two 31 = .ok (.putfield 91, 3) := by decide +kernel
theorem dX9_two_34 : decode cX9_two 34 = .ok (.aload_n 0, 1) := by decide +kernel
theorem dX9_two_35 : decode cX9_two 35 = .ok (.getfield 91, 3) := by decide +kernel
theorem dX9_two_38 : decode cX9_two 38 = .ok (.ifCond .lt 16, 3) := by decide +kernel
theorem dX9_two_41 : decode cX9_two 41 = .ok (.aload_n 0, 1) := by decide +kernel
theorem dX9_two_42 : decode cX9_two 42 = .ok (.bipush 59, 2) := by decide +kernel
theorem dX9_two_44 : decode cX9_two 44 = .ok (.invokevirtual 88, 3) := by decide +kernel
theorem dX9_two_47 : decode cX9_two 47 = .ok (.ifCond .eq 7, 3) := by decide +kernel
theorem dX9_two_50 : decode cX9_two 50 = .ok (.iconst 1, 1) := by decide +kernel
theorem dX9_two_51 : decode cX9_two 51 = .ok (.goto 4, 3) := by decide +kernel
theorem dX9_two_54 : decode cX9_two 54 = .ok (.iconst 0, 1) := by decide +kernel
theorem dX9_two_55 : decode cX9_two 55 = .ok (.ireturn, 1) := by decide +kernel
theorem dX9_begins_0 : decode cX9_begins 0 = .ok (.iconst 0, 1) := by decide +kernel
theorem dX9_begins_1 : decode cX9_begins 1 = .ok (.istore_n 1, 1) := by decide +kernel
theorem dX9_begins_2 : decode cX9_begins 2 = .ok (.iload_n 1, 1) := by decide +kernel
theorem dX9_begins_3 : decode cX9_begins 3 = .ok (.bipush 37, 2) := by decide +kernel
theorem dX9_begins_5 : decode cX9_begins 5 = .ok (.if_icmp .ge 16, 3) := by decide +kernel
theorem dX9_begins_8 : decode cX9_begins 8 = .ok (.aload_n 0, 1) := by decide +kernel
theorem dX9_begins_9 : decode cX9_begins 9 = .ok (.getfield 16, 3) := by decide +kernel
theorem dX9_begins_12 : decode cX9_begins 12 = .ok (.iload_n 1, 1) := by decide +kernel
theorem dX9_begins_13 : decode cX9_begins 13 = .ok (.iconst 0, 1) := by decide +kernel
theorem dX9_begins_14 : decode cX9_begins 14 = .ok (.iastore, 1) := by decide +kernel
theorem dX9_begins_15 : decode cX9_begins 15 = .ok (.iinc 1 1, 3) := by decide +kernel
theorem dX9_begins_18 : decode cX9_begins 18 = .ok (.goto (-16), 3) := by decide +kernel
theorem dX9_begins_21 : decode cX9_begins 21 = .ok (.aload_n 0, 1) := by decide +kernel
theorem dX9_begins_22 : decode cX9_begins 22 = .ok (.getfield 16, 3) := by decide +kernel
theorem dX9_begins_25 : decode cX9_begins 25 = .ok (.iconst 2, 1) := by decide +kernel
theorem dX9_begins_26 : decode cX9_begins 26 = .ok (.bipush 80, 2) := by decide +kernel
theorem dX9_begins_28 : decode cX9_begins 28 = .ok (.iastore, 1) := by decide +kernel
theorem dX9_begins_29 : decode cX9_begins 29 = .ok (.return_, 1) := by decide +kernel
theorem dX9_adds_0 : decode cX9_adds 0 = .ok (.aload_n 0, 1) := by decide +kernel
theorem dX9_adds_1 : decode cX9_adds 1 = .ok (.getfield 16, 3) := by decide +kernel
theorem dX9_adds_4 : decode cX9_adds 4 = .ok (.iconst 3, 1) := by decide +kernel
theorem dX9_adds_5 : decode cX9_adds 5 = .ok (.aload_n 0, 1) := by decide +kernel
theorem dX9_adds_6 : decode cX9_adds 6 = .ok (.getfield 16, 3) := by decide +kernel
theorem dX9_adds_9 : decode cX9_adds 9 = .ok (.iconst 0, 1) := by decide +kernel
theorem dX9_adds_10 : decode cX9_adds 10 = .ok (.iaload, 1) := by decide +kernel
theorem dX9_adds_11 : decode cX9_adds 11 = .ok (.iadd, 1) := by decide +kernel
theorem dX9_adds_12 : decode cX9_adds 12 = .ok (.iload_n 1, 1) := by decide +kernel
theorem dX9_adds_13 : decode cX9_adds 13 = .ok (.iastore, 1) := by decide +kernel
theorem dX9_adds_14 : decode cX9_adds 14 = .ok (.aload_n 0, 1) := by decide +kernel
theorem dX9_adds_15 : decode cX9_adds 15 = .ok (.getfield 16, 3) := by decide +kernel
theorem dX9_adds_18 : decode cX9_adds 18 = .ok (.bipush 9, 2) := by decide +kernel
theorem dX9_adds_20 : decode cX9_adds 20 = .ok (.aload_n 0, 1) := by decide +kernel
theorem dX9_adds_21 : decode cX9_adds 21 = .ok (.getfield 16, 3) := by decide +kernel
theorem dX9_adds_24 : decode cX9_adds 24 = .ok (.iconst 0, 1) := by decide +kernel
theorem dX9_adds_25 : decode cX9_adds 25 = .ok (.iaload, 1) := by decide +kernel
theorem dX9_adds_26 : decode cX9_adds 26 = .ok (.iadd, 1) := by decide +kernel
theorem dX9_adds_27 : decode cX9_adds 27 = .ok (.iload_n 2, 1) := by decide +kernel
theorem dX9_adds_28 : decode cX9_adds 28 = .ok (.iastore, 1) := by decide +kernel
theorem dX9_adds_29 : decode cX9_adds 29 = .ok (.aload_n 0, 1) := by decide +kernel
theorem dX9_adds_30 : decode cX9_adds 30 = .ok (.getfield 16, 3) := by decide +kernel
theorem dX9_adds_33 : decode cX9_adds 33 = .ok (.iconst 0, 1) := by decide +kernel
theorem dX9_adds_34 : decode cX9_adds 34 = .ok (.dup2, 1) := by decide +kernel
theorem dX9_adds_35 : decode cX9_adds 35 = .ok (.iaload, 1) := by decide +kernel
theorem dX9_adds_36 : decode cX9_adds 36 = .ok (.iconst 1, 1) := by decide +kernel
theorem dX9_adds_37 : decode cX9_adds 37 = .ok (.iadd, 1) := by decide +kernel
theorem dX9_adds_38 : decode cX9_adds 38 = .ok (.iastore, 1) := by decide +kernel
theorem dX9_adds_39 : decode cX9_adds 39 = .ok (.return_, 1) := by decide +kernel
theorem dX9_meets_0 : decode cX9_meets 0 = .ok (.aload_n 0, 1) := by decide +kernel
theorem dX9_meets_1 : decode cX9_meets 1 = .ok (.getfield 16, 3) := by decide +kernel
theorem dX9_meets_4 : decode cX9_meets 4 = .ok (.bipush 15, 2) := by decide +kernel
theorem dX9_meets_6 : decode cX9_meets 6 = .ok (.iload_n 1, 1) := by decide +kernel
theorem dX9_meets_7 : decode cX9_meets 7 = .ok (.iadd, 1) := by decide +kernel
theorem dX9_meets_8 : decode cX9_meets 8 = .ok (.dup2, 1) := by decide +kernel
theorem dX9_meets_9 : decode cX9_meets 9 = .ok (.iaload, 1) := by decide +kernel
theorem dX9_meets_10 : decode cX9_meets 10 = .ok (.iconst 1, 1) := by decide +kernel
theorem dX9_meets_11 : decode cX9_meets 11 = .ok (.iload_n 2, 1) := by decide +kernel
theorem dX9_meets_12 : decode cX9_meets 12 = .ok (.ishl, 1) := by decide +kernel
theorem dX9_meets_13 : decode cX9_meets 13 = .ok (.ior, 1) := by decide +kernel
theorem dX9_meets_14 : decode cX9_meets 14 = .ok (.iastore, 1) := by decide +kernel
theorem dX9_meets_15 : decode cX9_meets 15 = .ok (.aload_n 0, 1) := by decide +kernel
theorem dX9_meets_16 : decode cX9_meets 16 = .ok (.getfield 16, 3) := by decide +kernel
theorem dX9_meets_19 : decode cX9_meets 19 = .ok (.bipush 15, 2) := by decide +kernel
theorem dX9_meets_21 : decode cX9_meets 21 = .ok (.iload_n 2, 1) := by decide +kernel
theorem dX9_meets_22 : decode cX9_meets 22 = .ok (.iadd, 1) := by decide +kernel
theorem dX9_meets_23 : decode cX9_meets 23 = .ok (.dup2, 1) := by decide +kernel
theorem dX9_meets_24 : decode cX9_meets 24 = .ok (.iaload, 1) := by decide +kernel
theorem dX9_meets_25 : decode cX9_meets 25 = .ok (.iconst 1, 1) := by decide +kernel
theorem dX9_meets_26 : decode cX9_meets 26 = .ok (.iload_n 1, 1) := by decide +kernel
theorem dX9_meets_27 : decode cX9_meets 27 = .ok (.ishl, 1) := by decide +kernel
theorem dX9_meets_28 : decode cX9_meets 28 = .ok (.ior, 1) := by decide +kernel
theorem dX9_meets_29 : decode cX9_meets 29 = .ok (.iastore, 1) := by decide +kernel
theorem dX9_meets_30 : decode cX9_meets 30 = .ok (.return_, 1) := by decide +kernel
theorem dX9_secretOf_0 : decode cX9_secretOf 0 = .ok (.aload_n 0, 1) := by decide +kernel
theorem dX9_secretOf_1 : decode cX9_secretOf 1 = .ok (.getfield 16, 3) := by decide +kernel
theorem dX9_secretOf_4 : decode cX9_secretOf 4 = .ok (.bipush 21, 2) := by decide +kernel
theorem dX9_secretOf_6 : decode cX9_secretOf 6 = .ok (.aload_n 0, 1) := by decide +kernel
theorem dX9_secretOf_7 : decode cX9_secretOf 7 = .ok (.getfield 16, 3) := by decide +kernel
theorem dX9_secretOf_10 : decode cX9_secretOf 10 = .ok (.iconst 1, 1) := by decide +kernel
theorem dX9_secretOf_11 : decode cX9_secretOf 11 = .ok (.iaload, 1) := by decide +kernel
theorem dX9_secretOf_12 : decode cX9_secretOf 12 = .ok (.iadd, 1) := by decide +kernel
theorem dX9_secretOf_13 : decode cX9_secretOf 13 = .ok (.iload_n 1, 1) := by decide +kernel
theorem dX9_secretOf_14 : decode cX9_secretOf 14 = .ok (.iastore, 1) := by decide +kernel
theorem dX9_secretOf_15 : decode cX9_secretOf 15 = .ok (.aload_n 0, 1) := by decide +kernel
theorem dX9_secretOf_16 : decode cX9_secretOf 16 = .ok (.getfield 16, 3) := by decide +kernel
theorem dX9_secretOf_19 : decode cX9_secretOf 19 = .ok (.bipush 29, 2) := by decide +kernel
theorem dX9_secretOf_21 : decode cX9_secretOf 21 = .ok (.aload_n 0, 1) := by decide +kernel
theorem dX9_secretOf_22 : decode cX9_secretOf 22 = .ok (.getfield 16, 3) := by decide +kernel
theorem dX9_secretOf_25 : decode cX9_secretOf 25 = .ok (.iconst 1, 1) := by decide +kernel
theorem dX9_secretOf_26 : decode cX9_secretOf 26 = .ok (.iaload, 1) := by decide +kernel
theorem dX9_secretOf_27 : decode cX9_secretOf 27 = .ok (.iadd, 1) := by decide +kernel
theorem dX9_secretOf_28 : decode cX9_secretOf 28 = .ok (.iload_n 2, 1) := by decide +kernel
theorem dX9_secretOf_29 : decode cX9_secretOf 29 = .ok (.iconst 1, 1) := by decide +kernel
theorem dX9_secretOf_30 : decode cX9_secretOf 30 = .ok (.iload_n 1, 1) := by decide +kernel
theorem dX9_secretOf_31 : decode cX9_secretOf 31 = .ok (.ishl, 1) := by decide +kernel
theorem dX9_secretOf_32 : decode cX9_secretOf 32 = .ok (.ior, 1) := by decide +kernel
theorem dX9_secretOf_33 : decode cX9_secretOf 33 = .ok (.iastore, 1) := by decide +kernel
theorem dX9_secretOf_34 : decode cX9_secretOf 34 = .ok (.aload_n 0, 1) := by decide +kernel
theorem dX9_secretOf_35 : decode cX9_secretOf 35 = .ok (.getfield 16, 3) := by decide +kernel
theorem dX9_secretOf_38 : decode cX9_secretOf 38 = .ok (.iconst 1, 1) := by decide +kernel
theorem dX9_secretOf_39 : decode cX9_secretOf 39 = .ok (.dup2, 1) := by decide +kernel
theorem dX9_secretOf_40 : decode cX9_secretOf 40 = .ok (.iaload, 1) := by decide +kernel
theorem dX9_secretOf_41 : decode cX9_secretOf 41 = .ok (.iconst 1, 1) := by decide +kernel
theorem dX9_secretOf_42 : decode cX9_secretOf 42 = .ok (.iadd, 1) := by decide +kernel
theorem dX9_secretOf_43 : decode cX9_secretOf 43 = .ok (.iastore, 1) := by decide +kernel
theorem dX9_secretOf_44 : decode cX9_secretOf 44 = .ok (.return_, 1) := by decide +kernel
set_option maxRecDepth 20000 in
theorem ggX9_readsItem_X9_two : GoodIn wsX9_readsItem wsX9_two := goodIn_r _ [8, 1, 2, 9, 10, 11, 7, 12, 13, 14, 15, 16, 17, 18, 19, 20, 21, 22, 23, 24, 25, 26, 27, 28, 29, 42, 43, 44, 45, 46, 47, 48, 49, 50, 51, 52, 53, 54, 55, 56, 57, 58, 59, 60, 61] (by decide +kernel) (by decide +kernel)
set_option maxRecDepth 20000 in
theorem gX9_readsItem_X9_two : GoodIn wsX9_readsItem (wsV RX9 94 RX9 yX9_two wsX9_two) := goodIn_app (goodIn_of _ (by decide +kernel)) ggX9_readsItem_X9_two
set_option maxRecDepth 20000 in
theorem ggX9_readsItem_X9_adds : GoodIn wsX9_readsItem wsX9_adds := goodIn_r _ [33, 3, 42, 43, 44, 45, 46, 47, 48, 49, 50, 51, 52, 53, 54, 55, 56, 57, 58, 59, 60, 61] (by decide +kernel) (by decide +kernel)
set_option maxRecDepth 20000 in
theorem gX9_readsItem_X9_adds : GoodIn wsX9_readsItem (wsV RX9 49 RX9 yX9_adds wsX9_adds) := goodIn_app (goodIn_of _ (by decide +kernel)) ggX9_readsItem_X9_adds
set_option maxRecDepth 20000 in
theorem ggX9_readsItem_X9_meets : GoodIn wsX9_readsItem wsX9_meets := goodIn_r _ [37, 3, 42, 43, 44, 45, 46, 47, 48, 49, 50, 51, 52, 53, 54, 55, 56, 57, 58, 59, 60, 61] (by decide +kernel) (by decide +kernel)
set_option maxRecDepth 20000 in
theorem gX9_readsItem_X9_meets : GoodIn wsX9_readsItem (wsV RX9 53 RX9 yX9_meets wsX9_meets) := goodIn_app (goodIn_of _ (by decide +kernel)) ggX9_readsItem_X9_meets
set_option maxRecDepth 20000 in
theorem ggX9_readsItem_X9_secretOf : GoodIn wsX9_readsItem wsX9_secretOf := goodIn_r _ [41, 3, 42, 43, 44, 45, 46, 47, 48, 49, 50, 51, 52, 53, 54, 55, 56, 57, 58, 59, 60, 61] (by decide +kernel) (by decide +kernel)
set_option maxRecDepth 20000 in
theorem gX9_readsItem_X9_secretOf : GoodIn wsX9_readsItem (wsV RX9 56 RX9 yX9_secretOf wsX9_secretOf) := goodIn_app (goodIn_of _ (by decide +kernel)) ggX9_readsItem_X9_secretOf
set_option maxRecDepth 20000 in
theorem ggX9_readsItem_X9_number : GoodIn wsX9_readsItem wsX9_number := goodIn_r _ [12, 13, 14, 15, 16, 7, 17, 18, 19, 20, 21, 22, 23, 24, 25, 42, 43, 44, 45, 46, 47, 48, 49, 50, 51, 52, 53, 54, 55, 56, 57, 58, 59, 60, 61] (by decide +kernel) (by decide +kernel)
set_option maxRecDepth 20000 in
theorem gX9_readsItem_X9_number : GoodIn wsX9_readsItem (wsV RX9 81 RX9 yX9_number wsX9_number) := goodIn_app (goodIn_of _ (by decide +kernel)) ggX9_readsItem_X9_number
set_option maxRecDepth 20000 in
theorem ggX9_readsItem_X9_sign : GoodIn wsX9_readsItem wsX9_sign := goodIn_r _ [29, 13, 14, 15, 16, 7, 17, 18, 19, 42, 43, 44, 45, 46, 47, 48, 49, 50, 51, 52, 53, 54, 55, 56, 57, 58, 59, 60, 61] (by decide +kernel) (by decide +kernel)
set_option maxRecDepth 20000 in
theorem gX9_readsItem_X9_sign : GoodIn wsX9_readsItem (wsV RX9 88 RX9 yX9_sign wsX9_sign) := goodIn_app (goodIn_of _ (by decide +kernel)) ggX9_readsItem_X9_sign
theorem dX9_readsItem_0 : decode cX9_readsItem 0 = .ok (.iload_n 1, 1) := by decide +kernel
theorem dX9_readsItem_1 : decode cX9_readsItem 1 = .ok (.lookupswitch 244 #[(100, 210), (109, 94), (112, 43), (115, 154)], 43) := by decide +kernel
theorem dX9_readsItem_44 : decode cX9_readsItem 44 = .ok (.aload_n 0, 1) := by decide +kernel
theorem dX9_readsItem_45 : decode cX9_readsItem 45 = .ok (.invokevirtual 94, 3) := by decide +kernel
theorem dX9_readsItem_48 : decode cX9_readsItem 48 = .ok (.ifCond .eq 31, 3) := by decide +kernel
theorem dX9_readsItem_51 : decode cX9_readsItem 51 = .ok (.aload_n 0, 1) := by decide +kernel
theorem dX9_readsItem_52 : decode cX9_readsItem 52 = .ok (.getfield 85, 3) := by decide +kernel
theorem dX9_readsItem_55 : decode cX9_readsItem 55 = .ok (.bipush 60, 2) := by decide +kernel
theorem dX9_readsItem_57 : decode cX9_readsItem 57 = .ok (.if_icmp .gt 22, 3) := by decide +kernel
theorem dX9_readsItem_60 : decode cX9_readsItem 60 = .ok (.aload_n 0, 1) := by decide +kernel
theorem dX9_readsItem_61 : decode cX9_readsItem 61 = .ok (.getfield 91, 3) := by decide +kernel
theorem dX9_readsItem_64 : decode cX9_readsItem 64 = .ok (.iconst 4, 1) := by decide +kernel
theorem dX9_readsItem_65 : decode cX9_readsItem 65 = .ok (.if_icmp .gt 14, 3) := by decide +kernel
theorem dX9_readsItem_68 : decode cX9_readsItem 68 = .ok (.aload_n 0, 1) := by decide +kernel
theorem dX9_readsItem_69 : decode cX9_readsItem 69 = .ok (.getfield 16, 3) := by decide +kernel
theorem dX9_readsItem_72 : decode cX9_readsItem 72 = .ok (.iconst 0, 1) := by decide +kernel
theorem dX9_readsItem_73 : decode cX9_readsItem 73 = .ok (.iaload, 1) := by decide +kernel
theorem dX9_readsItem_74 : decode cX9_readsItem 74 = .ok (.bipush 6, 2) := by decide +kernel
theorem dX9_readsItem_76 : decode cX9_readsItem 76 = .ok (.if_icmp .ne 5, 3) := by decide +kernel
theorem dX9_readsItem_79 : decode cX9_readsItem 79 = .ok (.iconst 0, 1) := by decide +kernel
theorem dX9_readsItem_80 : decode cX9_readsItem 80 = .ok (.ireturn, 1) := by decide +kernel
theorem dX9_readsItem_81 : decode cX9_readsItem 81 = .ok (.aload_n 0, 1) := by decide +kernel
theorem dX9_readsItem_82 : decode cX9_readsItem 82 = .ok (.aload_n 0, 1) := by decide +kernel
theorem dX9_readsItem_83 : decode cX9_readsItem 83 = .ok (.getfield 85, 3) := by decide +kernel
theorem dX9_readsItem_86 : decode cX9_readsItem 86 = .ok (.aload_n 0, 1) := by decide +kernel
theorem dX9_readsItem_87 : decode cX9_readsItem 87 = .ok (.getfield 91, 3) := by decide +kernel
theorem dX9_readsItem_90 : decode cX9_readsItem 90 = .ok (.invokevirtual 49, 3) := by decide +kernel
theorem dX9_readsItem_93 : decode cX9_readsItem 93 = .ok (.iconst 1, 1) := by decide +kernel
theorem dX9_readsItem_94 : decode cX9_readsItem 94 = .ok (.ireturn, 1) := by decide +kernel
theorem dX9_readsItem_95 : decode cX9_readsItem 95 = .ok (.aload_n 0, 1) := by decide +kernel
theorem dX9_readsItem_96 : decode cX9_readsItem 96 = .ok (.invokevirtual 94, 3) := by decide +kernel
theorem dX9_readsItem_99 : decode cX9_readsItem 99 = .ok (.ifCond .eq 40, 3) := by decide +kernel
theorem dX9_readsItem_102 : decode cX9_readsItem 102 = .ok (.aload_n 0, 1) := by decide +kernel
theorem dX9_readsItem_103 : decode cX9_readsItem 103 = .ok (.getfield 85, 3) := by decide +kernel
theorem dX9_readsItem_106 : decode cX9_readsItem 106 = .ok (.aload_n 0, 1) := by decide +kernel
theorem dX9_readsItem_107 : decode cX9_readsItem 107 = .ok (.getfield 16, 3) := by decide +kernel
theorem dX9_readsItem_110 : decode cX9_readsItem 110 = .ok (.iconst 0, 1) := by decide +kernel
theorem dX9_readsItem_111 : decode cX9_readsItem 111 = .ok (.iaload, 1) := by decide +kernel
theorem dX9_readsItem_112 : decode cX9_readsItem 112 = .ok (.if_icmp .ge 27, 3) := by decide +kernel
theorem dX9_readsItem_115 : decode cX9_readsItem 115 = .ok (.aload_n 0, 1) := by decide +kernel
theorem dX9_readsItem_116 : decode cX9_readsItem 116 = .ok (.getfield 91, 3) := by decide +kernel
theorem dX9_readsItem_119 : decode cX9_readsItem 119 = .ok (.aload_n 0, 1) := by decide +kernel
theorem dX9_readsItem_120 : decode cX9_readsItem 120 = .ok (.getfield 16, 3) := by decide +kernel
theorem dX9_readsItem_123 : decode cX9_readsItem 123 = .ok (.iconst 0, 1) := by decide +kernel
theorem dX9_readsItem_124 : decode cX9_readsItem 124 = .ok (.iaload, 1) := by decide +kernel
theorem dX9_readsItem_125 : decode cX9_readsItem 125 = .ok (.if_icmp .ge 14, 3) := by decide +kernel
theorem dX9_readsItem_128 : decode cX9_readsItem 128 = .ok (.aload_n 0, 1) := by decide +kernel
theorem dX9_readsItem_129 : decode cX9_readsItem 129 = .ok (.getfield 85, 3) := by decide +kernel
theorem dX9_readsItem_132 : decode cX9_readsItem 132 = .ok (.aload_n 0, 1) := by decide +kernel
theorem dX9_readsItem_133 : decode cX9_readsItem 133 = .ok (.getfield 91, 3) := by decide +kernel
theorem dX9_readsItem_136 : decode cX9_readsItem 136 = .ok (.if_icmp .ne 5, 3) := by decide +kernel
theorem dX9_readsItem_139 : decode cX9_readsItem 139 = .ok (.iconst 0, 1) := by decide +kernel
theorem dX9_readsItem_140 : decode cX9_readsItem 140 = .ok (.ireturn, 1) := by decide +kernel
theorem dX9_readsItem_141 : decode cX9_readsItem 141 = .ok (.aload_n 0, 1) := by decide +kernel
theorem dX9_readsItem_142 : decode cX9_readsItem 142 = .ok (.aload_n 0, 1) := by decide +kernel
theorem dX9_readsItem_143 : decode cX9_readsItem 143 = .ok (.getfield 85, 3) := by decide +kernel
theorem dX9_readsItem_146 : decode cX9_readsItem 146 = .ok (.aload_n 0, 1) := by decide +kernel
theorem dX9_readsItem_147 : decode cX9_readsItem 147 = .ok (.getfield 91, 3) := by decide +kernel
theorem dX9_readsItem_150 : decode cX9_readsItem 150 = .ok (.invokevirtual 53, 3) := by decide +kernel
theorem dX9_readsItem_153 : decode cX9_readsItem 153 = .ok (.iconst 1, 1) := by decide +kernel
theorem dX9_readsItem_154 : decode cX9_readsItem 154 = .ok (.ireturn, 1) := by decide +kernel
theorem dX9_readsItem_155 : decode cX9_readsItem 155 = .ok (.aload_n 0, 1) := by decide +kernel
theorem dX9_readsItem_156 : decode cX9_readsItem 156 = .ok (.invokevirtual 94, 3) := by decide +kernel
theorem dX9_readsItem_159 : decode cX9_readsItem 159 = .ok (.ifCond .eq 36, 3) := by decide +kernel
theorem dX9_readsItem_162 : decode cX9_readsItem 162 = .ok (.aload_n 0, 1) := by decide +kernel
theorem dX9_readsItem_163 : decode cX9_readsItem 163 = .ok (.getfield 85, 3) := by decide +kernel
theorem dX9_readsItem_166 : decode cX9_readsItem 166 = .ok (.aload_n 0, 1) := by decide +kernel
theorem dX9_readsItem_167 : decode cX9_readsItem 167 = .ok (.getfield 16, 3) := by decide +kernel
theorem dX9_readsItem_170 : decode cX9_readsItem 170 = .ok (.iconst 0, 1) := by decide +kernel
theorem dX9_readsItem_171 : decode cX9_readsItem 171 = .ok (.iaload, 1) := by decide +kernel
theorem dX9_readsItem_172 : decode cX9_readsItem 172 = .ok (.if_icmp .ge 23, 3) := by decide +kernel
theorem dX9_readsItem_175 : decode cX9_readsItem 175 = .ok (.aload_n 0, 1) := by decide +kernel
theorem dX9_readsItem_176 : decode cX9_readsItem 176 = .ok (.getfield 91, 3) := by decide +kernel
theorem dX9_readsItem_179 : decode cX9_readsItem 179 = .ok (.bipush 63, 2) := by decide +kernel
theorem dX9_readsItem_181 : decode cX9_readsItem 181 = .ok (.if_icmp .gt 14, 3) := by decide +kernel
theorem dX9_readsItem_184 : decode cX9_readsItem 184 = .ok (.aload_n 0, 1) := by decide +kernel
theorem dX9_readsItem_185 : decode cX9_readsItem 185 = .ok (.getfield 16, 3) := by decide +kernel
theorem dX9_readsItem_188 : decode cX9_readsItem 188 = .ok (.iconst 1, 1) := by decide +kernel
theorem dX9_readsItem_189 : decode cX9_readsItem 189 = .ok (.iaload, 1) := by decide +kernel
theorem dX9_readsItem_190 : decode cX9_readsItem 190 = .ok (.bipush 8, 2) := by decide +kernel
theorem dX9_readsItem_192 : decode cX9_readsItem 192 = .ok (.if_icmp .ne 5, 3) := by decide +kernel
theorem dX9_readsItem_195 : decode cX9_readsItem 195 = .ok (.iconst 0, 1) := by decide +kernel
theorem dX9_readsItem_196 : decode cX9_readsItem 196 = .ok (.ireturn, 1) := by decide +kernel
theorem dX9_readsItem_197 : decode cX9_readsItem 197 = .ok (.aload_n 0, 1) := by decide +kernel
theorem dX9_readsItem_198 : decode cX9_readsItem 198 = .ok (.aload_n 0, 1) := by decide +kernel
theorem dX9_readsItem_199 : decode cX9_readsItem 199 = .ok (.getfield 85, 3) := by decide +kernel
theorem dX9_readsItem_202 : decode cX9_readsItem 202 = .ok (.aload_n 0, 1) := by decide +kernel
theorem dX9_readsItem_203 : decode cX9_readsItem 203 = .ok (.getfield 91, 3) := by decide +kernel
theorem dX9_readsItem_206 : decode cX9_readsItem 206 = .ok (.invokevirtual 56, 3) := by decide +kernel
theorem dX9_readsItem_209 : decode cX9_readsItem 209 = .ok (.iconst 1, 1) := by decide +kernel
theorem dX9_readsItem_210 : decode cX9_readsItem 210 = .ok (.ireturn, 1) := by decide +kernel
theorem dX9_readsItem_211 : decode cX9_readsItem 211 = .ok (.aload_n 0, 1) := by decide +kernel
theorem dX9_readsItem_212 : decode cX9_readsItem 212 = .ok (.getfield 16, 3) := by decide +kernel
theorem dX9_readsItem_215 : decode cX9_readsItem 215 = .ok (.iconst 2, 1) := by decide +kernel
theorem dX9_readsItem_216 : decode cX9_readsItem 216 = .ok (.aload_n 0, 1) := by decide +kernel
theorem dX9_readsItem_217 : decode cX9_readsItem 217 = .ok (.invokevirtual 81, 3) := by decide +kernel
theorem dX9_readsItem_220 : decode cX9_readsItem 220 = .ok (.iastore, 1) := by decide +kernel
theorem dX9_readsItem_221 : decode cX9_readsItem 221 = .ok (.aload_n 0, 1) := by decide +kernel
theorem dX9_readsItem_222 : decode cX9_readsItem 222 = .ok (.getfield 16, 3) := by decide +kernel
theorem dX9_readsItem_225 : decode cX9_readsItem 225 = .ok (.iconst 2, 1) := by decide +kernel
theorem dX9_readsItem_226 : decode cX9_readsItem 226 = .ok (.iaload, 1) := by decide +kernel
theorem dX9_readsItem_227 : decode cX9_readsItem 227 = .ok (.ifCond .le 16, 3) := by decide +kernel
theorem dX9_readsItem_230 : decode cX9_readsItem 230 = .ok (.aload_n 0, 1) := by decide +kernel
theorem dX9_readsItem_231 : decode cX9_readsItem 231 = .ok (.bipush 59, 2) := by decide +kernel
theorem dX9_readsItem_233 : decode cX9_readsItem 233 = .ok (.invokevirtual 88, 3) := by decide +kernel
theorem dX9_readsItem_236 : decode cX9_readsItem 236 = .ok (.ifCond .eq 7, 3) := by decide +kernel
theorem dX9_readsItem_239 : decode cX9_readsItem 239 = .ok (.iconst 1, 1) := by decide +kernel
theorem dX9_readsItem_240 : decode cX9_readsItem 240 = .ok (.goto 4, 3) := by decide +kernel
theorem dX9_readsItem_243 : decode cX9_readsItem 243 = .ok (.iconst 0, 1) := by decide +kernel
theorem dX9_readsItem_244 : decode cX9_readsItem 244 = .ok (.ireturn, 1) := by decide +kernel
theorem dX9_readsItem_245 : decode cX9_readsItem 245 = .ok (.iconst 0, 1) := by decide +kernel
theorem dX9_readsItem_246 : decode cX9_readsItem 246 = .ok (.ireturn, 1) := by decide +kernel
set_option maxRecDepth 20000 in
theorem ggX9_reads_X9_begins : GoodIn wsX9_reads wsX9_begins := goodIn_r _ [8, 9, 50, 51, 52, 53, 54, 55, 56, 57, 58, 59, 60, 61, 62, 63, 64, 65, 66, 67, 68, 69] (by decide +kernel) (by decide +kernel)
set_option maxRecDepth 20000 in
theorem gX9_reads_X9_begins : GoodIn wsX9_reads (wsV RX9 46 RX9 yX9_begins wsX9_begins) := goodIn_app (goodIn_of _ (by decide +kernel)) ggX9_reads_X9_begins
set_option maxRecDepth 20000 in
theorem ggX9_reads_X9_readsItem : GoodIn wsX9_reads wsX9_readsItem := goodIn_r _ [13, 14, 15, 9, 16, 17, 18, 7, 19, 20, 21, 22, 23, 1, 24, 25, 26, 27, 2, 3, 28, 29, 30, 31, 32, 33, 34, 35, 36, 37, 38, 39, 40, 41, 42, 43, 44, 45, 46, 47, 48, 49, 50, 51, 52, 53, 54, 55, 56, 57, 58, 59, 60, 61, 62, 63, 64, 65, 66, 67, 68, 69] (by decide +kernel) (by decide +kernel)
set_option maxRecDepth 20000 in
theorem gX9_reads_X9_readsItem : GoodIn wsX9_reads (wsV RX9 98 RX9 yX9_readsItem wsX9_readsItem) := goodIn_app (goodIn_of _ (by decide +kernel)) ggX9_reads_X9_readsItem
theorem dX9_reads_0 : decode cX9_reads 0 = .ok (.aload_n 0, 1) := by decide +kernel
theorem dX9_reads_1 : decode cX9_reads 1 = .ok (.invokevirtual 46, 3) := by decide +kernel
theorem dX9_reads_4 : decode cX9_reads 4 = .ok (.aload_n 0, 1) := by decide +kernel
theorem dX9_reads_5 : decode cX9_reads 5 = .ok (.iconst 0, 1) := by decide +kernel
theorem dX9_reads_6 : decode cX9_reads 6 = .ok (.putfield 70, 3) := by decide +kernel
theorem dX9_reads_9 : decode cX9_reads 9 = .ok (.aload_n 0, 1) := by decide +kernel
theorem dX9_reads_10 : decode cX9_reads 10 = .ok (.getfield 70, 3) := by decide +kernel
theorem dX9_reads_13 : decode cX9_reads 13 = .ok (.aload_n 0, 1) := by decide +kernel
theorem dX9_reads_14 : decode cX9_reads 14 = .ok (.getfield 66, 3) := by decide +kernel
theorem dX9_reads_17 : decode cX9_reads 17 = .ok (.if_icmp .ge 36, 3) := by decide +kernel
theorem dX9_reads_20 : decode cX9_reads 20 = .ok (.aload_n 0, 1) := by decide +kernel
theorem dX9_reads_21 : decode cX9_reads 21 = .ok (.getfield 70, 3) := by decide +kernel
theorem dX9_reads_24 : decode cX9_reads 24 = .ok (.istore_n 1, 1) := by decide +kernel
theorem dX9_reads_25 : decode cX9_reads 25 = .ok (.aload_n 0, 1) := by decide +kernel
theorem dX9_reads_26 : decode cX9_reads 26 = .ok (.dup, 1) := by decide +kernel
theorem dX9_reads_27 : decode cX9_reads 27 = .ok (.getfield 70, 3) := by decide +kernel
theorem dX9_reads_30 : decode cX9_reads 30 = .ok (.iconst 1, 1) := by decide +kernel
theorem dX9_reads_31 : decode cX9_reads 31 = .ok (.iadd, 1) := by decide +kernel
theorem dX9_reads_32 : decode cX9_reads 32 = .ok (.putfield 70, 3) := by decide +kernel
theorem dX9_reads_35 : decode cX9_reads 35 = .ok (.aload_n 0, 1) := by decide +kernel
theorem dX9_reads_36 : decode cX9_reads 36 = .ok (.aload_n 0, 1) := by decide +kernel
theorem dX9_reads_37 : decode cX9_reads 37 = .ok (.getfield 7, 3) := by decide +kernel
theorem dX9_reads_40 : decode cX9_reads 40 = .ok (.iload_n 1, 1) := by decide +kernel
theorem dX9_reads_41 : decode cX9_reads 41 = .ok (.iaload, 1) := by decide +kernel
theorem dX9_reads_42 : decode cX9_reads 42 = .ok (.invokevirtual 98, 3) := by decide +kernel
theorem dX9_reads_45 : decode cX9_reads 45 = .ok (.ifCond .ne 5, 3) := by decide +kernel
theorem dX9_reads_48 : decode cX9_reads 48 = .ok (.iload_n 1, 1) := by decide +kernel
theorem dX9_reads_49 : decode cX9_reads 49 = .ok (.ireturn, 1) := by decide +kernel
theorem dX9_reads_50 : decode cX9_reads 50 = .ok (.goto (-41), 3) := by decide +kernel
theorem dX9_reads_53 : decode cX9_reads 53 = .ok (.bipush (-4), 2) := by decide +kernel
theorem dX9_reads_55 : decode cX9_reads 55 = .ok (.ireturn, 1) := by decide +kernel
set_option maxRecDepth 20000 in
theorem ggX9_fault_X9_reads : GoodIn wsX9_fault wsX9_reads := goodIn_r _ [5, 6, 7, 8, 9, 10, 11, 4, 12, 13, 14, 15, 16, 17, 18, 19, 20, 21, 22, 23, 24, 25, 26, 27, 28, 29, 30, 31, 32, 33, 34, 35, 36, 37, 38, 39, 40, 41, 42, 43, 44, 45, 46, 47, 48, 49, 50, 51, 52, 53, 54, 55, 56, 57, 58, 59, 60, 61, 62, 63, 64, 65, 66, 67, 68, 69, 70, 71, 72, 73] (by decide +kernel) (by decide +kernel)
set_option maxRecDepth 20000 in
theorem gX9_fault_X9_reads : GoodIn wsX9_fault (wsV RX9 101 RX9 yX9_reads wsX9_reads) := goodIn_app (goodIn_of _ (by decide +kernel)) ggX9_fault_X9_reads
theorem dX9_fault_0 : decode cX9_fault 0 = .ok (.aload_n 0, 1) := by decide +kernel
theorem dX9_fault_1 : decode cX9_fault 1 = .ok (.invokevirtual 101, 3) := by decide +kernel
theorem dX9_fault_4 : decode cX9_fault 4 = .ok (.ireturn, 1) := by decide +kernel
theorem dX9_lays_0 : decode cX9_lays 0 = .ok (.iconst 0, 1) := by decide +kernel
theorem dX9_lays_1 : decode cX9_lays 1 = .ok (.istore_n 1, 1) := by decide +kernel
theorem dX9_lays_2 : decode cX9_lays 2 = .ok (.iload_n 1, 1) := by decide +kernel
theorem dX9_lays_3 : decode cX9_lays 3 = .ok (.bipush 37, 2) := by decide +kernel
theorem dX9_lays_5 : decode cX9_lays 5 = .ok (.if_icmp .ge 21, 3) := by decide +kernel
theorem dX9_lays_8 : decode cX9_lays 8 = .ok (.aload_n 0, 1) := by decide +kernel
theorem dX9_lays_9 : decode cX9_lays 9 = .ok (.getfield 13, 3) := by decide +kernel
theorem dX9_lays_12 : decode cX9_lays 12 = .ok (.iload_n 1, 1) := by decide +kernel
theorem dX9_lays_13 : decode cX9_lays 13 = .ok (.aload_n 0, 1) := by decide +kernel
theorem dX9_lays_14 : decode cX9_lays 14 = .ok (.getfield 16, 3) := by decide +kernel
theorem dX9_lays_17 : decode cX9_lays 17 = .ok (.iload_n 1, 1) := by decide +kernel
theorem dX9_lays_18 : decode cX9_lays 18 = .ok (.iaload, 1) := by decide +kernel
theorem dX9_lays_19 : decode cX9_lays 19 = .ok (.iastore, 1) := by decide +kernel
theorem dX9_lays_20 : decode cX9_lays 20 = .ok (.iinc 1 1, 3) := by decide +kernel
theorem dX9_lays_23 : decode cX9_lays 23 = .ok (.goto (-21), 3) := by decide +kernel
theorem dX9_lays_26 : decode cX9_lays 26 = .ok (.iconst 0, 1) := by decide +kernel
theorem dX9_lays_27 : decode cX9_lays 27 = .ok (.istore_n 1, 1) := by decide +kernel
theorem dX9_lays_28 : decode cX9_lays 28 = .ok (.iload_n 1, 1) := by decide +kernel
theorem dX9_lays_29 : decode cX9_lays 29 = .ok (.bipush 15, 2) := by decide +kernel
theorem dX9_lays_31 : decode cX9_lays 31 = .ok (.if_icmp .ge 65, 3) := by decide +kernel
theorem dX9_lays_34 : decode cX9_lays 34 = .ok (.aload_n 0, 1) := by decide +kernel
theorem dX9_lays_35 : decode cX9_lays 35 = .ok (.getfield 19, 3) := by decide +kernel
theorem dX9_lays_38 : decode cX9_lays 38 = .ok (.iload_n 1, 1) := by decide +kernel
theorem dX9_lays_39 : decode cX9_lays 39 = .ok (.iload_n 1, 1) := by decide +kernel
theorem dX9_lays_40 : decode cX9_lays 40 = .ok (.bipush 6, 2) := by decide +kernel
theorem dX9_lays_42 : decode cX9_lays 42 = .ok (.if_icmp .ge 14, 3) := by decide +kernel
theorem dX9_lays_45 : decode cX9_lays 45 = .ok (.aload_n 0, 1) := by decide +kernel
theorem dX9_lays_46 : decode cX9_lays 46 = .ok (.getfield 13, 3) := by decide +kernel
theorem dX9_lays_49 : decode cX9_lays 49 = .ok (.iconst 3, 1) := by decide +kernel
theorem dX9_lays_50 : decode cX9_lays 50 = .ok (.iload_n 1, 1) := by decide +kernel
theorem dX9_lays_51 : decode cX9_lays 51 = .ok (.iadd, 1) := by decide +kernel
theorem dX9_lays_52 : decode cX9_lays 52 = .ok (.iaload, 1) := by decide +kernel
theorem dX9_lays_53 : decode cX9_lays 53 = .ok (.goto 36, 3) := by decide +kernel
theorem dX9_lays_56 : decode cX9_lays 56 = .ok (.iload_n 1, 1) := by decide +kernel
theorem dX9_lays_57 : decode cX9_lays 57 = .ok (.bipush 14, 2) := by decide +kernel
theorem dX9_lays_59 : decode cX9_lays 59 = .ok (.if_icmp .ge 29, 3) := by decide +kernel
theorem dX9_lays_62 : decode cX9_lays 62 = .ok (.aload_n 0, 1) := by decide +kernel
theorem dX9_lays_63 : decode cX9_lays 63 = .ok (.getfield 13, 3) := by decide +kernel
theorem dX9_lays_66 : decode cX9_lays 66 = .ok (.bipush 29, 2) := by decide +kernel
theorem dX9_lays_68 : decode cX9_lays 68 = .ok (.iload_n 1, 1) := by decide +kernel
theorem dX9_lays_69 : decode cX9_lays 69 = .ok (.iadd, 1) := by decide +kernel
theorem dX9_lays_70 : decode cX9_lays 70 = .ok (.bipush 6, 2) := by decide +kernel
theorem dX9_lays_72 : decode cX9_lays 72 = .ok (.isub, 1) := by decide +kernel
theorem dX9_lays_73 : decode cX9_lays 73 = .ok (.iaload, 1) := by decide +kernel
theorem dX9_lays_74 : decode cX9_lays 74 = .ok (.iconst 1, 1) := by decide +kernel
theorem dX9_lays_75 : decode cX9_lays 75 = .ok (.aload_n 0, 1) := by decide +kernel
theorem dX9_lays_76 : decode cX9_lays 76 = .ok (.getfield 13, 3) := by decide +kernel
theorem dX9_lays_79 : decode cX9_lays 79 = .ok (.iconst 0, 1) := by decide +kernel
theorem dX9_lays_80 : decode cX9_lays 80 = .ok (.iaload, 1) := by decide +kernel
theorem dX9_lays_81 : decode cX9_lays 81 = .ok (.ishl, 1) := by decide +kernel
theorem dX9_lays_82 : decode cX9_lays 82 = .ok (.iconst 1, 1) := by decide +kernel
theorem dX9_lays_83 : decode cX9_lays 83 = .ok (.isub, 1) := by decide +kernel
theorem dX9_lays_84 : decode cX9_lays 84 = .ok (.iand, 1) := by decide +kernel
theorem dX9_lays_85 : decode cX9_lays 85 = .ok (.goto 4, 3) := by decide +kernel
theorem dX9_lays_88 : decode cX9_lays 88 = .ok (.iconst 0, 1) := by decide +kernel
theorem dX9_lays_89 : decode cX9_lays 89 = .ok (.iastore, 1) := by decide +kernel
theorem dX9_lays_90 : decode cX9_lays 90 = .ok (.iinc 1 1, 3) := by decide +kernel
theorem dX9_lays_93 : decode cX9_lays 93 = .ok (.goto (-65), 3) := by decide +kernel
theorem dX9_lays_96 : decode cX9_lays 96 = .ok (.aload_n 0, 1) := by decide +kernel
theorem dX9_lays_97 : decode cX9_lays 97 = .ok (.iconst 0, 1) := by decide +kernel
theorem dX9_lays_98 : decode cX9_lays 98 = .ok (.putfield 104, 3) := by decide +kernel
theorem dX9_lays_101 : decode cX9_lays 101 = .ok (.aload_n 0, 1) := by decide +kernel
theorem dX9_lays_102 : decode cX9_lays 102 = .ok (.iconst 0, 1) := by decide +kernel
theorem dX9_lays_103 : decode cX9_lays 103 = .ok (.putfield 107, 3) := by decide +kernel
theorem dX9_lays_106 : decode cX9_lays 106 = .ok (.aload_n 0, 1) := by decide +kernel
theorem dX9_lays_107 : decode cX9_lays 107 = .ok (.iconst 0, 1) := by decide +kernel
theorem dX9_lays_108 : decode cX9_lays 108 = .ok (.putfield 110, 3) := by decide +kernel
theorem dX9_lays_111 : decode cX9_lays 111 = .ok (.aload_n 0, 1) := by decide +kernel
theorem dX9_lays_112 : decode cX9_lays 112 = .ok (.iconst 0, 1) := by decide +kernel
theorem dX9_lays_113 : decode cX9_lays 113 = .ok (.putfield 113, 3) := by decide +kernel
theorem dX9_lays_116 : decode cX9_lays 116 = .ok (.return_, 1) := by decide +kernel
set_option maxRecDepth 20000 in
theorem ggX9_lay_X9_reads : GoodIn wsX9_lay wsX9_reads := goodIn_r _ [7, 8, 9, 10, 11, 12, 13, 6, 14, 1, 15, 16, 17, 18, 19, 20, 21, 22, 23, 24, 25, 26, 27, 28, 29, 30, 31, 32, 33, 34, 35, 36, 37, 38, 39, 40, 41, 42, 43, 44, 45, 46, 47, 48, 49, 50, 51, 52, 53, 54, 64, 65, 66, 67, 68, 69, 70, 71, 72, 73, 74, 75, 76, 77, 78, 79, 80, 81, 82, 83] (by decide +kernel) (by decide +kernel)
set_option maxRecDepth 20000 in
theorem gX9_lay_X9_reads : GoodIn wsX9_lay (wsV RX9 101 RX9 yX9_reads wsX9_reads) := goodIn_app (goodIn_of _ (by decide +kernel)) ggX9_lay_X9_reads
set_option maxRecDepth 20000 in
theorem ggX9_lay_X9_lays : GoodIn wsX9_lay wsX9_lays := goodIn_r _ [58, 2, 1, 59, 60, 61, 62, 63, 64, 65, 66, 67, 68, 69, 70, 71, 72, 73, 74, 75, 76, 77, 78, 79, 80, 81, 82, 83] (by decide +kernel) (by decide +kernel)
set_option maxRecDepth 20000 in
theorem gX9_lay_X9_lays : GoodIn wsX9_lay (wsV RX9 59 RX9 yX9_lays wsX9_lays) := goodIn_app (goodIn_of _ (by decide +kernel)) ggX9_lay_X9_lays
theorem dX9_lay_0 : decode cX9_lay 0 = .ok (.aload_n 0, 1) := by decide +kernel
theorem dX9_lay_1 : decode cX9_lay 1 = .ok (.invokevirtual 101, 3) := by decide +kernel
theorem dX9_lay_4 : decode cX9_lay 4 = .ok (.bipush (-4), 2) := by decide +kernel
theorem dX9_lay_6 : decode cX9_lay 6 = .ok (.if_icmp .ne 16, 3) := by decide +kernel
theorem dX9_lay_9 : decode cX9_lay 9 = .ok (.aload_n 0, 1) := by decide +kernel
theorem dX9_lay_10 : decode cX9_lay 10 = .ok (.getfield 16, 3) := by decide +kernel
theorem dX9_lay_13 : decode cX9_lay 13 = .ok (.iconst 0, 1) := by decide +kernel
theorem dX9_lay_14 : decode cX9_lay 14 = .ok (.iaload, 1) := by decide +kernel
theorem dX9_lay_15 : decode cX9_lay 15 = .ok (.ifCond .le 7, 3) := by decide +kernel
theorem dX9_lay_18 : decode cX9_lay 18 = .ok (.iconst 1, 1) := by decide +kernel
theorem dX9_lay_19 : decode cX9_lay 19 = .ok (.goto 4, 3) := by decide +kernel
theorem dX9_lay_22 : decode cX9_lay 22 = .ok (.iconst 0, 1) := by decide +kernel
theorem dX9_lay_23 : decode cX9_lay 23 = .ok (.istore_n 1, 1) := by decide +kernel
theorem dX9_lay_24 : decode cX9_lay 24 = .ok (.iconst 0, 1) := by decide +kernel
theorem dX9_lay_25 : decode cX9_lay 25 = .ok (.istore_n 2, 1) := by decide +kernel
theorem dX9_lay_26 : decode cX9_lay 26 = .ok (.iload_n 2, 1) := by decide +kernel
theorem dX9_lay_27 : decode cX9_lay 27 = .ok (.aload_n 0, 1) := by decide +kernel
theorem dX9_lay_28 : decode cX9_lay 28 = .ok (.getfield 16, 3) := by decide +kernel
theorem dX9_lay_31 : decode cX9_lay 31 = .ok (.iconst 0, 1) := by decide +kernel
theorem dX9_lay_32 : decode cX9_lay 32 = .ok (.iaload, 1) := by decide +kernel
theorem dX9_lay_33 : decode cX9_lay 33 = .ok (.if_icmp .ge 36, 3) := by decide +kernel
theorem dX9_lay_36 : decode cX9_lay 36 = .ok (.iload_n 1, 1) := by decide +kernel
theorem dX9_lay_37 : decode cX9_lay 37 = .ok (.ifCond .eq 32, 3) := by decide +kernel
theorem dX9_lay_40 : decode cX9_lay 40 = .ok (.aload_n 0, 1) := by decide +kernel
theorem dX9_lay_41 : decode cX9_lay 41 = .ok (.getfield 16, 3) := by decide +kernel
theorem dX9_lay_44 : decode cX9_lay 44 = .ok (.iconst 3, 1) := by decide +kernel
theorem dX9_lay_45 : decode cX9_lay 45 = .ok (.iload_n 2, 1) := by decide +kernel
theorem dX9_lay_46 : decode cX9_lay 46 = .ok (.iadd, 1) := by decide +kernel
theorem dX9_lay_47 : decode cX9_lay 47 = .ok (.iaload, 1) := by decide +kernel
theorem dX9_lay_48 : decode cX9_lay 48 = .ok (.aload_n 0, 1) := by decide +kernel
theorem dX9_lay_49 : decode cX9_lay 49 = .ok (.getfield 16, 3) := by decide +kernel
theorem dX9_lay_52 : decode cX9_lay 52 = .ok (.iconst 2, 1) := by decide +kernel
theorem dX9_lay_53 : decode cX9_lay 53 = .ok (.iaload, 1) := by decide +kernel
theorem dX9_lay_54 : decode cX9_lay 54 = .ok (.if_icmp .ge 7, 3) := by decide +kernel
theorem dX9_lay_57 : decode cX9_lay 57 = .ok (.iconst 1, 1) := by decide +kernel
theorem dX9_lay_58 : decode cX9_lay 58 = .ok (.goto 4, 3) := by decide +kernel
theorem dX9_lay_61 : decode cX9_lay 61 = .ok (.iconst 0, 1) := by decide +kernel
theorem dX9_lay_62 : decode cX9_lay 62 = .ok (.istore_n 1, 1) := by decide +kernel
theorem dX9_lay_63 : decode cX9_lay 63 = .ok (.iinc 2 1, 3) := by decide +kernel
theorem dX9_lay_66 : decode cX9_lay 66 = .ok (.goto (-40), 3) := by decide +kernel
theorem dX9_lay_69 : decode cX9_lay 69 = .ok (.iload_n 1, 1) := by decide +kernel
theorem dX9_lay_70 : decode cX9_lay 70 = .ok (.ifCond .ne 6, 3) := by decide +kernel
theorem dX9_lay_73 : decode cX9_lay 73 = .ok (.bipush (-2), 2) := by decide +kernel
theorem dX9_lay_75 : decode cX9_lay 75 = .ok (.ireturn, 1) := by decide +kernel
theorem dX9_lay_76 : decode cX9_lay 76 = .ok (.aload_n 0, 1) := by decide +kernel
theorem dX9_lay_77 : decode cX9_lay 77 = .ok (.invokevirtual 59, 3) := by decide +kernel
theorem dX9_lay_80 : decode cX9_lay 80 = .ok (.aload_n 0, 1) := by decide +kernel
theorem dX9_lay_81 : decode cX9_lay 81 = .ok (.getfield 13, 3) := by decide +kernel
theorem dX9_lay_84 : decode cX9_lay 84 = .ok (.iconst 0, 1) := by decide +kernel
theorem dX9_lay_85 : decode cX9_lay 85 = .ok (.iaload, 1) := by decide +kernel
theorem dX9_lay_86 : decode cX9_lay 86 = .ok (.ireturn, 1) := by decide +kernel
theorem dX9_isAlive_0 : decode cX9_isAlive 0 = .ok (.aload_n 0, 1) := by decide +kernel
theorem dX9_isAlive_1 : decode cX9_isAlive 1 = .ok (.getfield 19, 3) := by decide +kernel
theorem dX9_isAlive_4 : decode cX9_isAlive 4 = .ok (.iload_n 1, 1) := by decide +kernel
theorem dX9_isAlive_5 : decode cX9_isAlive 5 = .ok (.iaload, 1) := by decide +kernel
theorem dX9_isAlive_6 : decode cX9_isAlive 6 = .ok (.aload_n 0, 1) := by decide +kernel
theorem dX9_isAlive_7 : decode cX9_isAlive 7 = .ok (.getfield 13, 3) := by decide +kernel
theorem dX9_isAlive_10 : decode cX9_isAlive 10 = .ok (.iconst 2, 1) := by decide +kernel
theorem dX9_isAlive_11 : decode cX9_isAlive 11 = .ok (.iaload, 1) := by decide +kernel
theorem dX9_isAlive_12 : decode cX9_isAlive 12 = .ok (.if_icmp .ge 7, 3) := by decide +kernel
theorem dX9_isAlive_15 : decode cX9_isAlive 15 = .ok (.iconst 1, 1) := by decide +kernel
theorem dX9_isAlive_16 : decode cX9_isAlive 16 = .ok (.goto 4, 3) := by decide +kernel
theorem dX9_isAlive_19 : decode cX9_isAlive 19 = .ok (.iconst 0, 1) := by decide +kernel
theorem dX9_isAlive_20 : decode cX9_isAlive 20 = .ok (.ireturn, 1) := by decide +kernel
set_option maxRecDepth 20000 in
theorem ggX9_alive_X9_isAlive : GoodIn wsX9_alive wsX9_isAlive := goodIn_r _ [6, 7, 1, 8, 9, 10, 11, 12, 13, 14, 15, 16, 17, 18, 19, 20, 21, 22, 23, 24, 25, 26, 27] (by decide +kernel) (by decide +kernel)
set_option maxRecDepth 20000 in
theorem gX9_alive_X9_isAlive : GoodIn wsX9_alive (wsV RX9 116 RX9 yX9_isAlive wsX9_isAlive) := goodIn_app (goodIn_of _ (by decide +kernel)) ggX9_alive_X9_isAlive
theorem dX9_alive_0 : decode cX9_alive 0 = .ok (.iconst 0, 1) := by decide +kernel
theorem dX9_alive_1 : decode cX9_alive 1 = .ok (.istore_n 1, 1) := by decide +kernel
theorem dX9_alive_2 : decode cX9_alive 2 = .ok (.iconst 0, 1) := by decide +kernel
theorem dX9_alive_3 : decode cX9_alive 3 = .ok (.istore_n 2, 1) := by decide +kernel
theorem dX9_alive_4 : decode cX9_alive 4 = .ok (.iload_n 2, 1) := by decide +kernel
theorem dX9_alive_5 : decode cX9_alive 5 = .ok (.aload_n 0, 1) := by decide +kernel
theorem dX9_alive_6 : decode cX9_alive 6 = .ok (.getfield 13, 3) := by decide +kernel
theorem dX9_alive_9 : decode cX9_alive 9 = .ok (.iconst 0, 1) := by decide +kernel
theorem dX9_alive_10 : decode cX9_alive 10 = .ok (.iaload, 1) := by decide +kernel
theorem dX9_alive_11 : decode cX9_alive 11 = .ok (.if_icmp .ge 27, 3) := by decide +kernel
theorem dX9_alive_14 : decode cX9_alive 14 = .ok (.iload_n 1, 1) := by decide +kernel
theorem dX9_alive_15 : decode cX9_alive 15 = .ok (.aload_n 0, 1) := by decide +kernel
theorem dX9_alive_16 : decode cX9_alive 16 = .ok (.iload_n 2, 1) := by decide +kernel
theorem dX9_alive_17 : decode cX9_alive 17 = .ok (.invokevirtual 116, 3) := by decide +kernel
theorem dX9_alive_20 : decode cX9_alive 20 = .ok (.ifCond .eq 9, 3) := by decide +kernel
theorem dX9_alive_23 : decode cX9_alive 23 = .ok (.iconst 1, 1) := by decide +kernel
theorem dX9_alive_24 : decode cX9_alive 24 = .ok (.iload_n 2, 1) := by decide +kernel
theorem dX9_alive_25 : decode cX9_alive 25 = .ok (.ishl, 1) := by decide +kernel
theorem dX9_alive_26 : decode cX9_alive 26 = .ok (.goto 4, 3) := by decide +kernel
theorem dX9_alive_29 : decode cX9_alive 29 = .ok (.iconst 0, 1) := by decide +kernel
theorem dX9_alive_30 : decode cX9_alive 30 = .ok (.ior, 1) := by decide +kernel
theorem dX9_alive_31 : decode cX9_alive 31 = .ok (.istore_n 1, 1) := by decide +kernel
theorem dX9_alive_32 : decode cX9_alive 32 = .ok (.iinc 2 1, 3) := by decide +kernel
theorem dX9_alive_35 : decode cX9_alive 35 = .ok (.goto (-31), 3) := by decide +kernel
theorem dX9_alive_38 : decode cX9_alive 38 = .ok (.iload_n 1, 1) := by decide +kernel
theorem dX9_alive_39 : decode cX9_alive 39 = .ok (.ireturn, 1) := by decide +kernel
set_option maxRecDepth 20000 in
theorem ggX9_met_X9_isAlive : GoodIn wsX9_met wsX9_isAlive := goodIn_r _ [6, 7, 1, 12, 13, 14, 15, 16, 17, 18, 19, 20, 21, 22, 23, 24, 25, 26, 27, 28, 29, 30, 31] (by decide +kernel) (by decide +kernel)
set_option maxRecDepth 20000 in
theorem gX9_met_X9_isAlive : GoodIn wsX9_met (wsV RX9 116 RX9 yX9_isAlive wsX9_isAlive) := goodIn_app (goodIn_of _ (by decide +kernel)) ggX9_met_X9_isAlive
set_option maxRecDepth 20000 in
theorem ggX9_met_X9_alive : GoodIn wsX9_met wsX9_alive := goodIn_r _ [11, 1, 2, 3, 4, 5, 6, 7, 12, 13, 14, 15, 16, 17, 18, 19, 20, 21, 22, 23, 24, 25, 26, 27, 28, 29, 30, 31] (by decide +kernel) (by decide +kernel)
set_option maxRecDepth 20000 in
theorem gX9_met_X9_alive : GoodIn wsX9_met (wsV RX9 119 RX9 yX9_alive wsX9_alive) := goodIn_app (goodIn_of _ (by decide +kernel)) ggX9_met_X9_alive
theorem dX9_met_0 : decode cX9_met 0 = .ok (.aload_n 0, 1) := by decide +kernel
theorem dX9_met_1 : decode cX9_met 1 = .ok (.iload_n 1, 1) := by decide +kernel
theorem dX9_met_2 : decode cX9_met 2 = .ok (.invokevirtual 116, 3) := by decide +kernel
theorem dX9_met_5 : decode cX9_met 5 = .ok (.ifCond .eq 20, 3) := by decide +kernel
theorem dX9_met_8 : decode cX9_met 8 = .ok (.aload_n 0, 1) := by decide +kernel
theorem dX9_met_9 : decode cX9_met 9 = .ok (.getfield 13, 3) := by decide +kernel
theorem dX9_met_12 : decode cX9_met 12 = .ok (.bipush 15, 2) := by decide +kernel
theorem dX9_met_14 : decode cX9_met 14 = .ok (.iload_n 1, 1) := by decide +kernel
theorem dX9_met_15 : decode cX9_met 15 = .ok (.iadd, 1) := by decide +kernel
theorem dX9_met_16 : decode cX9_met 16 = .ok (.iaload, 1) := by decide +kernel
theorem dX9_met_17 : decode cX9_met 17 = .ok (.aload_n 0, 1) := by decide +kernel
theorem dX9_met_18 : decode cX9_met 18 = .ok (.invokevirtual 119, 3) := by decide +kernel
theorem dX9_met_21 : decode cX9_met 21 = .ok (.iand, 1) := by decide +kernel
theorem dX9_met_22 : decode cX9_met 22 = .ok (.goto 4, 3) := by decide +kernel
theorem dX9_met_25 : decode cX9_met 25 = .ok (.iconst 0, 1) := by decide +kernel
theorem dX9_met_26 : decode cX9_met 26 = .ok (.ireturn, 1) := by decide +kernel
theorem dX9_knows_0 : decode cX9_knows 0 = .ok (.aload_n 0, 1) := by decide +kernel
theorem dX9_knows_1 : decode cX9_knows 1 = .ok (.getfield 19, 3) := by decide +kernel
theorem dX9_knows_4 : decode cX9_knows 4 = .ok (.bipush 6, 2) := by decide +kernel
theorem dX9_knows_6 : decode cX9_knows 6 = .ok (.iload_n 2, 1) := by decide +kernel
theorem dX9_knows_7 : decode cX9_knows 7 = .ok (.iadd, 1) := by decide +kernel
theorem dX9_knows_8 : decode cX9_knows 8 = .ok (.iaload, 1) := by decide +kernel
theorem dX9_knows_9 : decode cX9_knows 9 = .ok (.iload_n 1, 1) := by decide +kernel
theorem dX9_knows_10 : decode cX9_knows 10 = .ok (.ishr, 1) := by decide +kernel
theorem dX9_knows_11 : decode cX9_knows 11 = .ok (.iconst 1, 1) := by decide +kernel
theorem dX9_knows_12 : decode cX9_knows 12 = .ok (.iand, 1) := by decide +kernel
theorem dX9_knows_13 : decode cX9_knows 13 = .ok (.iconst 1, 1) := by decide +kernel
theorem dX9_knows_14 : decode cX9_knows 14 = .ok (.if_icmp .ne 7, 3) := by decide +kernel
theorem dX9_knows_17 : decode cX9_knows 17 = .ok (.iconst 1, 1) := by decide +kernel
theorem dX9_knows_18 : decode cX9_knows 18 = .ok (.goto 4, 3) := by decide +kernel
theorem dX9_knows_21 : decode cX9_knows 21 = .ok (.iconst 0, 1) := by decide +kernel
theorem dX9_knows_22 : decode cX9_knows 22 = .ok (.ireturn, 1) := by decide +kernel
set_option maxRecDepth 20000 in
theorem ggX9_knownBy_X9_knows : GoodIn wsX9_knownBy wsX9_knows := goodIn_r _ [6, 7, 8, 9, 10, 11, 12, 13, 14, 15, 16, 17, 18, 19, 20, 21, 22, 23, 24, 25, 26, 27] (by decide +kernel) (by decide +kernel)
set_option maxRecDepth 20000 in
theorem gX9_knownBy_X9_knows : GoodIn wsX9_knownBy (wsV RX9 122 RX9 yX9_knows wsX9_knows) := goodIn_app (goodIn_of _ (by decide +kernel)) ggX9_knownBy_X9_knows
theorem dX9_knownBy_0 : decode cX9_knownBy 0 = .ok (.iconst 0, 1) := by decide +kernel
theorem dX9_knownBy_1 : decode cX9_knownBy 1 = .ok (.istore_n 2, 1) := by decide +kernel
theorem dX9_knownBy_2 : decode cX9_knownBy 2 = .ok (.iconst 0, 1) := by decide +kernel
theorem dX9_knownBy_3 : decode cX9_knownBy 3 = .ok (.istore_n 3, 1) := by decide +kernel
theorem dX9_knownBy_4 : decode cX9_knownBy 4 = .ok (.iload_n 3, 1) := by decide +kernel
theorem dX9_knownBy_5 : decode cX9_knownBy 5 = .ok (.aload_n 0, 1) := by decide +kernel
theorem dX9_knownBy_6 : decode cX9_knownBy 6 = .ok (.getfield 13, 3) := by decide +kernel
theorem dX9_knownBy_9 : decode cX9_knownBy 9 = .ok (.iconst 1, 1) := by decide +kernel
theorem dX9_knownBy_10 : decode cX9_knownBy 10 = .ok (.iaload, 1) := by decide +kernel
theorem dX9_knownBy_11 : decode cX9_knownBy 11 = .ok (.if_icmp .ge 28, 3) := by decide +kernel
theorem dX9_knownBy_14 : decode cX9_knownBy 14 = .ok (.iload_n 2, 1) := by decide +kernel
theorem dX9_knownBy_15 : decode cX9_knownBy 15 = .ok (.aload_n 0, 1) := by decide +kernel
theorem dX9_knownBy_16 : decode cX9_knownBy 16 = .ok (.iload_n 1, 1) := by decide +kernel
theorem dX9_knownBy_17 : decode cX9_knownBy 17 = .ok (.iload_n 3, 1) := by decide +kernel
theorem dX9_knownBy_18 : decode cX9_knownBy 18 = .ok (.invokevirtual 122, 3) := by decide +kernel
theorem dX9_knownBy_21 : decode cX9_knownBy 21 = .ok (.ifCond .eq 9, 3) := by decide +kernel
theorem dX9_knownBy_24 : decode cX9_knownBy 24 = .ok (.iconst 1, 1) := by decide +kernel
theorem dX9_knownBy_25 : decode cX9_knownBy 25 = .ok (.iload_n 3, 1) := by decide +kernel
theorem dX9_knownBy_26 : decode cX9_knownBy 26 = .ok (.ishl, 1) := by decide +kernel
theorem dX9_knownBy_27 : decode cX9_knownBy 27 = .ok (.goto 4, 3) := by decide +kernel
theorem dX9_knownBy_30 : decode cX9_knownBy 30 = .ok (.iconst 0, 1) := by decide +kernel
theorem dX9_knownBy_31 : decode cX9_knownBy 31 = .ok (.ior, 1) := by decide +kernel
theorem dX9_knownBy_32 : decode cX9_knownBy 32 = .ok (.istore_n 2, 1) := by decide +kernel
theorem dX9_knownBy_33 : decode cX9_knownBy 33 = .ok (.iinc 3 1, 3) := by decide +kernel
theorem dX9_knownBy_36 : decode cX9_knownBy 36 = .ok (.goto (-32), 3) := by decide +kernel
theorem dX9_knownBy_39 : decode cX9_knownBy 39 = .ok (.iload_n 2, 1) := by decide +kernel
theorem dX9_knownBy_40 : decode cX9_knownBy 40 = .ok (.ireturn, 1) := by decide +kernel
theorem dX9_ownOf_0 : decode cX9_ownOf 0 = .ok (.iconst 0, 1) := by decide +kernel
theorem dX9_ownOf_1 : decode cX9_ownOf 1 = .ok (.istore_n 2, 1) := by decide +kernel
theorem dX9_ownOf_2 : decode cX9_ownOf 2 = .ok (.iconst 0, 1) := by decide +kernel
theorem dX9_ownOf_3 : decode cX9_ownOf 3 = .ok (.istore_n 3, 1) := by decide +kernel
theorem dX9_ownOf_4 : decode cX9_ownOf 4 = .ok (.iload_n 3, 1) := by decide +kernel
theorem dX9_ownOf_5 : decode cX9_ownOf 5 = .ok (.aload_n 0, 1) := by decide +kernel
theorem dX9_ownOf_6 : decode cX9_ownOf 6 = .ok (.getfield 13, 3) := by decide +kernel
theorem dX9_ownOf_9 : decode cX9_ownOf 9 = .ok (.iconst 1, 1) := by decide +kernel
theorem dX9_ownOf_10 : decode cX9_ownOf 10 = .ok (.iaload, 1) := by decide +kernel
theorem dX9_ownOf_11 : decode cX9_ownOf 11 = .ok (.if_icmp .ge 32, 3) := by decide +kernel
theorem dX9_ownOf_14 : decode cX9_ownOf 14 = .ok (.iload_n 2, 1) := by decide +kernel
theorem dX9_ownOf_15 : decode cX9_ownOf 15 = .ok (.aload_n 0, 1) := by decide +kernel
theorem dX9_ownOf_16 : decode cX9_ownOf 16 = .ok (.getfield 13, 3) := by decide +kernel
theorem dX9_ownOf_19 : decode cX9_ownOf 19 = .ok (.bipush 21, 2) := by decide +kernel
theorem dX9_ownOf_21 : decode cX9_ownOf 21 = .ok (.iload_n 3, 1) := by decide +kernel
theorem dX9_ownOf_22 : decode cX9_ownOf 22 = .ok (.iadd, 1) := by decide +kernel
theorem dX9_ownOf_23 : decode cX9_ownOf 23 = .ok (.iaload, 1) := by decide +kernel
theorem dX9_ownOf_24 : decode cX9_ownOf 24 = .ok (.iload_n 1, 1) := by decide +kernel
theorem dX9_ownOf_25 : decode cX9_ownOf 25 = .ok (.if_icmp .ne 9, 3) := by decide +kernel
theorem dX9_ownOf_28 : decode cX9_ownOf 28 = .ok (.iconst 1, 1) := by decide +kernel
theorem dX9_ownOf_29 : decode cX9_ownOf 29 = .ok (.iload_n 3, 1) := by decide +kernel
theorem dX9_ownOf_30 : decode cX9_ownOf 30 = .ok (.ishl, 1) := by decide +kernel
theorem dX9_ownOf_31 : decode cX9_ownOf 31 = .ok (.goto 4, 3) := by decide +kernel
theorem dX9_ownOf_34 : decode cX9_ownOf 34 = .ok (.iconst 0, 1) := by decide +kernel
theorem dX9_ownOf_35 : decode cX9_ownOf 35 = .ok (.ior, 1) := by decide +kernel
theorem dX9_ownOf_36 : decode cX9_ownOf 36 = .ok (.istore_n 2, 1) := by decide +kernel
theorem dX9_ownOf_37 : decode cX9_ownOf 37 = .ok (.iinc 3 1, 3) := by decide +kernel
theorem dX9_ownOf_40 : decode cX9_ownOf 40 = .ok (.goto (-36), 3) := by decide +kernel
theorem dX9_ownOf_43 : decode cX9_ownOf 43 = .ok (.iload_n 2, 1) := by decide +kernel
theorem dX9_ownOf_44 : decode cX9_ownOf 44 = .ok (.ireturn, 1) := by decide +kernel
set_option maxRecDepth 20000 in
theorem ggX9_person_X9_isPerson : GoodIn wsX9_person wsX9_isPerson := goodIn_r _ [7, 2, 8, 9, 6, 10, 35, 36, 37, 38, 39, 40, 41, 42, 43, 44, 45, 46, 47, 48, 49, 50, 51, 52, 53, 54] (by decide +kernel) (by decide +kernel)
set_option maxRecDepth 20000 in
theorem gX9_person_X9_isPerson : GoodIn wsX9_person (wsV RX9 126 RX9 yX9_isPerson wsX9_isPerson) := goodIn_app (goodIn_of _ (by decide +kernel)) ggX9_person_X9_isPerson
set_option maxRecDepth 20000 in
theorem ggX9_person_X9_met : GoodIn wsX9_person wsX9_met := goodIn_r _ [14, 2, 15, 16, 17, 6, 18, 1, 19, 20, 21, 22, 35, 36, 37, 38, 39, 40, 41, 42, 43, 44, 45, 46, 47, 48, 49, 50, 51, 52, 53, 54] (by decide +kernel) (by decide +kernel)
set_option maxRecDepth 20000 in
theorem gX9_person_X9_met : GoodIn wsX9_person (wsV RX9 129 RX9 yX9_met wsX9_met) := goodIn_app (goodIn_of _ (by decide +kernel)) ggX9_person_X9_met
set_option maxRecDepth 20000 in
theorem ggX9_person_X9_knownBy : GoodIn wsX9_person wsX9_knownBy := goodIn_r _ [26, 2, 27, 28, 29, 6, 30, 1, 35, 36, 37, 38, 39, 40, 41, 42, 43, 44, 45, 46, 47, 48, 49, 50, 51, 52, 53, 54] (by decide +kernel) (by decide +kernel)
set_option maxRecDepth 20000 in
theorem gX9_person_X9_knownBy : GoodIn wsX9_person (wsV RX9 132 RX9 yX9_knownBy wsX9_knownBy) := goodIn_app (goodIn_of _ (by decide +kernel)) ggX9_person_X9_knownBy
set_option maxRecDepth 20000 in
theorem ggX9_person_X9_ownOf : GoodIn wsX9_person wsX9_ownOf := goodIn_r _ [34, 2, 35, 36, 37, 38, 39, 40, 41, 42, 43, 44, 45, 46, 47, 48, 49, 50, 51, 52, 53, 54] (by decide +kernel) (by decide +kernel)
set_option maxRecDepth 20000 in
theorem gX9_person_X9_ownOf : GoodIn wsX9_person (wsV RX9 135 RX9 yX9_ownOf wsX9_ownOf) := goodIn_app (goodIn_of _ (by decide +kernel)) ggX9_person_X9_ownOf
set_option maxRecDepth 20000 in
theorem ggX9_person_X9_isAlive : GoodIn wsX9_person wsX9_isAlive := goodIn_r _ [18, 1, 2, 35, 36, 37, 38, 39, 40, 41, 42, 43, 44, 45, 46, 47, 48, 49, 50, 51, 52, 53, 54] (by decide +kernel) (by decide +kernel)
set_option maxRecDepth 20000 in
theorem gX9_person_X9_isAlive : GoodIn wsX9_person (wsV RX9 116 RX9 yX9_isAlive wsX9_isAlive) := goodIn_app (goodIn_of _ (by decide +kernel)) ggX9_person_X9_isAlive
theorem dX9_person_0 : decode cX9_person 0 = .ok (.aload_n 0, 1) := by decide +kernel
theorem dX9_person_1 : decode cX9_person 1 = .ok (.iload_n 1, 1) := by decide +kernel
theorem dX9_person_2 : decode cX9_person 2 = .ok (.invokevirtual 126, 3) := by decide +kernel
theorem dX9_person_5 : decode cX9_person 5 = .ok (.ifCond .ne 5, 3) := by decide +kernel
theorem dX9_person_8 : decode cX9_person 8 = .ok (.iconst (-1), 1) := by decide +kernel
theorem dX9_person_9 : decode cX9_person 9 = .ok (.ireturn, 1) := by decide +kernel
theorem dX9_person_10 : decode cX9_person 10 = .ok (.iload_n 2, 1) := by decide +kernel
theorem dX9_person_11 : decode cX9_person 11 = .ok (.tableswitch 86 0 5 #[37, 44, 54, 60, 66, 72], 37) := by decide +kernel
theorem dX9_person_48 : decode cX9_person 48 = .ok (.aload_n 0, 1) := by decide +kernel
theorem dX9_person_49 : decode cX9_person 49 = .ok (.getfield 19, 3) := by decide +kernel
theorem dX9_person_52 : decode cX9_person 52 = .ok (.iload_n 1, 1) := by decide +kernel
theorem dX9_person_53 : decode cX9_person 53 = .ok (.iaload, 1) := by decide +kernel
theorem dX9_person_54 : decode cX9_person 54 = .ok (.ireturn, 1) := by decide +kernel
theorem dX9_person_55 : decode cX9_person 55 = .ok (.aload_n 0, 1) := by decide +kernel
theorem dX9_person_56 : decode cX9_person 56 = .ok (.getfield 13, 3) := by decide +kernel
theorem dX9_person_59 : decode cX9_person 59 = .ok (.bipush 9, 2) := by decide +kernel
theorem dX9_person_61 : decode cX9_person 61 = .ok (.iload_n 1, 1) := by decide +kernel
theorem dX9_person_62 : decode cX9_person 62 = .ok (.iadd, 1) := by decide +kernel
theorem dX9_person_63 : decode cX9_person 63 = .ok (.iaload, 1) := by decide +kernel
theorem dX9_person_64 : decode cX9_person 64 = .ok (.ireturn, 1) := by decide +kernel
theorem dX9_person_65 : decode cX9_person 65 = .ok (.aload_n 0, 1) := by decide +kernel
theorem dX9_person_66 : decode cX9_person 66 = .ok (.iload_n 1, 1) := by decide +kernel
theorem dX9_person_67 : decode cX9_person 67 = .ok (.invokevirtual 129, 3) := by decide +kernel
theorem dX9_person_70 : decode cX9_person 70 = .ok (.ireturn, 1) := by decide +kernel
theorem dX9_person_71 : decode cX9_person 71 = .ok (.aload_n 0, 1) := by decide +kernel
theorem dX9_person_72 : decode cX9_person 72 = .ok (.iload_n 1, 1) := by decide +kernel
theorem dX9_person_73 : decode cX9_person 73 = .ok (.invokevirtual 132, 3) := by decide +kernel
theorem dX9_person_76 : decode cX9_person 76 = .ok (.ireturn, 1) := by decide +kernel
theorem dX9_person_77 : decode cX9_person 77 = .ok (.aload_n 0, 1) := by decide +kernel
theorem dX9_person_78 : decode cX9_person 78 = .ok (.iload_n 1, 1) := by decide +kernel
theorem dX9_person_79 : decode cX9_person 79 = .ok (.invokevirtual 135, 3) := by decide +kernel
theorem dX9_person_82 : decode cX9_person 82 = .ok (.ireturn, 1) := by decide +kernel
theorem dX9_person_83 : decode cX9_person 83 = .ok (.aload_n 0, 1) := by decide +kernel
theorem dX9_person_84 : decode cX9_person 84 = .ok (.iload_n 1, 1) := by decide +kernel
theorem dX9_person_85 : decode cX9_person 85 = .ok (.invokevirtual 116, 3) := by decide +kernel
theorem dX9_person_88 : decode cX9_person 88 = .ok (.ifCond .eq 7, 3) := by decide +kernel
theorem dX9_person_91 : decode cX9_person 91 = .ok (.iconst 1, 1) := by decide +kernel
theorem dX9_person_92 : decode cX9_person 92 = .ok (.goto 4, 3) := by decide +kernel
theorem dX9_person_95 : decode cX9_person 95 = .ok (.iconst 0, 1) := by decide +kernel
theorem dX9_person_96 : decode cX9_person 96 = .ok (.ireturn, 1) := by decide +kernel
theorem dX9_person_97 : decode cX9_person 97 = .ok (.iconst (-1), 1) := by decide +kernel
theorem dX9_person_98 : decode cX9_person 98 = .ok (.ireturn, 1) := by decide +kernel
set_option maxRecDepth 20000 in
theorem ggX9_secret_X9_isSecret : GoodIn wsX9_secret wsX9_isSecret := goodIn_r _ [7, 1, 8, 9, 6, 10, 11, 12, 13, 14, 15, 16, 17, 18, 19, 20, 21, 22, 23, 24, 25, 26, 27, 28, 29, 30] (by decide +kernel) (by decide +kernel)
set_option maxRecDepth 20000 in
theorem gX9_secret_X9_isSecret : GoodIn wsX9_secret (wsV RX9 138 RX9 yX9_isSecret wsX9_isSecret) := goodIn_app (goodIn_of _ (by decide +kernel)) ggX9_secret_X9_isSecret
set_option maxRecDepth 20000 in
theorem ggX9_secret_X9_in : GoodIn wsX9_secret wsX9_in := goodIn_r _ [10] (by decide +kernel) (by decide +kernel)
set_option maxRecDepth 20000 in
theorem gX9_secret_X9_in : GoodIn wsX9_secret (va_wsS RX9 62 yX9_in wsX9_in) := goodIn_app (goodIn_of _ (by decide +kernel)) ggX9_secret_X9_in
theorem dX9_secret_0 : decode cX9_secret 0 = .ok (.aload_n 0, 1) := by decide +kernel
theorem dX9_secret_1 : decode cX9_secret 1 = .ok (.iload_n 1, 1) := by decide +kernel
theorem dX9_secret_2 : decode cX9_secret 2 = .ok (.invokevirtual 138, 3) := by decide +kernel
theorem dX9_secret_5 : decode cX9_secret 5 = .ok (.ifCond .eq 40, 3) := by decide +kernel
theorem dX9_secret_8 : decode cX9_secret 8 = .ok (.iload_n 2, 1) := by decide +kernel
theorem dX9_secret_9 : decode cX9_secret 9 = .ok (.iconst 0, 1) := by decide +kernel
theorem dX9_secret_10 : decode cX9_secret 10 = .ok (.iconst 1, 1) := by decide +kernel
theorem dX9_secret_11 : decode cX9_secret 11 = .ok (.invokestatic 62, 3) := by decide +kernel
theorem dX9_secret_14 : decode cX9_secret 14 = .ok (.ifCond .eq 31, 3) := by decide +kernel
theorem dX9_secret_17 : decode cX9_secret 17 = .ok (.iload_n 2, 1) := by decide +kernel
theorem dX9_secret_18 : decode cX9_secret 18 = .ok (.ifCond .ne 15, 3) := by decide +kernel
theorem dX9_secret_21 : decode cX9_secret 21 = .ok (.aload_n 0, 1) := by decide +kernel
theorem dX9_secret_22 : decode cX9_secret 22 = .ok (.getfield 13, 3) := by decide +kernel
theorem dX9_secret_25 : decode cX9_secret 25 = .ok (.bipush 21, 2) := by decide +kernel
theorem dX9_secret_27 : decode cX9_secret 27 = .ok (.iload_n 1, 1) := by decide +kernel
theorem dX9_secret_28 : decode cX9_secret 28 = .ok (.iadd, 1) := by decide +kernel
theorem dX9_secret_29 : decode cX9_secret 29 = .ok (.iaload, 1) := by decide +kernel
theorem dX9_secret_30 : decode cX9_secret 30 = .ok (.goto 16, 3) := by decide +kernel
theorem dX9_secret_33 : decode cX9_secret 33 = .ok (.aload_n 0, 1) := by decide +kernel
theorem dX9_secret_34 : decode cX9_secret 34 = .ok (.getfield 19, 3) := by decide +kernel
theorem dX9_secret_37 : decode cX9_secret 37 = .ok (.bipush 6, 2) := by decide +kernel
theorem dX9_secret_39 : decode cX9_secret 39 = .ok (.iload_n 1, 1) := by decide +kernel
theorem dX9_secret_40 : decode cX9_secret 40 = .ok (.iadd, 1) := by decide +kernel
theorem dX9_secret_41 : decode cX9_secret 41 = .ok (.iaload, 1) := by decide +kernel
theorem dX9_secret_42 : decode cX9_secret 42 = .ok (.goto 4, 3) := by decide +kernel
theorem dX9_secret_45 : decode cX9_secret 45 = .ok (.iconst (-1), 1) := by decide +kernel
theorem dX9_secret_46 : decode cX9_secret 46 = .ok (.ireturn, 1) := by decide +kernel
theorem dX9_care_0 : decode cX9_care 0 = .ok (.iload_n 0, 1) := by decide +kernel
theorem dX9_care_1 : decode cX9_care 1 = .ok (.iconst 1, 1) := by decide +kernel
theorem dX9_care_2 : decode cX9_care 2 = .ok (.if_icmp .ne 7, 3) := by decide +kernel
theorem dX9_care_5 : decode cX9_care 5 = .ok (.iconst 2, 1) := by decide +kernel
theorem dX9_care_6 : decode cX9_care 6 = .ok (.goto 31, 3) := by decide +kernel
theorem dX9_care_9 : decode cX9_care 9 = .ok (.iload_n 0, 1) := by decide +kernel
theorem dX9_care_10 : decode cX9_care 10 = .ok (.iconst 2, 1) := by decide +kernel
theorem dX9_care_11 : decode cX9_care 11 = .ok (.if_icmp .ne 7, 3) := by decide +kernel
theorem dX9_care_14 : decode cX9_care 14 = .ok (.iconst 0, 1) := by decide +kernel
theorem dX9_care_15 : decode cX9_care 15 = .ok (.goto 22, 3) := by decide +kernel
theorem dX9_care_18 : decode cX9_care 18 = .ok (.iload_n 0, 1) := by decide +kernel
theorem dX9_care_19 : decode cX9_care 19 = .ok (.iconst 3, 1) := by decide +kernel
theorem dX9_care_20 : decode cX9_care 20 = .ok (.if_icmp .ne 16, 3) := by decide +kernel
theorem dX9_care_23 : decode cX9_care 23 = .ok (.iload_n 1, 1) := by decide +kernel
theorem dX9_care_24 : decode cX9_care 24 = .ok (.iconst 1, 1) := by decide +kernel
theorem dX9_care_25 : decode cX9_care 25 = .ok (.if_icmp .le 7, 3) := by decide +kernel
theorem dX9_care_28 : decode cX9_care 28 = .ok (.iconst 1, 1) := by decide +kernel
theorem dX9_care_29 : decode cX9_care 29 = .ok (.goto 8, 3) := by decide +kernel
theorem dX9_care_32 : decode cX9_care 32 = .ok (.iconst 0, 1) := by decide +kernel
theorem dX9_care_33 : decode cX9_care 33 = .ok (.goto 4, 3) := by decide +kernel
theorem dX9_care_36 : decode cX9_care 36 = .ok (.iconst 1, 1) := by decide +kernel
theorem dX9_care_37 : decode cX9_care 37 = .ok (.ireturn, 1) := by decide +kernel
set_option maxRecDepth 20000 in
theorem ggX9_others_X9_ones : GoodIn wsX9_others wsX9_ones := goodIn_r _ [6] (by decide +kernel) (by decide +kernel)
set_option maxRecDepth 20000 in
theorem gX9_others_X9_ones : GoodIn wsX9_others (va_wsS RX9 141 yX9_ones wsX9_ones) := goodIn_app (goodIn_of _ (by decide +kernel)) ggX9_others_X9_ones
theorem dX9_others_0 : decode cX9_others 0 = .ok (.aload_n 0, 1) := by decide +kernel
theorem dX9_others_1 : decode cX9_others 1 = .ok (.getfield 19, 3) := by decide +kernel
theorem dX9_others_4 : decode cX9_others 4 = .ok (.bipush 6, 2) := by decide +kernel
theorem dX9_others_6 : decode cX9_others 6 = .ok (.iload_n 1, 1) := by decide +kernel
theorem dX9_others_7 : decode cX9_others 7 = .ok (.iadd, 1) := by decide +kernel
theorem dX9_others_8 : decode cX9_others 8 = .ok (.iaload, 1) := by decide +kernel
theorem dX9_others_9 : decode cX9_others 9 = .ok (.iconst 1, 1) := by decide +kernel
theorem dX9_others_10 : decode cX9_others 10 = .ok (.aload_n 0, 1) := by decide +kernel
theorem dX9_others_11 : decode cX9_others 11 = .ok (.getfield 13, 3) := by decide +kernel
theorem dX9_others_14 : decode cX9_others 14 = .ok (.bipush 21, 2) := by decide +kernel
theorem dX9_others_16 : decode cX9_others 16 = .ok (.iload_n 1, 1) := by decide +kernel
theorem dX9_others_17 : decode cX9_others 17 = .ok (.iadd, 1) := by decide +kernel
theorem dX9_others_18 : decode cX9_others 18 = .ok (.iaload, 1) := by decide +kernel
theorem dX9_others_19 : decode cX9_others 19 = .ok (.ishl, 1) := by decide +kernel
theorem dX9_others_20 : decode cX9_others 20 = .ok (.iconst (-1), 1) := by decide +kernel
theorem dX9_others_21 : decode cX9_others 21 = .ok (.ixor, 1) := by decide +kernel
theorem dX9_others_22 : decode cX9_others 22 = .ok (.iand, 1) := by decide +kernel
theorem dX9_others_23 : decode cX9_others 23 = .ok (.invokestatic 141, 3) := by decide +kernel
theorem dX9_others_26 : decode cX9_others 26 = .ok (.ireturn, 1) := by decide +kernel
set_option maxRecDepth 20000 in
theorem ggX9_shades_X9_others : GoodIn wsX9_shades wsX9_others := goodIn_r _ [6, 7, 1, 8, 9, 5, 10, 22, 23, 24, 25, 26, 27, 28, 29, 30, 31, 32, 33, 34, 35, 36, 37, 38, 39, 40, 41] (by decide +kernel) (by decide +kernel)
set_option maxRecDepth 20000 in
theorem gX9_shades_X9_others : GoodIn wsX9_shades (wsV RX9 144 RX9 yX9_others wsX9_others) := goodIn_app (goodIn_of _ (by decide +kernel)) ggX9_shades_X9_others
set_option maxRecDepth 20000 in
theorem ggX9_shades_X9_knows : GoodIn wsX9_shades wsX9_knows := goodIn_r _ [14, 7, 22, 23, 24, 25, 26, 27, 28, 29, 30, 31, 32, 33, 34, 35, 36, 37, 38, 39, 40, 41] (by decide +kernel) (by decide +kernel)
set_option maxRecDepth 20000 in
theorem gX9_shades_X9_knows : GoodIn wsX9_shades (wsV RX9 122 RX9 yX9_knows wsX9_knows) := goodIn_app (goodIn_of _ (by decide +kernel)) ggX9_shades_X9_knows
set_option maxRecDepth 20000 in
theorem ggX9_shades_X9_care : GoodIn wsX9_shades wsX9_care := goodIn_r _ [17] (by decide +kernel) (by decide +kernel)
set_option maxRecDepth 20000 in
theorem gX9_shades_X9_care : GoodIn wsX9_shades (va_wsS RX9 147 yX9_care wsX9_care) := goodIn_app (goodIn_of _ (by decide +kernel)) ggX9_shades_X9_care
set_option maxRecDepth 20000 in
theorem ggX9_shades_X9_isAlive : GoodIn wsX9_shades wsX9_isAlive := goodIn_r _ [21, 7, 1, 22, 23, 24, 25, 26, 27, 28, 29, 30, 31, 32, 33, 34, 35, 36, 37, 38, 39, 40, 41] (by decide +kernel) (by decide +kernel)
set_option maxRecDepth 20000 in
theorem gX9_shades_X9_isAlive : GoodIn wsX9_shades (wsV RX9 116 RX9 yX9_isAlive wsX9_isAlive) := goodIn_app (goodIn_of _ (by decide +kernel)) ggX9_shades_X9_isAlive
theorem dX9_shades_0 : decode cX9_shades 0 = .ok (.iconst 0, 1) := by decide +kernel
theorem dX9_shades_1 : decode cX9_shades 1 = .ok (.istore_n 3, 1) := by decide +kernel
theorem dX9_shades_2 : decode cX9_shades 2 = .ok (.aload_n 0, 1) := by decide +kernel
theorem dX9_shades_3 : decode cX9_shades 3 = .ok (.iload_n 1, 1) := by decide +kernel
theorem dX9_shades_4 : decode cX9_shades 4 = .ok (.invokevirtual 144, 3) := by decide +kernel
theorem dX9_shades_7 : decode cX9_shades 7 = .ok (.istore 4, 2) := by decide +kernel
theorem dX9_shades_9 : decode cX9_shades 9 = .ok (.iconst 0, 1) := by decide +kernel
theorem dX9_shades_10 : decode cX9_shades 10 = .ok (.istore 5, 2) := by decide +kernel
theorem dX9_shades_12 : decode cX9_shades 12 = .ok (.iload 5, 2) := by decide +kernel
theorem dX9_shades_14 : decode cX9_shades 14 = .ok (.aload_n 0, 1) := by decide +kernel
theorem dX9_shades_15 : decode cX9_shades 15 = .ok (.getfield 13, 3) := by decide +kernel
theorem dX9_shades_18 : decode cX9_shades 18 = .ok (.iconst 0, 1) := by decide +kernel
theorem dX9_shades_19 : decode cX9_shades 19 = .ok (.iaload, 1) := by decide +kernel
theorem dX9_shades_20 : decode cX9_shades 20 = .ok (.if_icmp .ge 57, 3) := by decide +kernel
theorem dX9_shades_23 : decode cX9_shades 23 = .ok (.iload_n 2, 1) := by decide +kernel
theorem dX9_shades_24 : decode cX9_shades 24 = .ok (.iload 5, 2) := by decide +kernel
theorem dX9_shades_26 : decode cX9_shades 26 = .ok (.ishr, 1) := by decide +kernel
theorem dX9_shades_27 : decode cX9_shades 27 = .ok (.iconst 1, 1) := by decide +kernel
theorem dX9_shades_28 : decode cX9_shades 28 = .ok (.iand, 1) := by decide +kernel
theorem dX9_shades_29 : decode cX9_shades 29 = .ok (.iconst 1, 1) := by decide +kernel
theorem dX9_shades_30 : decode cX9_shades 30 = .ok (.if_icmp .ne 41, 3) := by decide +kernel
theorem dX9_shades_33 : decode cX9_shades 33 = .ok (.aload_n 0, 1) := by decide +kernel
theorem dX9_shades_34 : decode cX9_shades 34 = .ok (.iload 5, 2) := by decide +kernel
theorem dX9_shades_36 : decode cX9_shades 36 = .ok (.iload_n 1, 1) := by decide +kernel
theorem dX9_shades_37 : decode cX9_shades 37 = .ok (.invokevirtual 122, 3) := by decide +kernel
theorem dX9_shades_40 : decode cX9_shades 40 = .ok (.ifCond .ne 31, 3) := by decide +kernel
theorem dX9_shades_43 : decode cX9_shades 43 = .ok (.iload_n 3, 1) := by decide +kernel
theorem dX9_shades_44 : decode cX9_shades 44 = .ok (.aload_n 0, 1) := by decide +kernel
theorem dX9_shades_45 : decode cX9_shades 45 = .ok (.getfield 13, 3) := by decide +kernel
theorem dX9_shades_48 : decode cX9_shades 48 = .ok (.bipush 9, 2) := by decide +kernel
theorem dX9_shades_50 : decode cX9_shades 50 = .ok (.aload_n 0, 1) := by decide +kernel
theorem dX9_shades_51 : decode cX9_shades 51 = .ok (.getfield 13, 3) := by decide +kernel
theorem dX9_shades_54 : decode cX9_shades 54 = .ok (.bipush 21, 2) := by decide +kernel
theorem dX9_shades_56 : decode cX9_shades 56 = .ok (.iload_n 1, 1) := by decide +kernel
theorem dX9_shades_57 : decode cX9_shades 57 = .ok (.iadd, 1) := by decide +kernel
theorem dX9_shades_58 : decode cX9_shades 58 = .ok (.iaload, 1) := by decide +kernel
theorem dX9_shades_59 : decode cX9_shades 59 = .ok (.iadd, 1) := by decide +kernel
theorem dX9_shades_60 : decode cX9_shades 60 = .ok (.iaload, 1) := by decide +kernel
theorem dX9_shades_61 : decode cX9_shades 61 = .ok (.iload 4, 2) := by decide +kernel
theorem dX9_shades_63 : decode cX9_shades 63 = .ok (.invokestatic 147, 3) := by decide +kernel
theorem dX9_shades_66 : decode cX9_shades 66 = .ok (.iadd, 1) := by decide +kernel
theorem dX9_shades_67 : decode cX9_shades 67 = .ok (.istore_n 3, 1) := by decide +kernel
theorem dX9_shades_68 : decode cX9_shades 68 = .ok (.iinc 4 1, 3) := by decide +kernel
theorem dX9_shades_71 : decode cX9_shades 71 = .ok (.iinc 5 1, 3) := by decide +kernel
theorem dX9_shades_74 : decode cX9_shades 74 = .ok (.goto (-62), 3) := by decide +kernel
theorem dX9_shades_77 : decode cX9_shades 77 = .ok (.aload_n 0, 1) := by decide +kernel
theorem dX9_shades_78 : decode cX9_shades 78 = .ok (.aload_n 0, 1) := by decide +kernel
theorem dX9_shades_79 : decode cX9_shades 79 = .ok (.getfield 13, 3) := by decide +kernel
theorem dX9_shades_82 : decode cX9_shades 82 = .ok (.bipush 21, 2) := by decide +kernel
theorem dX9_shades_84 : decode cX9_shades 84 = .ok (.iload_n 1, 1) := by decide +kernel
theorem dX9_shades_85 : decode cX9_shades 85 = .ok (.iadd, 1) := by decide +kernel
theorem dX9_shades_86 : decode cX9_shades 86 = .ok (.iaload, 1) := by decide +kernel
theorem dX9_shades_87 : decode cX9_shades 87 = .ok (.invokevirtual 116, 3) := by decide +kernel
theorem dX9_shades_90 : decode cX9_shades 90 = .ok (.ifCond .eq 7, 3) := by decide +kernel
theorem dX9_shades_93 : decode cX9_shades 93 = .ok (.iload_n 3, 1) := by decide +kernel
theorem dX9_shades_94 : decode cX9_shades 94 = .ok (.goto 4, 3) := by decide +kernel
theorem dX9_shades_97 : decode cX9_shades 97 = .ok (.iconst 0, 1) := by decide +kernel
theorem dX9_shades_98 : decode cX9_shades 98 = .ok (.ireturn, 1) := by decide +kernel
set_option maxRecDepth 20000 in
theorem ggX9_tells_X9_shades : GoodIn wsX9_tells wsX9_shades := goodIn_r _ [7, 1, 8, 9, 10, 6, 11, 2, 12, 13, 14, 15, 16, 17, 18, 19, 20, 21, 22, 23, 24, 25, 26, 27, 28, 29, 30, 31, 32, 33, 34, 35, 36, 37, 38, 39, 40, 41, 42, 43, 44, 45] (by decide +kernel) (by decide +kernel)

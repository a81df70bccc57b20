theorem dX4_push_30 : decode cX4_push 30 = .ok (.aaload, 1) := by decide +kernel
theorem dX4_push_31 : decode cX4_push 31 = .ok (.invokevirtual 20, 3) := by decide +kernel
theorem dX4_push_34 : decode cX4_push 34 = .ok (.aload_n 0, 1) := by decide +kernel
theorem dX4_push_35 : decode cX4_push 35 = .ok (.dup, 1) := by decide +kernel
theorem dX4_push_36 : decode cX4_push 36 = .ok (.getfield 7, 3) := by decide +kernel
theorem dX4_push_39 : decode cX4_push 39 = .ok (.iconst 1, 1) := by decide +kernel
theorem dX4_push_40 : decode cX4_push 40 = .ok (.iadd, 1) := by decide +kernel
theorem dX4_push_41 : decode cX4_push 41 = .ok (.putfield 7, 3) := by decide +kernel
theorem dX4_push_44 : decode cX4_push 44 = .ok (.iconst 1, 1) := by decide +kernel
theorem dX4_push_45 : decode cX4_push 45 = .ok (.ireturn, 1) := by decide +kernel
set_option maxRecDepth 20000 in
theorem ggX4_pushDroppingOldest_X4_push : GoodIn wsX4_pushDroppingOldest wsX4_push := goodIn_r _ [11, 1, 2, 12, 13, 14, 15, 16, 17, 18, 19, 20, 21] (by decide +kernel) (by decide +kernel)
set_option maxRecDepth 20000 in
theorem gX4_pushDroppingOldest_X4_push : GoodIn wsX4_pushDroppingOldest (wsV RX4 30 RX4 yX4_push wsX4_push) := goodIn_app (goodIn_of _ (by decide +kernel)) ggX4_pushDroppingOldest_X4_push
theorem dX4_pushDroppingOldest_0 : decode cX4_pushDroppingOldest 0 = .ok (.aload_n 0, 1) := by decide +kernel
theorem dX4_pushDroppingOldest_1 : decode cX4_pushDroppingOldest 1 = .ok (.getfield 7, 3) := by decide +kernel
theorem dX4_pushDroppingOldest_4 : decode cX4_pushDroppingOldest 4 = .ok (.aload_n 0, 1) := by decide +kernel
theorem dX4_pushDroppingOldest_5 : decode cX4_pushDroppingOldest 5 = .ok (.getfield 17, 3) := by decide +kernel
theorem dX4_pushDroppingOldest_8 : decode cX4_pushDroppingOldest 8 = .ok (.arraylength, 1) := by decide +kernel
theorem dX4_pushDroppingOldest_9 : decode cX4_pushDroppingOldest 9 = .ok (.if_icmp .lt 52, 3) := by decide +kernel
theorem dX4_pushDroppingOldest_12 : decode cX4_pushDroppingOldest 12 = .ok (.iconst 1, 1) := by decide +kernel
theorem dX4_pushDroppingOldest_13 : decode cX4_pushDroppingOldest 13 = .ok (.istore_n 2, 1) := by decide +kernel
theorem dX4_pushDroppingOldest_14 : decode cX4_pushDroppingOldest 14 = .ok (.iload_n 2, 1) := by decide +kernel
theorem dX4_pushDroppingOldest_15 : decode cX4_pushDroppingOldest 15 = .ok (.aload_n 0, 1) := by decide +kernel
theorem dX4_pushDroppingOldest_16 : decode cX4_pushDroppingOldest 16 = .ok (.getfield 17, 3) := by decide +kernel
theorem dX4_pushDroppingOldest_19 : decode cX4_pushDroppingOldest 19 = .ok (.arraylength, 1) := by decide +kernel
theorem dX4_pushDroppingOldest_20 : decode cX4_pushDroppingOldest 20 = .ok (.if_icmp .ge 30, 3) := by decide +kernel
theorem dX4_pushDroppingOldest_23 : decode cX4_pushDroppingOldest 23 = .ok (.aload_n 0, 1) := by decide +kernel
theorem dX4_pushDroppingOldest_24 : decode cX4_pushDroppingOldest 24 = .ok (.getfield 17, 3) := by decide +kernel
theorem dX4_pushDroppingOldest_27 : decode cX4_pushDroppingOldest 27 = .ok (.iload_n 2, 1) := by decide +kernel
theorem dX4_pushDroppingOldest_28 : decode cX4_pushDroppingOldest 28 = .ok (.aaload, 1) := by decide +kernel
theorem dX4_pushDroppingOldest_29 : decode cX4_pushDroppingOldest 29 = .ok (.iconst 0, 1) := by decide +kernel
theorem dX4_pushDroppingOldest_30 : decode cX4_pushDroppingOldest 30 = .ok (.aload_n 0, 1) := by decide +kernel
theorem dX4_pushDroppingOldest_31 : decode cX4_pushDroppingOldest 31 = .ok (.getfield 17, 3) := by decide +kernel
theorem dX4_pushDroppingOldest_34 : decode cX4_pushDroppingOldest 34 = .ok (.iload_n 2, 1) := by decide +kernel
theorem dX4_pushDroppingOldest_35 : decode cX4_pushDroppingOldest 35 = .ok (.iconst 1, 1) := by decide +kernel
theorem dX4_pushDroppingOldest_36 : decode cX4_pushDroppingOldest 36 = .ok (.isub, 1) := by decide +kernel
theorem dX4_pushDroppingOldest_37 : decode cX4_pushDroppingOldest 37 = .ok (.aaload, 1) := by decide +kernel
theorem dX4_pushDroppingOldest_38 : decode cX4_pushDroppingOldest 38 = .ok (.iconst 0, 1) := by decide +kernel
theorem dX4_pushDroppingOldest_39 : decode cX4_pushDroppingOldest 39 = .ok (.bipush 15, 2) := by decide +kernel
theorem dX4_pushDroppingOldest_41 : decode cX4_pushDroppingOldest 41 = .ok (.invokestatic 24, 3) := by decide +kernel
theorem dX4_pushDroppingOldest_44 : decode cX4_pushDroppingOldest 44 = .ok (.iinc 2 1, 3) := by decide +kernel
theorem dX4_pushDroppingOldest_47 : decode cX4_pushDroppingOldest 47 = .ok (.goto (-33), 3) := by decide +kernel
theorem dX4_pushDroppingOldest_50 : decode cX4_pushDroppingOldest 50 = .ok (.aload_n 0, 1) := by decide +kernel
theorem dX4_pushDroppingOldest_51 : decode cX4_pushDroppingOldest 51 = .ok (.aload_n 0, 1) := by decide +kernel
theorem dX4_pushDroppingOldest_52 : decode cX4_pushDroppingOldest 52 = .ok (.getfield 17, 3) := by decide +kernel
theorem dX4_pushDroppingOldest_55 : decode cX4_pushDroppingOldest 55 = .ok (.arraylength, 1) := by decide +kernel
theorem dX4_pushDroppingOldest_56 : decode cX4_pushDroppingOldest 56 = .ok (.iconst 1, 1) := by decide +kernel
theorem dX4_pushDroppingOldest_57 : decode cX4_pushDroppingOldest 57 = .ok (.isub, 1) := by decide +kernel
theorem dX4_pushDroppingOldest_58 : decode cX4_pushDroppingOldest 58 = .ok (.putfield 7, 3) := by decide +kernel
theorem dX4_pushDroppingOldest_61 : decode cX4_pushDroppingOldest 61 = .ok (.aload_n 0, 1) := by decide +kernel
theorem dX4_pushDroppingOldest_62 : decode cX4_pushDroppingOldest 62 = .ok (.aload_n 1, 1) := by decide +kernel
theorem dX4_pushDroppingOldest_63 : decode cX4_pushDroppingOldest 63 = .ok (.invokevirtual 30, 3) := by decide +kernel
theorem dX4_pushDroppingOldest_66 : decode cX4_pushDroppingOldest 66 = .ok (.pop, 1) := by decide +kernel
theorem dX4_pushDroppingOldest_67 : decode cX4_pushDroppingOldest 67 = .ok (.return_, 1) := by decide +kernel
set_option maxRecDepth 20000 in
theorem ggX4_pop_X6_copyFrom : GoodIn wsX4_pop wsX6_copyFrom := goodIn_r _ [7, 8, 11, 12] (by decide +kernel) (by decide +kernel)
set_option maxRecDepth 20000 in
theorem gX4_pop_X6_copyFrom : GoodIn wsX4_pop (wsV RX4 34 RX6 yX6_copyFrom wsX6_copyFrom) := goodIn_app (goodIn_of _ (by decide +kernel)) ggX4_pop_X6_copyFrom
theorem dX4_pop_0 : decode cX4_pop 0 = .ok (.aload_n 0, 1) := by decide +kernel
theorem dX4_pop_1 : decode cX4_pop 1 = .ok (.getfield 7, 3) := by decide +kernel
theorem dX4_pop_4 : decode cX4_pop 4 = .ok (.ifCond .le 15, 3) := by decide +kernel
theorem dX4_pop_7 : decode cX4_pop 7 = .ok (.aload_n 0, 1) := by decide +kernel
theorem dX4_pop_8 : decode cX4_pop 8 = .ok (.getfield 7, 3) := by decide +kernel
theorem dX4_pop_11 : decode cX4_pop 11 = .ok (.aload_n 0, 1) := by decide +kernel
theorem dX4_pop_12 : decode cX4_pop 12 = .ok (.getfield 17, 3) := by decide +kernel
theorem dX4_pop_15 : decode cX4_pop 15 = .ok (.arraylength, 1) := by decide +kernel
theorem dX4_pop_16 : decode cX4_pop 16 = .ok (.if_icmp .le 5, 3) := by decide +kernel
theorem dX4_pop_19 : decode cX4_pop 19 = .ok (.iconst 0, 1) := by decide +kernel
theorem dX4_pop_20 : decode cX4_pop 20 = .ok (.ireturn, 1) := by decide +kernel
theorem dX4_pop_21 : decode cX4_pop 21 = .ok (.aload_n 0, 1) := by decide +kernel
theorem dX4_pop_22 : decode cX4_pop 22 = .ok (.dup, 1) := by decide +kernel
theorem dX4_pop_23 : decode cX4_pop 23 = .ok (.getfield 7, 3) := by decide +kernel
theorem dX4_pop_26 : decode cX4_pop 26 = .ok (.iconst 1, 1) := by decide +kernel
theorem dX4_pop_27 : decode cX4_pop 27 = .ok (.isub, 1) := by decide +kernel
theorem dX4_pop_28 : decode cX4_pop 28 = .ok (.putfield 7, 3) := by decide +kernel
theorem dX4_pop_31 : decode cX4_pop 31 = .ok (.aload_n 1, 1) := by decide +kernel
theorem dX4_pop_32 : decode cX4_pop 32 = .ok (.aload_n 0, 1) := by decide +kernel
theorem dX4_pop_33 : decode cX4_pop 33 = .ok (.getfield 17, 3) := by decide +kernel
theorem dX4_pop_36 : decode cX4_pop 36 = .ok (.aload_n 0, 1) := by decide +kernel
theorem dX4_pop_37 : decode cX4_pop 37 = .ok (.getfield 7, 3) := by decide +kernel
theorem dX4_pop_40 : decode cX4_pop 40 = .ok (.aaload, 1) := by decide +kernel
theorem dX4_pop_41 : decode cX4_pop 41 = .ok (.invokevirtual 34, 3) := by decide +kernel
theorem dX4_pop_44 : decode cX4_pop 44 = .ok (.iconst 1, 1) := by decide +kernel
theorem dX4_pop_45 : decode cX4_pop 45 = .ok (.ireturn, 1) := by decide +kernel
theorem dX5_init_0 : decode cX5_init 0 = .ok (.aload_n 0, 1) := by decide +kernel
theorem dX5_init_1 : decode cX5_init 1 = .ok (.invokespecial 3, 3) := by decide +kernel
theorem dX5_init_4 : decode cX5_init 4 = .ok (.aload_n 0, 1) := by decide +kernel
theorem dX5_init_5 : decode cX5_init 5 = .ok (.bipush 6, 2) := by decide +kernel
theorem dX5_init_7 : decode cX5_init 7 = .ok (.newarray .int, 2) := by decide +kernel
theorem dX5_init_9 : decode cX5_init 9 = .ok (.putfield 9, 3) := by decide +kernel
theorem dX5_init_12 : decode cX5_init 12 = .ok (.aload_n 0, 1) := by decide +kernel
theorem dX5_init_13 : decode cX5_init 13 = .ok (.bipush 6, 2) := by decide +kernel
theorem dX5_init_15 : decode cX5_init 15 = .ok (.newarray .int, 2) := by decide +kernel
theorem dX5_init_17 : decode cX5_init 17 = .ok (.putfield 15, 3) := by decide +kernel
theorem dX5_init_20 : decode cX5_init 20 = .ok (.aload_n 0, 1) := by decide +kernel
theorem dX5_init_21 : decode cX5_init 21 = .ok (.bipush 6, 2) := by decide +kernel
theorem dX5_init_23 : decode cX5_init 23 = .ok (.newarray .int, 2) := by decide +kernel
theorem dX5_init_25 : decode cX5_init 25 = .ok (.putfield 18, 3) := by decide +kernel
theorem dX5_init_28 : decode cX5_init 28 = .ok (.aload_n 0, 1) := by decide +kernel
theorem dX5_init_29 : decode cX5_init 29 = .ok (.iconst 0, 1) := by decide +kernel
theorem dX5_init_30 : decode cX5_init 30 = .ok (.putfield 21, 3) := by decide +kernel
theorem dX5_init_33 : decode cX5_init 33 = .ok (.return_, 1) := by decide +kernel
theorem dX5_size_0 : decode cX5_size 0 = .ok (.aload_n 0, 1) := by decide +kernel
theorem dX5_size_1 : decode cX5_size 1 = .ok (.getfield 21, 3) := by decide +kernel
theorem dX5_size_4 : decode cX5_size 4 = .ok (.ireturn, 1) := by decide +kernel
theorem dX5_clear_0 : decode cX5_clear 0 = .ok (.aload_n 0, 1) := by decide +kernel
theorem dX5_clear_1 : decode cX5_clear 1 = .ok (.iconst 0, 1) := by decide +kernel
theorem dX5_clear_2 : decode cX5_clear 2 = .ok (.putfield 21, 3) := by decide +kernel
theorem dX5_clear_5 : decode cX5_clear 5 = .ok (.return_, 1) := by decide +kernel
theorem dX5_add_0 : decode cX5_add 0 = .ok (.aload_n 0, 1) := by decide +kernel
theorem dX5_add_1 : decode cX5_add 1 = .ok (.getfield 21, 3) := by decide +kernel
theorem dX5_add_4 : decode cX5_add 4 = .ok (.ifCond .lt 12, 3) := by decide +kernel
theorem dX5_add_7 : decode cX5_add 7 = .ok (.aload_n 0, 1) := by decide +kernel
theorem dX5_add_8 : decode cX5_add 8 = .ok (.getfield 21, 3) := by decide +kernel
theorem dX5_add_11 : decode cX5_add 11 = .ok (.bipush 6, 2) := by decide +kernel
theorem dX5_add_13 : decode cX5_add 13 = .ok (.if_icmp .lt 5, 3) := by decide +kernel
theorem dX5_add_16 : decode cX5_add 16 = .ok (.iconst 0, 1) := by decide +kernel
theorem dX5_add_17 : decode cX5_add 17 = .ok (.ireturn, 1) := by decide +kernel
theorem dX5_add_18 : decode cX5_add 18 = .ok (.aload_n 0, 1) := by decide +kernel
theorem dX5_add_19 : decode cX5_add 19 = .ok (.getfield 9, 3) := by decide +kernel
theorem dX5_add_22 : decode cX5_add 22 = .ok (.aload_n 0, 1) := by decide +kernel
theorem dX5_add_23 : decode cX5_add 23 = .ok (.getfield 21, 3) := by decide +kernel
theorem dX5_add_26 : decode cX5_add 26 = .ok (.iload_n 1, 1) := by decide +kernel
theorem dX5_add_27 : decode cX5_add 27 = .ok (.iastore, 1) := by decide +kernel
theorem dX5_add_28 : decode cX5_add 28 = .ok (.aload_n 0, 1) := by decide +kernel
theorem dX5_add_29 : decode cX5_add 29 = .ok (.getfield 15, 3) := by decide +kernel
theorem dX5_add_32 : decode cX5_add 32 = .ok (.aload_n 0, 1) := by decide +kernel
theorem dX5_add_33 : decode cX5_add 33 = .ok (.getfield 21, 3) := by decide +kernel
theorem dX5_add_36 : decode cX5_add 36 = .ok (.iload_n 2, 1) := by decide +kernel
theorem dX5_add_37 : decode cX5_add 37 = .ok (.iastore, 1) := by decide +kernel
theorem dX5_add_38 : decode cX5_add 38 = .ok (.aload_n 0, 1) := by decide +kernel
theorem dX5_add_39 : decode cX5_add 39 = .ok (.getfield 18, 3) := by decide +kernel
theorem dX5_add_42 : decode cX5_add 42 = .ok (.aload_n 0, 1) := by decide +kernel
theorem dX5_add_43 : decode cX5_add 43 = .ok (.getfield 21, 3) := by decide +kernel
theorem dX5_add_46 : decode cX5_add 46 = .ok (.iload_n 3, 1) := by decide +kernel
theorem dX5_add_47 : decode cX5_add 47 = .ok (.iastore, 1) := by decide +kernel
theorem dX5_add_48 : decode cX5_add 48 = .ok (.aload_n 0, 1) := by decide +kernel
theorem dX5_add_49 : decode cX5_add 49 = .ok (.dup, 1) := by decide +kernel
theorem dX5_add_50 : decode cX5_add 50 = .ok (.getfield 21, 3) := by decide +kernel
theorem dX5_add_53 : decode cX5_add 53 = .ok (.iconst 1, 1) := by decide +kernel
theorem dX5_add_54 : decode cX5_add 54 = .ok (.iadd, 1) := by decide +kernel
theorem dX5_add_55 : decode cX5_add 55 = .ok (.putfield 21, 3) := by decide +kernel
theorem dX5_add_58 : decode cX5_add 58 = .ok (.iconst 1, 1) := by decide +kernel
theorem dX5_add_59 : decode cX5_add 59 = .ok (.ireturn, 1) := by decide +kernel
set_option maxRecDepth 20000 in
theorem ggX5_possibleKinds_X5_fits : GoodIn wsX5_possibleKinds wsX5_fits := goodIn_r _ [5, 6, 7, 8, 9, 10, 11, 12, 13, 14, 15, 16, 17, 18, 19] (by decide +kernel) (by decide +kernel)
set_option maxRecDepth 20000 in
theorem gX5_possibleKinds_X5_fits : GoodIn wsX5_possibleKinds (wsV RX5 25 RX5 yX5_fits wsX5_fits) := goodIn_app (goodIn_of _ (by decide +kernel)) ggX5_possibleKinds_X5_fits
theorem dX5_possibleKinds_0 : decode cX5_possibleKinds 0 = .ok (.iconst 0, 1) := by decide +kernel
theorem dX5_possibleKinds_1 : decode cX5_possibleKinds 1 = .ok (.istore_n 2, 1) := by decide +kernel
theorem dX5_possibleKinds_2 : decode cX5_possibleKinds 2 = .ok (.iconst 0, 1) := by decide +kernel
theorem dX5_possibleKinds_3 : decode cX5_possibleKinds 3 = .ok (.istore_n 3, 1) := by decide +kernel
theorem dX5_possibleKinds_4 : decode cX5_possibleKinds 4 = .ok (.iload_n 3, 1) := by decide +kernel
theorem dX5_possibleKinds_5 : decode cX5_possibleKinds 5 = .ok (.iconst 5, 1) := by decide +kernel
theorem dX5_possibleKinds_6 : decode cX5_possibleKinds 6 = .ok (.if_icmp .ge 24, 3) := by decide +kernel
theorem dX5_possibleKinds_9 : decode cX5_possibleKinds 9 = .ok (.aload_n 0, 1) := by decide +kernel
theorem dX5_possibleKinds_10 : decode cX5_possibleKinds 10 = .ok (.iload_n 1, 1) := by decide +kernel
theorem dX5_possibleKinds_11 : decode cX5_possibleKinds 11 = .ok (.iload_n 3, 1) := by decide +kernel
theorem dX5_possibleKinds_12 : decode cX5_possibleKinds 12 = .ok (.invokevirtual 25, 3) := by decide +kernel
theorem dX5_possibleKinds_15 : decode cX5_possibleKinds 15 = .ok (.ifCond .eq 9, 3) := by decide +kernel
theorem dX5_possibleKinds_18 : decode cX5_possibleKinds 18 = .ok (.iload_n 2, 1) := by decide +kernel
theorem dX5_possibleKinds_19 : decode cX5_possibleKinds 19 = .ok (.iconst 1, 1) := by decide +kernel
theorem dX5_possibleKinds_20 : decode cX5_possibleKinds 20 = .ok (.iload_n 3, 1) := by decide +kernel
theorem dX5_possibleKinds_21 : decode cX5_possibleKinds 21 = .ok (.ishl, 1) := by decide +kernel
theorem dX5_possibleKinds_22 : decode cX5_possibleKinds 22 = .ok (.ior, 1) := by decide +kernel
theorem dX5_possibleKinds_23 : decode cX5_possibleKinds 23 = .ok (.istore_n 2, 1) := by decide +kernel
theorem dX5_possibleKinds_24 : decode cX5_possibleKinds 24 = .ok (.iinc 3 1, 3) := by decide +kernel
theorem dX5_possibleKinds_27 : decode cX5_possibleKinds 27 = .ok (.goto (-23), 3) := by decide +kernel
theorem dX5_possibleKinds_30 : decode cX5_possibleKinds 30 = .ok (.iload_n 2, 1) := by decide +kernel
theorem dX5_possibleKinds_31 : decode cX5_possibleKinds 31 = .ok (.ireturn, 1) := by decide +kernel
set_option maxRecDepth 20000 in
theorem ggX5_fits_X8_careForMany : GoodIn wsX5_fits wsX8_careForMany := goodIn_r _ [7, 8, 9, 6, 10] (by decide +kernel) (by decide +kernel)
set_option maxRecDepth 20000 in
theorem gX5_fits_X8_careForMany_n29 : GoodIn wsX5_fits (wsX8_careForMany) := ggX5_fits_X8_careForMany
theorem dX5_fits_0 : decode cX5_fits 0 = .ok (.iconst 0, 1) := by decide +kernel
theorem dX5_fits_1 : decode cX5_fits 1 = .ok (.istore_n 3, 1) := by decide +kernel
theorem dX5_fits_2 : decode cX5_fits 2 = .ok (.iload_n 3, 1) := by decide +kernel
theorem dX5_fits_3 : decode cX5_fits 3 = .ok (.bipush 6, 2) := by decide +kernel
theorem dX5_fits_5 : decode cX5_fits 5 = .ok (.if_icmp .ge 49, 3) := by decide +kernel
theorem dX5_fits_8 : decode cX5_fits 8 = .ok (.iload_n 3, 1) := by decide +kernel
theorem dX5_fits_9 : decode cX5_fits 9 = .ok (.aload_n 0, 1) := by decide +kernel
theorem dX5_fits_10 : decode cX5_fits 10 = .ok (.getfield 21, 3) := by decide +kernel
theorem dX5_fits_13 : decode cX5_fits 13 = .ok (.if_icmp .ge 35, 3) := by decide +kernel
theorem dX5_fits_16 : decode cX5_fits 16 = .ok (.aload_n 0, 1) := by decide +kernel
theorem dX5_fits_17 : decode cX5_fits 17 = .ok (.getfield 9, 3) := by decide +kernel
theorem dX5_fits_20 : decode cX5_fits 20 = .ok (.iload_n 3, 1) := by decide +kernel
theorem dX5_fits_21 : decode cX5_fits 21 = .ok (.iaload, 1) := by decide +kernel
theorem dX5_fits_22 : decode cX5_fits 22 = .ok (.iload_n 1, 1) := by decide +kernel
theorem dX5_fits_23 : decode cX5_fits 23 = .ok (.if_icmp .ne 25, 3) := by decide +kernel
theorem dX5_fits_26 : decode cX5_fits 26 = .ok (.iload_n 2, 1) := by decide +kernel
theorem dX5_fits_27 : decode cX5_fits 27 = .ok (.iconst 0, 1) := by decide +kernel
theorem dX5_fits_28 : decode cX5_fits 28 = .ok (.aload_n 0, 1) := by decide +kernel
theorem dX5_fits_29 : decode cX5_fits 29 = .ok (.getfield 15, 3) := by decide +kernel
theorem dX5_fits_32 : decode cX5_fits 32 = .ok (.iload_n 3, 1) := by decide +kernel
theorem dX5_fits_33 : decode cX5_fits 33 = .ok (.iaload, 1) := by decide +kernel
theorem dX5_fits_34 : decode cX5_fits 34 = .ok (.invokestatic 29, 3) := by decide +kernel
theorem dX5_fits_37 : decode cX5_fits 37 = .ok (.aload_n 0, 1) := by decide +kernel
theorem dX5_fits_38 : decode cX5_fits 38 = .ok (.getfield 18, 3) := by decide +kernel
theorem dX5_fits_41 : decode cX5_fits 41 = .ok (.iload_n 3, 1) := by decide +kernel
theorem dX5_fits_42 : decode cX5_fits 42 = .ok (.iaload, 1) := by decide +kernel
theorem dX5_fits_43 : decode cX5_fits 43 = .ok (.if_icmp .eq 5, 3) := by decide +kernel
theorem dX5_fits_46 : decode cX5_fits 46 = .ok (.iconst 0, 1) := by decide +kernel
theorem dX5_fits_47 : decode cX5_fits 47 = .ok (.ireturn, 1) := by decide +kernel
theorem dX5_fits_48 : decode cX5_fits 48 = .ok (.iinc 3 1, 3) := by decide +kernel
theorem dX5_fits_51 : decode cX5_fits 51 = .ok (.goto (-49), 3) := by decide +kernel
theorem dX5_fits_54 : decode cX5_fits 54 = .ok (.iconst 1, 1) := by decide +kernel
theorem dX5_fits_55 : decode cX5_fits 55 = .ok (.ireturn, 1) := by decide +kernel
theorem dX6_init_0 : decode cX6_init 0 = .ok (.aload_n 0, 1) := by decide +kernel
theorem dX6_init_1 : decode cX6_init 1 = .ok (.invokespecial 5, 3) := by decide +kernel
theorem dX6_init_4 : decode cX6_init 4 = .ok (.aload_n 0, 1) := by decide +kernel
theorem dX6_init_5 : decode cX6_init 5 = .ok (.bipush 15, 2) := by decide +kernel
theorem dX6_init_7 : decode cX6_init 7 = .ok (.newarray .int, 2) := by decide +kernel
theorem dX6_init_9 : decode cX6_init 9 = .ok (.putfield 11, 3) := by decide +kernel
theorem dX6_init_12 : decode cX6_init 12 = .ok (.aload_n 0, 1) := by decide +kernel
theorem dX6_init_13 : decode cX6_init 13 = .ok (.aload_n 1, 1) := by decide +kernel
theorem dX6_init_14 : decode cX6_init 14 = .ok (.putfield 15, 3) := by decide +kernel
theorem dX6_init_17 : decode cX6_init 17 = .ok (.return_, 1) := by decide +kernel
set_option maxRecDepth 20000 in
theorem ggX6_begin_X7_firstAgeOf : GoodIn wsX6_begin wsX7_firstAgeOf := goodIn_r _ [7, 8, 9, 10, 11, 6, 12, 13, 26, 27, 28, 29, 30, 31, 32, 33] (by decide +kernel) (by decide +kernel)
set_option maxRecDepth 20000 in
theorem gX6_begin_X7_firstAgeOf : GoodIn wsX6_begin (wsV RX6 19 RX7 yX7_firstAgeOf wsX7_firstAgeOf) := goodIn_app (goodIn_of _ (by decide +kernel)) ggX6_begin_X7_firstAgeOf
set_option maxRecDepth 20000 in
theorem ggX6_begin_X7_firstKnowersOf : GoodIn wsX6_begin wsX7_firstKnowersOf := goodIn_r _ [17, 18, 13, 19, 20, 21, 6, 22, 23, 26, 27, 28, 29, 30, 31, 32, 33] (by decide +kernel) (by decide +kernel)
set_option maxRecDepth 20000 in
theorem gX6_begin_X7_firstKnowersOf : GoodIn wsX6_begin (wsV RX6 25 RX7 yX7_firstKnowersOf wsX7_firstKnowersOf) := goodIn_app (goodIn_of _ (by decide +kernel)) ggX6_begin_X7_firstKnowersOf
theorem dX6_begin_0 : decode cX6_begin 0 = .ok (.iconst 0, 1) := by decide +kernel
theorem dX6_begin_1 : decode cX6_begin 1 = .ok (.istore_n 1, 1) := by decide +kernel
theorem dX6_begin_2 : decode cX6_begin 2 = .ok (.iload_n 1, 1) := by decide +kernel
theorem dX6_begin_3 : decode cX6_begin 3 = .ok (.bipush 6, 2) := by decide +kernel
theorem dX6_begin_5 : decode cX6_begin 5 = .ok (.if_icmp .ge 23, 3) := by decide +kernel
theorem dX6_begin_8 : decode cX6_begin 8 = .ok (.aload_n 0, 1) := by decide +kernel
theorem dX6_begin_9 : decode cX6_begin 9 = .ok (.getfield 11, 3) := by decide +kernel
theorem dX6_begin_12 : decode cX6_begin 12 = .ok (.iload_n 1, 1) := by decide +kernel
theorem dX6_begin_13 : decode cX6_begin 13 = .ok (.aload_n 0, 1) := by decide +kernel
theorem dX6_begin_14 : decode cX6_begin 14 = .ok (.getfield 15, 3) := by decide +kernel
theorem dX6_begin_17 : decode cX6_begin 17 = .ok (.iload_n 1, 1) := by decide +kernel
theorem dX6_begin_18 : decode cX6_begin 18 = .ok (.invokevirtual 19, 3) := by decide +kernel
theorem dX6_begin_21 : decode cX6_begin 21 = .ok (.iastore, 1) := by decide +kernel
theorem dX6_begin_22 : decode cX6_begin 22 = .ok (.iinc 1 1, 3) := by decide +kernel
theorem dX6_begin_25 : decode cX6_begin 25 = .ok (.goto (-23), 3) := by decide +kernel
theorem dX6_begin_28 : decode cX6_begin 28 = .ok (.iconst 0, 1) := by decide +kernel
theorem dX6_begin_29 : decode cX6_begin 29 = .ok (.istore_n 1, 1) := by decide +kernel
theorem dX6_begin_30 : decode cX6_begin 30 = .ok (.iload_n 1, 1) := by decide +kernel
theorem dX6_begin_31 : decode cX6_begin 31 = .ok (.bipush 8, 2) := by decide +kernel
theorem dX6_begin_33 : decode cX6_begin 33 = .ok (.if_icmp .ge 26, 3) := by decide +kernel
theorem dX6_begin_36 : decode cX6_begin 36 = .ok (.aload_n 0, 1) := by decide +kernel
theorem dX6_begin_37 : decode cX6_begin 37 = .ok (.getfield 11, 3) := by decide +kernel
theorem dX6_begin_40 : decode cX6_begin 40 = .ok (.bipush 6, 2) := by decide +kernel
theorem dX6_begin_42 : decode cX6_begin 42 = .ok (.iload_n 1, 1) := by decide +kernel
theorem dX6_begin_43 : decode cX6_begin 43 = .ok (.iadd, 1) := by decide +kernel
theorem dX6_begin_44 : decode cX6_begin 44 = .ok (.aload_n 0, 1) := by decide +kernel
theorem dX6_begin_45 : decode cX6_begin 45 = .ok (.getfield 15, 3) := by decide +kernel
theorem dX6_begin_48 : decode cX6_begin 48 = .ok (.iload_n 1, 1) := by decide +kernel
theorem dX6_begin_49 : decode cX6_begin 49 = .ok (.invokevirtual 25, 3) := by decide +kernel
theorem dX6_begin_52 : decode cX6_begin 52 = .ok (.iastore, 1) := by decide +kernel
theorem dX6_begin_53 : decode cX6_begin 53 = .ok (.iinc 1 1, 3) := by decide +kernel
theorem dX6_begin_56 : decode cX6_begin 56 = .ok (.goto (-26), 3) := by decide +kernel
theorem dX6_begin_59 : decode cX6_begin 59 = .ok (.aload_n 0, 1) := by decide +kernel
theorem dX6_begin_60 : decode cX6_begin 60 = .ok (.getfield 11, 3) := by decide +kernel
theorem dX6_begin_63 : decode cX6_begin 63 = .ok (.bipush 14, 2) := by decide +kernel
theorem dX6_begin_65 : decode cX6_begin 65 = .ok (.iconst 0, 1) := by decide +kernel
theorem dX6_begin_66 : decode cX6_begin 66 = .ok (.iastore, 1) := by decide +kernel
theorem dX6_begin_67 : decode cX6_begin 67 = .ok (.return_, 1) := by decide +kernel
set_option maxRecDepth 20000 in
theorem ggX6_copy_X6_copyInto : GoodIn wsX6_copy wsX6_copyInto := goodIn_r _ [6, 1, 7, 8] (by decide +kernel) (by decide +kernel)
set_option maxRecDepth 20000 in
theorem gX6_copy_X6_copyInto : GoodIn wsX6_copy (wsV RX6 28 RX6 yX6_copyInto wsX6_copyInto) := goodIn_app (goodIn_of _ (by decide +kernel)) ggX6_copy_X6_copyInto
theorem dX6_copy_0 : decode cX6_copy 0 = .ok (.aload_n 1, 1) := by decide +kernel
theorem dX6_copy_1 : decode cX6_copy 1 = .ok (.aload_n 0, 1) := by decide +kernel
theorem dX6_copy_2 : decode cX6_copy 2 = .ok (.getfield 11, 3) := by decide +kernel
theorem dX6_copy_5 : decode cX6_copy 5 = .ok (.invokevirtual 28, 3) := by decide +kernel
theorem dX6_copy_8 : decode cX6_copy 8 = .ok (.return_, 1) := by decide +kernel
theorem dX6_copyInto_0 : decode cX6_copyInto 0 = .ok (.iconst 0, 1) := by decide +kernel
theorem dX6_copyInto_1 : decode cX6_copyInto 1 = .ok (.istore_n 2, 1) := by decide +kernel
theorem dX6_copyInto_2 : decode cX6_copyInto 2 = .ok (.iload_n 2, 1) := by decide +kernel
theorem dX6_copyInto_3 : decode cX6_copyInto 3 = .ok (.bipush 15, 2) := by decide +kernel
theorem dX6_copyInto_5 : decode cX6_copyInto 5 = .ok (.if_icmp .ge 24, 3) := by decide +kernel
theorem dX6_copyInto_8 : decode cX6_copyInto 8 = .ok (.iload_n 2, 1) := by decide +kernel
theorem dX6_copyInto_9 : decode cX6_copyInto 9 = .ok (.aload_n 1, 1) := by decide +kernel
theorem dX6_copyInto_10 : decode cX6_copyInto 10 = .ok (.arraylength, 1) := by decide +kernel
theorem dX6_copyInto_11 : decode cX6_copyInto 11 = .ok (.if_icmp .ge 18, 3) := by decide +kernel
theorem dX6_copyInto_14 : decode cX6_copyInto 14 = .ok (.aload_n 1, 1) := by decide +kernel
theorem dX6_copyInto_15 : decode cX6_copyInto 15 = .ok (.iload_n 2, 1) := by decide +kernel
theorem dX6_copyInto_16 : decode cX6_copyInto 16 = .ok (.aload_n 0, 1) := by decide +kernel
theorem dX6_copyInto_17 : decode cX6_copyInto 17 = .ok (.getfield 11, 3) := by decide +kernel
theorem dX6_copyInto_20 : decode cX6_copyInto 20 = .ok (.iload_n 2, 1) := by decide +kernel
theorem dX6_copyInto_21 : decode cX6_copyInto 21 = .ok (.iaload, 1) := by decide +kernel
theorem dX6_copyInto_22 : decode cX6_copyInto 22 = .ok (.iastore, 1) := by decide +kernel
theorem dX6_copyInto_23 : decode cX6_copyInto 23 = .ok (.iinc 2 1, 3) := by decide +kernel
theorem dX6_copyInto_26 : decode cX6_copyInto 26 = .ok (.goto (-24), 3) := by decide +kernel
theorem dX6_copyInto_29 : decode cX6_copyInto 29 = .ok (.return_, 1) := by decide +kernel
theorem dX6_copyFrom_0 : decode cX6_copyFrom 0 = .ok (.iconst 0, 1) := by decide +kernel
theorem dX6_copyFrom_1 : decode cX6_copyFrom 1 = .ok (.istore_n 2, 1) := by decide +kernel
theorem dX6_copyFrom_2 : decode cX6_copyFrom 2 = .ok (.iload_n 2, 1) := by decide +kernel
theorem dX6_copyFrom_3 : decode cX6_copyFrom 3 = .ok (.bipush 15, 2) := by decide +kernel
theorem dX6_copyFrom_5 : decode cX6_copyFrom 5 = .ok (.if_icmp .ge 24, 3) := by decide +kernel
theorem dX6_copyFrom_8 : decode cX6_copyFrom 8 = .ok (.iload_n 2, 1) := by decide +kernel
theorem dX6_copyFrom_9 : decode cX6_copyFrom 9 = .ok (.aload_n 1, 1) := by decide +kernel
theorem dX6_copyFrom_10 : decode cX6_copyFrom 10 = .ok (.arraylength, 1) := by decide +kernel
theorem dX6_copyFrom_11 : decode cX6_copyFrom 11 = .ok (.if_icmp .ge 18, 3) := by decide +kernel
theorem dX6_copyFrom_14 : decode cX6_copyFrom 14 = .ok (.aload_n 0, 1) := by decide +kernel
theorem dX6_copyFrom_15 : decode cX6_copyFrom 15 = .ok (.getfield 11, 3) := by decide +kernel
theorem dX6_copyFrom_18 : decode cX6_copyFrom 18 = .ok (.iload_n 2, 1) := by decide +kernel
theorem dX6_copyFrom_19 : decode cX6_copyFrom 19 = .ok (.aload_n 1, 1) := by decide +kernel
theorem dX6_copyFrom_20 : decode cX6_copyFrom 20 = .ok (.iload_n 2, 1) := by decide +kernel
theorem dX6_copyFrom_21 : decode cX6_copyFrom 21 = .ok (.iaload, 1) := by decide +kernel
theorem dX6_copyFrom_22 : decode cX6_copyFrom 22 = .ok (.iastore, 1) := by decide +kernel
theorem dX6_copyFrom_23 : decode cX6_copyFrom 23 = .ok (.iinc 2 1, 3) := by decide +kernel
theorem dX6_copyFrom_26 : decode cX6_copyFrom 26 = .ok (.goto (-24), 3) := by decide +kernel
theorem dX6_copyFrom_29 : decode cX6_copyFrom 29 = .ok (.return_, 1) := by decide +kernel
theorem dX6_home_0 : decode cX6_home 0 = .ok (.aload_n 0, 1) := by decide +kernel
theorem dX6_home_1 : decode cX6_home 1 = .ok (.getfield 15, 3) := by decide +kernel
theorem dX6_home_4 : decode cX6_home 4 = .ok (.areturn, 1) := by decide +kernel
theorem dX6_days_0 : decode cX6_days 0 = .ok (.aload_n 0, 1) := by decide +kernel
theorem dX6_days_1 : decode cX6_days 1 = .ok (.getfield 11, 3) := by decide +kernel
theorem dX6_days_4 : decode cX6_days 4 = .ok (.bipush 14, 2) := by decide +kernel
theorem dX6_days_6 : decode cX6_days 6 = .ok (.iaload, 1) := by decide +kernel
theorem dX6_days_7 : decode cX6_days 7 = .ok (.ireturn, 1) := by decide +kernel
set_option maxRecDepth 20000 in
theorem ggX6_ageOf_X7_hasPerson : GoodIn wsX6_ageOf wsX7_hasPerson := goodIn_r _ [7, 8, 11, 12, 13, 14, 15, 16, 17, 18] (by decide +kernel) (by decide +kernel)
set_option maxRecDepth 20000 in
theorem gX6_ageOf_X7_hasPerson : GoodIn wsX6_ageOf (wsV RX6 32 RX7 yX7_hasPerson wsX7_hasPerson) := goodIn_app (goodIn_of _ (by decide +kernel)) ggX6_ageOf_X7_hasPerson
theorem dX6_ageOf_0 : decode cX6_ageOf 0 = .ok (.aload_n 0, 1) := by decide +kernel
theorem dX6_ageOf_1 : decode cX6_ageOf 1 = .ok (.getfield 15, 3) := by decide +kernel
theorem dX6_ageOf_4 : decode cX6_ageOf 4 = .ok (.iload_n 1, 1) := by decide +kernel
theorem dX6_ageOf_5 : decode cX6_ageOf 5 = .ok (.invokevirtual 32, 3) := by decide +kernel
theorem dX6_ageOf_8 : decode cX6_ageOf 8 = .ok (.ifCond .eq 12, 3) := by decide +kernel
theorem dX6_ageOf_11 : decode cX6_ageOf 11 = .ok (.aload_n 0, 1) := by decide +kernel
theorem dX6_ageOf_12 : decode cX6_ageOf 12 = .ok (.getfield 11, 3) := by decide +kernel
theorem dX6_ageOf_15 : decode cX6_ageOf 15 = .ok (.iload_n 1, 1) := by decide +kernel
theorem dX6_ageOf_16 : decode cX6_ageOf 16 = .ok (.iaload, 1) := by decide +kernel
theorem dX6_ageOf_17 : decode cX6_ageOf 17 = .ok (.goto 4, 3) := by decide +kernel
theorem dX6_ageOf_20 : decode cX6_ageOf 20 = .ok (.iconst 0, 1) := by decide +kernel
theorem dX6_ageOf_21 : decode cX6_ageOf 21 = .ok (.ireturn, 1) := by decide +kernel
set_option maxRecDepth 20000 in
theorem ggX6_knowersOf_X7_hasSecret : GoodIn wsX6_knowersOf wsX7_hasSecret := goodIn_r _ [7, 8, 11, 12, 13, 14, 15, 16, 17, 18] (by decide +kernel) (by decide +kernel)
set_option maxRecDepth 20000 in
theorem gX6_knowersOf_X7_hasSecret : GoodIn wsX6_knowersOf (wsV RX6 36 RX7 yX7_hasSecret wsX7_hasSecret) := goodIn_app (goodIn_of _ (by decide +kernel)) ggX6_knowersOf_X7_hasSecret
theorem dX6_knowersOf_0 : decode cX6_knowersOf 0 = .ok (.aload_n 0, 1) := by decide +kernel
theorem dX6_knowersOf_1 : decode cX6_knowersOf 1 = .ok (.getfield 15, 3) := by decide +kernel
theorem dX6_knowersOf_4 : decode cX6_knowersOf 4 = .ok (.iload_n 1, 1) := by decide +kernel
theorem dX6_knowersOf_5 : decode cX6_knowersOf 5 = .ok (.invokevirtual 36, 3) := by decide +kernel
theorem dX6_knowersOf_8 : decode cX6_knowersOf 8 = .ok (.ifCond .eq 15, 3) := by decide +kernel
theorem dX6_knowersOf_11 : decode cX6_knowersOf 11 = .ok (.aload_n 0, 1) := by decide +kernel
theorem dX6_knowersOf_12 : decode cX6_knowersOf 12 = .ok (.getfield 11, 3) := by decide +kernel
theorem dX6_knowersOf_15 : decode cX6_knowersOf 15 = .ok (.bipush 6, 2) := by decide +kernel
theorem dX6_knowersOf_17 : decode cX6_knowersOf 17 = .ok (.iload_n 1, 1) := by decide +kernel
theorem dX6_knowersOf_18 : decode cX6_knowersOf 18 = .ok (.iadd, 1) := by decide +kernel
theorem dX6_knowersOf_19 : decode cX6_knowersOf 19 = .ok (.iaload, 1) := by decide +kernel
theorem dX6_knowersOf_20 : decode cX6_knowersOf 20 = .ok (.goto 4, 3) := by decide +kernel
theorem dX6_knowersOf_23 : decode cX6_knowersOf 23 = .ok (.iconst 0, 1) := by decide +kernel
theorem dX6_knowersOf_24 : decode cX6_knowersOf 24 = .ok (.ireturn, 1) := by decide +kernel
set_option maxRecDepth 20000 in
theorem ggX6_isAlive_X7_hasPerson : GoodIn wsX6_isAlive wsX7_hasPerson := goodIn_r _ [7, 8, 16, 17, 18, 19, 20, 21, 22, 23] (by decide +kernel) (by decide +kernel)
set_option maxRecDepth 20000 in
theorem gX6_isAlive_X7_hasPerson : GoodIn wsX6_isAlive (wsV RX6 32 RX7 yX7_hasPerson wsX7_hasPerson) := goodIn_app (goodIn_of _ (by decide +kernel)) ggX6_isAlive_X7_hasPerson
set_option maxRecDepth 20000 in
theorem ggX6_isAlive_X7_deathAge : GoodIn wsX6_isAlive wsX7_deathAge := goodIn_r _ [12, 13, 16, 17, 18, 19, 20, 21, 22, 23] (by decide +kernel) (by decide +kernel)
set_option maxRecDepth 20000 in
theorem gX6_isAlive_X7_deathAge : GoodIn wsX6_isAlive (wsV RX6 39 RX7 yX7_deathAge wsX7_deathAge) := goodIn_app (goodIn_of _ (by decide +kernel)) ggX6_isAlive_X7_deathAge
theorem dX6_isAlive_0 : decode cX6_isAlive 0 = .ok (.aload_n 0, 1) := by decide +kernel
theorem dX6_isAlive_1 : decode cX6_isAlive 1 = .ok (.getfield 15, 3) := by decide +kernel
theorem dX6_isAlive_4 : decode cX6_isAlive 4 = .ok (.iload_n 1, 1) := by decide +kernel
theorem dX6_isAlive_5 : decode cX6_isAlive 5 = .ok (.invokevirtual 32, 3) := by decide +kernel
theorem dX6_isAlive_8 : decode cX6_isAlive 8 = .ok (.ifCond .eq 23, 3) := by decide +kernel
theorem dX6_isAlive_11 : decode cX6_isAlive 11 = .ok (.aload_n 0, 1) := by decide +kernel
theorem dX6_isAlive_12 : decode cX6_isAlive 12 = .ok (.getfield 11, 3) := by decide +kernel
theorem dX6_isAlive_15 : decode cX6_isAlive 15 = .ok (.iload_n 1, 1) := by decide +kernel
theorem dX6_isAlive_16 : decode cX6_isAlive 16 = .ok (.iaload, 1) := by decide +kernel
theorem dX6_isAlive_17 : decode cX6_isAlive 17 = .ok (.aload_n 0, 1) := by decide +kernel
theorem dX6_isAlive_18 : decode cX6_isAlive 18 = .ok (.getfield 15, 3) := by decide +kernel
theorem dX6_isAlive_21 : decode cX6_isAlive 21 = .ok (.invokevirtual 39, 3) := by decide +kernel
theorem dX6_isAlive_24 : decode cX6_isAlive 24 = .ok (.if_icmp .ge 7, 3) := by decide +kernel
theorem dX6_isAlive_27 : decode cX6_isAlive 27 = .ok (.iconst 1, 1) := by decide +kernel
theorem dX6_isAlive_28 : decode cX6_isAlive 28 = .ok (.goto 4, 3) := by decide +kernel
theorem dX6_isAlive_31 : decode cX6_isAlive 31 = .ok (.iconst 0, 1) := by decide +kernel
theorem dX6_isAlive_32 : decode cX6_isAlive 32 = .ok (.ireturn, 1) := by decide +kernel
set_option maxRecDepth 20000 in
theorem ggX6_knows_X7_hasPerson : GoodIn wsX6_knows wsX7_hasPerson := goodIn_r _ [6, 7, 24, 25, 26, 27, 28, 29, 30, 31] (by decide +kernel) (by decide +kernel)
set_option maxRecDepth 20000 in
theorem gX6_knows_X7_hasPerson : GoodIn wsX6_knows (wsV RX6 32 RX7 yX7_hasPerson wsX7_hasPerson) := goodIn_app (goodIn_of _ (by decide +kernel)) ggX6_knows_X7_hasPerson
set_option maxRecDepth 20000 in
theorem ggX6_knows_X6_knowersOf : GoodIn wsX6_knows wsX6_knowersOf := goodIn_r _ [12, 1, 13, 14, 15, 16, 5, 17, 18, 22, 23, 24, 25, 26, 27, 28, 29, 30, 31] (by decide +kernel) (by decide +kernel)
set_option maxRecDepth 20000 in
theorem gX6_knows_X6_knowersOf : GoodIn wsX6_knows (wsV RX6 43 RX6 yX6_knowersOf wsX6_knowersOf) := goodIn_app (goodIn_of _ (by decide +kernel)) ggX6_knows_X6_knowersOf
set_option maxRecDepth 20000 in
theorem ggX6_knows_X8_has : GoodIn wsX6_knows wsX8_has := goodIn_r _ [21] (by decide +kernel) (by decide +kernel)
set_option maxRecDepth 20000 in
theorem gX6_knows_X8_has_n46 : GoodIn wsX6_knows (wsX8_has) := ggX6_knows_X8_has
theorem dX6_knows_0 : decode cX6_knows 0 = .ok (.aload_n 0, 1) := by decide +kernel
theorem dX6_knows_1 : decode cX6_knows 1 = .ok (.getfield 15, 3) := by decide +kernel
theorem dX6_knows_4 : decode cX6_knows 4 = .ok (.iload_n 1, 1) := by decide +kernel
theorem dX6_knows_5 : decode cX6_knows 5 = .ok (.invokevirtual 32, 3) := by decide +kernel
theorem dX6_knows_8 : decode cX6_knows 8 = .ok (.ifCond .eq 19, 3) := by decide +kernel
theorem dX6_knows_11 : decode cX6_knows 11 = .ok (.aload_n 0, 1) := by decide +kernel
theorem dX6_knows_12 : decode cX6_knows 12 = .ok (.iload_n 2, 1) := by decide +kernel
theorem dX6_knows_13 : decode cX6_knows 13 = .ok (.invokevirtual 43, 3) := by decide +kernel
theorem dX6_knows_16 : decode cX6_knows 16 = .ok (.iload_n 1, 1) := by decide +kernel
theorem dX6_knows_17 : decode cX6_knows 17 = .ok (.invokestatic 46, 3) := by decide +kernel
theorem dX6_knows_20 : decode cX6_knows 20 = .ok (.ifCond .eq 7, 3) := by decide +kernel
theorem dX6_knows_23 : decode cX6_knows 23 = .ok (.iconst 1, 1) := by decide +kernel
theorem dX6_knows_24 : decode cX6_knows 24 = .ok (.goto 4, 3) := by decide +kernel
theorem dX6_knows_27 : decode cX6_knows 27 = .ok (.iconst 0, 1) := by decide +kernel
theorem dX6_knows_28 : decode cX6_knows 28 = .ok (.ireturn, 1) := by decide +kernel
set_option maxRecDepth 20000 in
theorem ggX6_living_X6_isAlive : GoodIn wsX6_living wsX6_isAlive := goodIn_r _ [5, 6, 7, 8, 9, 10, 11, 12, 13, 14, 15, 16, 17, 18, 19, 20, 21, 22, 23, 24, 25, 26, 27, 28] (by decide +kernel) (by decide +kernel)
set_option maxRecDepth 20000 in
theorem gX6_living_X6_isAlive : GoodIn wsX6_living (wsV RX6 50 RX6 yX6_isAlive wsX6_isAlive) := goodIn_app (goodIn_of _ (by decide +kernel)) ggX6_living_X6_isAlive
theorem dX6_living_0 : decode cX6_living 0 = .ok (.iconst 0, 1) := by decide +kernel
theorem dX6_living_1 : decode cX6_living 1 = .ok (.istore_n 1, 1) := by decide +kernel
theorem dX6_living_2 : decode cX6_living 2 = .ok (.iconst 0, 1) := by decide +kernel
theorem dX6_living_3 : decode cX6_living 3 = .ok (.istore_n 2, 1) := by decide +kernel
theorem dX6_living_4 : decode cX6_living 4 = .ok (.iload_n 2, 1) := by decide +kernel
theorem dX6_living_5 : decode cX6_living 5 = .ok (.bipush 6, 2) := by decide +kernel
theorem dX6_living_7 : decode cX6_living 7 = .ok (.if_icmp .ge 23, 3) := by decide +kernel
theorem dX6_living_10 : decode cX6_living 10 = .ok (.aload_n 0, 1) := by decide +kernel
theorem dX6_living_11 : decode cX6_living 11 = .ok (.iload_n 2, 1) := by decide +kernel
theorem dX6_living_12 : decode cX6_living 12 = .ok (.invokevirtual 50, 3) := by decide +kernel
theorem dX6_living_15 : decode cX6_living 15 = .ok (.ifCond .eq 9, 3) := by decide +kernel
theorem dX6_living_18 : decode cX6_living 18 = .ok (.iload_n 1, 1) := by decide +kernel
theorem dX6_living_19 : decode cX6_living 19 = .ok (.iconst 1, 1) := by decide +kernel
theorem dX6_living_20 : decode cX6_living 20 = .ok (.iload_n 2, 1) := by decide +kernel
theorem dX6_living_21 : decode cX6_living 21 = .ok (.ishl, 1) := by decide +kernel
theorem dX6_living_22 : decode cX6_living 22 = .ok (.ior, 1) := by decide +kernel
theorem dX6_living_23 : decode cX6_living 23 = .ok (.istore_n 1, 1) := by decide +kernel
theorem dX6_living_24 : decode cX6_living 24 = .ok (.iinc 2 1, 3) := by decide +kernel
theorem dX6_living_27 : decode cX6_living 27 = .ok (.goto (-23), 3) := by decide +kernel
theorem dX6_living_30 : decode cX6_living 30 = .ok (.iload_n 1, 1) := by decide +kernel
theorem dX6_living_31 : decode cX6_living 31 = .ok (.ireturn, 1) := by decide +kernel
set_option maxRecDepth 20000 in
theorem ggX6_meetsOf_X6_isAlive : GoodIn wsX6_meetsOf wsX6_isAlive := goodIn_r _ [6, 1, 7, 8, 9, 10, 11, 12, 13, 14, 15, 16, 17, 18, 29, 30, 31, 32, 33, 34, 35, 36, 37, 38] (by decide +kernel) (by decide +kernel)
set_option maxRecDepth 20000 in
theorem gX6_meetsOf_X6_isAlive : GoodIn wsX6_meetsOf (wsV RX6 50 RX6 yX6_isAlive wsX6_isAlive) := goodIn_app (goodIn_of _ (by decide +kernel)) ggX6_meetsOf_X6_isAlive
set_option maxRecDepth 20000 in
theorem ggX6_meetsOf_X7_meetingsOf : GoodIn wsX6_meetsOf wsX7_meetingsOf := goodIn_r _ [22, 23, 24, 9, 10, 11, 12, 13, 31, 32, 33, 34, 35, 36, 37, 38] (by decide +kernel) (by decide +kernel)
set_option maxRecDepth 20000 in
theorem gX6_meetsOf_X7_meetingsOf : GoodIn wsX6_meetsOf (wsV RX6 53 RX7 yX7_meetingsOf wsX7_meetingsOf) := goodIn_app (goodIn_of _ (by decide +kernel)) ggX6_meetsOf_X7_meetingsOf
set_option maxRecDepth 20000 in
theorem ggX6_meetsOf_X6_living : GoodIn wsX6_meetsOf wsX6_living := goodIn_r _ [28, 2, 3, 4, 5, 6, 1, 7, 8, 9, 10, 11, 12, 13, 14, 15, 16, 17, 18, 29, 30, 31, 32, 33, 34, 35, 36, 37, 38] (by decide +kernel) (by decide +kernel)
set_option maxRecDepth 20000 in
theorem gX6_meetsOf_X6_living : GoodIn wsX6_meetsOf (wsV RX6 56 RX6 yX6_living wsX6_living) := goodIn_app (goodIn_of _ (by decide +kernel)) ggX6_meetsOf_X6_living
theorem dX6_meetsOf_0 : decode cX6_meetsOf 0 = .ok (.aload_n 0, 1) := by decide +kernel
theorem dX6_meetsOf_1 : decode cX6_meetsOf 1 = .ok (.iload_n 1, 1) := by decide +kernel
theorem dX6_meetsOf_2 : decode cX6_meetsOf 2 = .ok (.invokevirtual 50, 3) := by decide +kernel
theorem dX6_meetsOf_5 : decode cX6_meetsOf 5 = .ok (.ifCond .eq 19, 3) := by decide +kernel
theorem dX6_meetsOf_8 : decode cX6_meetsOf 8 = .ok (.aload_n 0, 1) := by decide +kernel
theorem dX6_meetsOf_9 : decode cX6_meetsOf 9 = .ok (.getfield 15, 3) := by decide +kernel
theorem dX6_meetsOf_12 : decode cX6_meetsOf 12 = .ok (.iload_n 1, 1) := by decide +kernel
theorem dX6_meetsOf_13 : decode cX6_meetsOf 13 = .ok (.invokevirtual 53, 3) := by decide +kernel
theorem dX6_meetsOf_16 : decode cX6_meetsOf 16 = .ok (.aload_n 0, 1) := by decide +kernel
theorem dX6_meetsOf_17 : decode cX6_meetsOf 17 = .ok (.invokevirtual 56, 3) := by decide +kernel
theorem dX6_meetsOf_20 : decode cX6_meetsOf 20 = .ok (.iand, 1) := by decide +kernel
theorem dX6_meetsOf_21 : decode cX6_meetsOf 21 = .ok (.goto 4, 3) := by decide +kernel
theorem dX6_meetsOf_24 : decode cX6_meetsOf 24 = .ok (.iconst 0, 1) := by decide +kernel
theorem dX6_meetsOf_25 : decode cX6_meetsOf 25 = .ok (.ireturn, 1) := by decide +kernel
set_option maxRecDepth 20000 in
theorem ggX6_knownTo_X6_knows : GoodIn wsX6_knownTo wsX6_knows := goodIn_r _ [5, 6, 7, 8, 9, 10, 11, 12, 13, 14, 15, 4, 16, 17, 18, 19, 20, 21, 22, 23, 24, 25, 26, 27, 28, 29, 30, 31, 32, 33, 34, 35] (by decide +kernel) (by decide +kernel)
set_option maxRecDepth 20000 in
theorem gX6_knownTo_X6_knows : GoodIn wsX6_knownTo (wsV RX6 59 RX6 yX6_knows wsX6_knows) := goodIn_app (goodIn_of _ (by decide +kernel)) ggX6_knownTo_X6_knows
theorem dX6_knownTo_0 : decode cX6_knownTo 0 = .ok (.iconst 0, 1) := by decide +kernel
theorem dX6_knownTo_1 : decode cX6_knownTo 1 = .ok (.istore_n 2, 1) := by decide +kernel
theorem dX6_knownTo_2 : decode cX6_knownTo 2 = .ok (.iconst 0, 1) := by decide +kernel
theorem dX6_knownTo_3 : decode cX6_knownTo 3 = .ok (.istore_n 3, 1) := by decide +kernel
theorem dX6_knownTo_4 : decode cX6_knownTo 4 = .ok (.iload_n 3, 1) := by decide +kernel
theorem dX6_knownTo_5 : decode cX6_knownTo 5 = .ok (.bipush 8, 2) := by decide +kernel
theorem dX6_knownTo_7 : decode cX6_knownTo 7 = .ok (.if_icmp .ge 24, 3) := by decide +kernel
theorem dX6_knownTo_10 : decode cX6_knownTo 10 = .ok (.aload_n 0, 1) := by decide +kernel
theorem dX6_knownTo_11 : decode cX6_knownTo 11 = .ok (.iload_n 1, 1) := by decide +kernel
theorem dX6_knownTo_12 : decode cX6_knownTo 12 = .ok (.iload_n 3, 1) := by decide +kernel
theorem dX6_knownTo_13 : decode cX6_knownTo 13 = .ok (.invokevirtual 59, 3) := by decide +kernel
theorem dX6_knownTo_16 : decode cX6_knownTo 16 = .ok (.ifCond .eq 9, 3) := by decide +kernel
theorem dX6_knownTo_19 : decode cX6_knownTo 19 = .ok (.iload_n 2, 1) := by decide +kernel
theorem dX6_knownTo_20 : decode cX6_knownTo 20 = .ok (.iconst 1, 1) := by decide +kernel
theorem dX6_knownTo_21 : decode cX6_knownTo 21 = .ok (.iload_n 3, 1) := by decide +kernel
theorem dX6_knownTo_22 : decode cX6_knownTo 22 = .ok (.ishl, 1) := by decide +kernel
theorem dX6_knownTo_23 : decode cX6_knownTo 23 = .ok (.ior, 1) := by decide +kernel
theorem dX6_knownTo_24 : decode cX6_knownTo 24 = .ok (.istore_n 2, 1) := by decide +kernel
theorem dX6_knownTo_25 : decode cX6_knownTo 25 = .ok (.iinc 3 1, 3) := by decide +kernel
theorem dX6_knownTo_28 : decode cX6_knownTo 28 = .ok (.goto (-24), 3) := by decide +kernel
theorem dX6_knownTo_31 : decode cX6_knownTo 31 = .ok (.iload_n 2, 1) := by decide +kernel
theorem dX6_knownTo_32 : decode cX6_knownTo 32 = .ok (.ireturn, 1) := by decide +kernel
set_option maxRecDepth 20000 in
theorem ggX6_othersKnowing_X6_knowersOf : GoodIn wsX6_othersKnowing wsX6_knowersOf := goodIn_r _ [6, 1, 7, 8, 9, 10, 11, 12, 13, 27, 28, 29, 30, 31, 32, 33, 34, 35, 36] (by decide +kernel) (by decide +kernel)
set_option maxRecDepth 20000 in
theorem gX6_othersKnowing_X6_knowersOf : GoodIn wsX6_othersKnowing (wsV RX6 43 RX6 yX6_knowersOf wsX6_knowersOf) := goodIn_app (goodIn_of _ (by decide +kernel)) ggX6_othersKnowing_X6_knowersOf
set_option maxRecDepth 20000 in
theorem ggX6_othersKnowing_X7_ownerOf : GoodIn wsX6_othersKnowing wsX7_ownerOf := goodIn_r _ [17, 18, 19, 9, 10, 11, 12, 13, 29, 30, 31, 32, 33, 34, 35, 36] (by decide +kernel) (by decide +kernel)
set_option maxRecDepth 20000 in
theorem gX6_othersKnowing_X7_ownerOf : GoodIn wsX6_othersKnowing (wsV RX6 62 RX7 yX7_ownerOf wsX7_ownerOf) := goodIn_app (goodIn_of _ (by decide +kernel)) ggX6_othersKnowing_X7_ownerOf
set_option maxRecDepth 20000 in
theorem ggX6_othersKnowing_J6_bitCount_0f7a4 : GoodIn wsX6_othersKnowing wsJ6_bitCount_0f7a4 := goodIn_r _ [23, 24, 25, 26] (by decide +kernel) (by decide +kernel)
set_option maxRecDepth 20000 in
theorem gX6_othersKnowing_J6_bitCount_0f7a4 : GoodIn wsX6_othersKnowing (va_wsS RX6 65 yJ6_bitCount_0f7a4 wsJ6_bitCount_0f7a4) := goodIn_app (goodIn_of _ (by decide +kernel)) ggX6_othersKnowing_J6_bitCount_0f7a4
theorem dX6_othersKnowing_0 : decode cX6_othersKnowing 0 = .ok (.aload_n 0, 1) := by decide +kernel
theorem dX6_othersKnowing_1 : decode cX6_othersKnowing 1 = .ok (.iload_n 1, 1) := by decide +kernel
theorem dX6_othersKnowing_2 : decode cX6_othersKnowing 2 = .ok (.invokevirtual 43, 3) := by decide +kernel
theorem dX6_othersKnowing_5 : decode cX6_othersKnowing 5 = .ok (.iconst 1, 1) := by decide +kernel
theorem dX6_othersKnowing_6 : decode cX6_othersKnowing 6 = .ok (.aload_n 0, 1) := by decide +kernel
theorem dX6_othersKnowing_7 : decode cX6_othersKnowing 7 = .ok (.getfield 15, 3) := by decide +kernel
theorem dX6_othersKnowing_10 : decode cX6_othersKnowing 10 = .ok (.iload_n 1, 1) := by decide +kernel
theorem dX6_othersKnowing_11 : decode cX6_othersKnowing 11 = .ok (.invokevirtual 62, 3) := by decide +kernel
theorem dX6_othersKnowing_14 : decode cX6_othersKnowing 14 = .ok (.ishl, 1) := by decide +kernel
theorem dX6_othersKnowing_15 : decode cX6_othersKnowing 15 = .ok (.iconst (-1), 1) := by decide +kernel
theorem dX6_othersKnowing_16 : decode cX6_othersKnowing 16 = .ok (.ixor, 1) := by decide +kernel
theorem dX6_othersKnowing_17 : decode cX6_othersKnowing 17 = .ok (.iand, 1) := by decide +kernel
theorem dX6_othersKnowing_18 : decode cX6_othersKnowing 18 = .ok (.invokestatic 65, 3) := by decide +kernel
theorem dX6_othersKnowing_21 : decode cX6_othersKnowing 21 = .ok (.ireturn, 1) := by decide +kernel
set_option maxRecDepth 20000 in
theorem ggX6_agesTogether_X6_ageOf : GoodIn wsX6_agesTogether wsX6_ageOf := goodIn_r _ [5, 6, 7, 8, 9, 10, 11, 12, 13, 14, 15, 16, 17, 18, 19, 20, 21, 22, 23] (by decide +kernel) (by decide +kernel)
set_option maxRecDepth 20000 in
theorem gX6_agesTogether_X6_ageOf : GoodIn wsX6_agesTogether (wsV RX6 70 RX6 yX6_ageOf wsX6_ageOf) := goodIn_app (goodIn_of _ (by decide +kernel)) ggX6_agesTogether_X6_ageOf
theorem dX6_agesTogether_0 : decode cX6_agesTogether 0 = .ok (.iconst 0, 1) := by decide +kernel
theorem dX6_agesTogether_1 : decode cX6_agesTogether 1 = .ok (.istore_n 1, 1) := by decide +kernel
theorem dX6_agesTogether_2 : decode cX6_agesTogether 2 = .ok (.iconst 0, 1) := by decide +kernel
theorem dX6_agesTogether_3 : decode cX6_agesTogether 3 = .ok (.istore_n 2, 1) := by decide +kernel
theorem dX6_agesTogether_4 : decode cX6_agesTogether 4 = .ok (.iload_n 2, 1) := by decide +kernel
theorem dX6_agesTogether_5 : decode cX6_agesTogether 5 = .ok (.bipush 6, 2) := by decide +kernel
theorem dX6_agesTogether_7 : decode cX6_agesTogether 7 = .ok (.if_icmp .ge 17, 3) := by decide +kernel
theorem dX6_agesTogether_10 : decode cX6_agesTogether 10 = .ok (.iload_n 1, 1) := by decide +kernel
theorem dX6_agesTogether_11 : decode cX6_agesTogether 11 = .ok (.aload_n 0, 1) := by decide +kernel
theorem dX6_agesTogether_12 : decode cX6_agesTogether 12 = .ok (.iload_n 2, 1) := by decide +kernel
theorem dX6_agesTogether_13 : decode cX6_agesTogether 13 = .ok (.invokevirtual 70, 3) := by decide +kernel
theorem dX6_agesTogether_16 : decode cX6_agesTogether 16 = .ok (.iadd, 1) := by decide +kernel
theorem dX6_agesTogether_17 : decode cX6_agesTogether 17 = .ok (.istore_n 1, 1) := by decide +kernel
theorem dX6_agesTogether_18 : decode cX6_agesTogether 18 = .ok (.iinc 2 1, 3) := by decide +kernel
theorem dX6_agesTogether_21 : decode cX6_agesTogether 21 = .ok (.goto (-17), 3) := by decide +kernel
theorem dX6_agesTogether_24 : decode cX6_agesTogether 24 = .ok (.iload_n 1, 1) := by decide +kernel
theorem dX6_agesTogether_25 : decode cX6_agesTogether 25 = .ok (.ireturn, 1) := by decide +kernel
set_option maxRecDepth 20000 in
theorem ggX6_speak_X7_hasSecret : GoodIn wsX6_speak wsX7_hasSecret := goodIn_r _ [7, 8, 69, 70, 71, 72, 73, 74, 75, 76] (by decide +kernel) (by decide +kernel)
set_option maxRecDepth 20000 in
theorem gX6_speak_X7_hasSecret : GoodIn wsX6_speak (wsV RX6 36 RX7 yX7_hasSecret wsX7_hasSecret) := goodIn_app (goodIn_of _ (by decide +kernel)) ggX6_speak_X7_hasSecret
set_option maxRecDepth 20000 in
theorem ggX6_speak_X7_ownerOf : GoodIn wsX6_speak wsX7_ownerOf := goodIn_r _ [12, 13, 14, 4, 5, 6, 7, 8, 69, 70, 71, 72, 73, 74, 75, 76] (by decide +kernel) (by decide +kernel)
set_option maxRecDepth 20000 in
theorem gX6_speak_X7_ownerOf : GoodIn wsX6_speak (wsV RX6 62 RX7 yX7_ownerOf wsX7_ownerOf) := goodIn_app (goodIn_of _ (by decide +kernel)) ggX6_speak_X7_ownerOf
set_option maxRecDepth 20000 in
theorem ggX6_speak_X6_living : GoodIn wsX6_speak wsX6_living := goodIn_r _ [19, 20, 21, 22, 18, 23, 1, 2, 24, 25, 26, 6, 27, 28, 29, 30, 31, 32, 33, 67, 68, 69, 70, 71, 72, 73, 74, 75, 76] (by decide +kernel) (by decide +kernel)
set_option maxRecDepth 20000 in
theorem gX6_speak_X6_living : GoodIn wsX6_speak (wsV RX6 56 RX6 yX6_living wsX6_living) := goodIn_app (goodIn_of _ (by decide +kernel)) ggX6_speak_X6_living
set_option maxRecDepth 20000 in
theorem ggX6_speak_X6_knowersOf : GoodIn wsX6_speak wsX6_knowersOf := goodIn_r _ [37, 1, 2, 3, 4, 5, 6, 7, 8, 67, 68, 69, 70, 71, 72, 73, 74, 75, 76] (by decide +kernel) (by decide +kernel)
set_option maxRecDepth 20000 in
theorem gX6_speak_X6_knowersOf : GoodIn wsX6_speak (wsV RX6 43 RX6 yX6_knowersOf wsX6_knowersOf) := goodIn_app (goodIn_of _ (by decide +kernel)) ggX6_speak_X6_knowersOf
set_option maxRecDepth 20000 in
theorem ggX6_speak_J6_bitCount_0f7a4 : GoodIn wsX6_speak wsJ6_bitCount_0f7a4 := goodIn_r _ [41, 42, 43, 44] (by decide +kernel) (by decide +kernel)
set_option maxRecDepth 20000 in
theorem gX6_speak_J6_bitCount_0f7a4 : GoodIn wsX6_speak (va_wsS RX6 65 yJ6_bitCount_0f7a4 wsJ6_bitCount_0f7a4) := goodIn_app (goodIn_of _ (by decide +kernel)) ggX6_speak_J6_bitCount_0f7a4
set_option maxRecDepth 20000 in
theorem ggX6_speak_X7_kindOf : GoodIn wsX6_speak wsX7_kindOf := goodIn_r _ [48, 49, 50, 25, 26, 6, 27, 28, 69, 70, 71, 72, 73, 74, 75, 76] (by decide +kernel) (by decide +kernel)
set_option maxRecDepth 20000 in
theorem gX6_speak_X7_kindOf : GoodIn wsX6_speak (wsV RX6 73 RX7 yX7_kindOf wsX7_kindOf) := goodIn_app (goodIn_of _ (by decide +kernel)) ggX6_speak_X7_kindOf
set_option maxRecDepth 20000 in
theorem ggX6_speak_X6_othersKnowing : GoodIn wsX6_speak wsX6_othersKnowing := goodIn_r _ [54, 1, 34, 35, 36, 18, 37, 2, 3, 4, 5, 6, 7, 8, 9, 10, 11, 12, 13, 14, 38, 39, 40, 41, 42, 43, 44, 67, 68, 69, 70, 71, 72, 73, 74, 75, 76] (by decide +kernel) (by decide +kernel)
set_option maxRecDepth 20000 in
theorem gX6_speak_X6_othersKnowing : GoodIn wsX6_speak (wsV RX6 76 RX6 yX6_othersKnowing wsX6_othersKnowing) := goodIn_app (goodIn_of _ (by decide +kernel)) ggX6_speak_X6_othersKnowing
set_option maxRecDepth 20000 in
theorem ggX6_speak_X8_careForMany : GoodIn wsX6_speak wsX8_careForMany := goodIn_r _ [57, 58, 59, 56, 60] (by decide +kernel) (by decide +kernel)
set_option maxRecDepth 20000 in
theorem gX6_speak_X8_careForMany_n79 : GoodIn wsX6_speak (wsX8_careForMany) := ggX6_speak_X8_careForMany
set_option maxRecDepth 20000 in
theorem ggX6_speak_X6_growOlder : GoodIn wsX6_speak wsX6_growOlder := goodIn_r _ [64, 2, 20, 21, 22, 18, 23, 1, 24, 25, 26, 6, 27, 28, 29, 30, 31, 32, 33, 67, 68, 69, 70, 71, 72, 73, 74, 75, 76] (by decide +kernel) (by decide +kernel)
set_option maxRecDepth 20000 in
theorem gX6_speak_X6_growOlder : GoodIn wsX6_speak (wsV RX6 83 RX6 yX6_growOlder wsX6_growOlder) := goodIn_app (goodIn_of _ (by decide +kernel)) ggX6_speak_X6_growOlder
set_option maxRecDepth 20000 in
theorem ggX6_speak_X8_has : GoodIn wsX6_speak wsX8_has := goodIn_r _ [66] (by decide +kernel) (by decide +kernel)
set_option maxRecDepth 20000 in
theorem gX6_speak_X8_has_n46 : GoodIn wsX6_speak (wsX8_has) := ggX6_speak_X8_has
theorem dX6_speak_0 : decode cX6_speak 0 = .ok (.aload_n 0, 1) := by decide +kernel
theorem dX6_speak_1 : decode cX6_speak 1 = .ok (.getfield 15, 3) := by decide +kernel
theorem dX6_speak_4 : decode cX6_speak 4 = .ok (.iload_n 2, 1) := by decide +kernel
theorem dX6_speak_5 : decode cX6_speak 5 = .ok (.invokevirtual 36, 3) := by decide +kernel
theorem dX6_speak_8 : decode cX6_speak 8 = .ok (.ifCond .ne 5, 3) := by decide +kernel
theorem dX6_speak_11 : decode cX6_speak 11 = .ok (.iconst 0, 1) := by decide +kernel
theorem dX6_speak_12 : decode cX6_speak 12 = .ok (.ireturn, 1) := by decide +kernel
theorem dX6_speak_13 : decode cX6_speak 13 = .ok (.aload_n 0, 1) := by decide +kernel
theorem dX6_speak_14 : decode cX6_speak 14 = .ok (.getfield 15, 3) := by decide +kernel
theorem dX6_speak_17 : decode cX6_speak 17 = .ok (.iload_n 2, 1) := by decide +kernel
theorem dX6_speak_18 : decode cX6_speak 18 = .ok (.invokevirtual 62, 3) := by decide +kernel
theorem dX6_speak_21 : decode cX6_speak 21 = .ok (.istore 4, 2) := by decide +kernel
theorem dX6_speak_23 : decode cX6_speak 23 = .ok (.iload_n 3, 1) := by decide +kernel
theorem dX6_speak_24 : decode cX6_speak 24 = .ok (.aload_n 0, 1) := by decide +kernel
theorem dX6_speak_25 : decode cX6_speak 25 = .ok (.invokevirtual 56, 3) := by decide +kernel
theorem dX6_speak_28 : decode cX6_speak 28 = .ok (.iand, 1) := by decide +kernel
theorem dX6_speak_29 : decode cX6_speak 29 = .ok (.aload_n 0, 1) := by decide +kernel
theorem dX6_speak_30 : decode cX6_speak 30 = .ok (.iload_n 2, 1) := by decide +kernel
theorem dX6_speak_31 : decode cX6_speak 31 = .ok (.invokevirtual 43, 3) := by decide +kernel
theorem dX6_speak_34 : decode cX6_speak 34 = .ok (.iconst (-1), 1) := by decide +kernel
theorem dX6_speak_35 : decode cX6_speak 35 = .ok (.ixor, 1) := by decide +kernel
theorem dX6_speak_36 : decode cX6_speak 36 = .ok (.iand, 1) := by decide +kernel
theorem dX6_speak_37 : decode cX6_speak 37 = .ok (.istore 5, 2) := by decide +kernel
theorem dX6_speak_39 : decode cX6_speak 39 = .ok (.iload 5, 2) := by decide +kernel
theorem dX6_speak_41 : decode cX6_speak 41 = .ok (.invokestatic 65, 3) := by decide +kernel
theorem dX6_speak_44 : decode cX6_speak 44 = .ok (.istore 6, 2) := by decide +kernel
theorem dX6_speak_46 : decode cX6_speak 46 = .ok (.aload_n 0, 1) := by decide +kernel
theorem dX6_speak_47 : decode cX6_speak 47 = .ok (.getfield 15, 3) := by decide +kernel
theorem dX6_speak_50 : decode cX6_speak 50 = .ok (.iload 4, 2) := by decide +kernel
theorem dX6_speak_52 : decode cX6_speak 52 = .ok (.invokevirtual 73, 3) := by decide +kernel
theorem dX6_speak_55 : decode cX6_speak 55 = .ok (.aload_n 0, 1) := by decide +kernel
theorem dX6_speak_56 : decode cX6_speak 56 = .ok (.iload_n 2, 1) := by decide +kernel
theorem dX6_speak_57 : decode cX6_speak 57 = .ok (.invokevirtual 76, 3) := by decide +kernel
theorem dX6_speak_60 : decode cX6_speak 60 = .ok (.iload 6, 2) := by decide +kernel
theorem dX6_speak_62 : decode cX6_speak 62 = .ok (.invokestatic 79, 3) := by decide +kernel
theorem dX6_speak_65 : decode cX6_speak 65 = .ok (.istore 7, 2) := by decide +kernel
theorem dX6_speak_67 : decode cX6_speak 67 = .ok (.aload_n 0, 1) := by decide +kernel
theorem dX6_speak_68 : decode cX6_speak 68 = .ok (.getfield 11, 3) := by decide +kernel
theorem dX6_speak_71 : decode cX6_speak 71 = .ok (.bipush 6, 2) := by decide +kernel
theorem dX6_speak_73 : decode cX6_speak 73 = .ok (.iload_n 2, 1) := by decide +kernel
theorem dX6_speak_74 : decode cX6_speak 74 = .ok (.iadd, 1) := by decide +kernel
theorem dX6_speak_75 : decode cX6_speak 75 = .ok (.dup2, 1) := by decide +kernel
theorem dX6_speak_76 : decode cX6_speak 76 = .ok (.iaload, 1) := by decide +kernel
theorem dX6_speak_77 : decode cX6_speak 77 = .ok (.iload 5, 2) := by decide +kernel
theorem dX6_speak_79 : decode cX6_speak 79 = .ok (.ior, 1) := by decide +kernel
theorem dX6_speak_80 : decode cX6_speak 80 = .ok (.iastore, 1) := by decide +kernel
theorem dX6_speak_81 : decode cX6_speak 81 = .ok (.aload_n 0, 1) := by decide +kernel
theorem dX6_speak_82 : decode cX6_speak 82 = .ok (.iload 4, 2) := by decide +kernel
theorem dX6_speak_84 : decode cX6_speak 84 = .ok (.iload_n 1, 1) := by decide +kernel
theorem dX6_speak_85 : decode cX6_speak 85 = .ok (.iload 4, 2) := by decide +kernel
theorem dX6_speak_87 : decode cX6_speak 87 = .ok (.if_icmp .ne 10, 3) := by decide +kernel
theorem dX6_speak_90 : decode cX6_speak 90 = .ok (.iload 7, 2) := by decide +kernel
theorem dX6_speak_92 : decode cX6_speak 92 = .ok (.iconst 2, 1) := by decide +kernel
theorem dX6_speak_93 : decode cX6_speak 93 = .ok (.idiv, 1) := by decide +kernel
theorem dX6_speak_94 : decode cX6_speak 94 = .ok (.goto 5, 3) := by decide +kernel
theorem dX6_speak_97 : decode cX6_speak 97 = .ok (.iload 7, 2) := by decide +kernel
theorem dX6_speak_99 : decode cX6_speak 99 = .ok (.invokevirtual 83, 3) := by decide +kernel
theorem dX6_speak_102 : decode cX6_speak 102 = .ok (.iconst 0, 1) := by decide +kernel
theorem dX6_speak_103 : decode cX6_speak 103 = .ok (.istore 8, 2) := by decide +kernel
theorem dX6_speak_105 : decode cX6_speak 105 = .ok (.iload 8, 2) := by decide +kernel
theorem dX6_speak_107 : decode cX6_speak 107 = .ok (.bipush 6, 2) := by decide +kernel
theorem dX6_speak_109 : decode cX6_speak 109 = .ok (.if_icmp .ge 39, 3) := by decide +kernel
theorem dX6_speak_112 : decode cX6_speak 112 = .ok (.iload 5, 2) := by decide +kernel
theorem dX6_speak_114 : decode cX6_speak 114 = .ok (.iload 8, 2) := by decide +kernel
theorem dX6_speak_116 : decode cX6_speak 116 = .ok (.invokestatic 46, 3) := by decide +kernel
theorem dX6_speak_119 : decode cX6_speak 119 = .ok (.ifCond .eq 23, 3) := by decide +kernel
theorem dX6_speak_122 : decode cX6_speak 122 = .ok (.aload_n 0, 1) := by decide +kernel
theorem dX6_speak_123 : decode cX6_speak 123 = .ok (.getfield 15, 3) := by decide +kernel
theorem dX6_speak_126 : decode cX6_speak 126 = .ok (.iload 8, 2) := by decide +kernel
theorem dX6_speak_128 : decode cX6_speak 128 = .ok (.invokevirtual 73, 3) := by decide +kernel
theorem dX6_speak_131 : decode cX6_speak 131 = .ok (.iconst 4, 1) := by decide +kernel
theorem dX6_speak_132 : decode cX6_speak 132 = .ok (.if_icmp .ne 10, 3) := by decide +kernel
theorem dX6_speak_135 : decode cX6_speak 135 = .ok (.aload_n 0, 1) := by decide +kernel
theorem dX6_speak_136 : decode cX6_speak 136 = .ok (.iload 8, 2) := by decide +kernel
theorem dX6_speak_138 : decode cX6_speak 138 = .ok (.iconst 1, 1) := by decide +kernel
theorem dX6_speak_139 : decode cX6_speak 139 = .ok (.invokevirtual 83, 3) := by decide +kernel
theorem dX6_speak_142 : decode cX6_speak 142 = .ok (.iinc 8 1, 3) := by decide +kernel
theorem dX6_speak_145 : decode cX6_speak 145 = .ok (.goto (-40), 3) := by decide +kernel
theorem dX6_speak_148 : decode cX6_speak 148 = .ok (.iload 6, 2) := by decide +kernel
theorem dX6_speak_150 : decode cX6_speak 150 = .ok (.ireturn, 1) := by decide +kernel
set_option maxRecDepth 20000 in
theorem ggX6_growOlder_X6_isAlive : GoodIn wsX6_growOlder wsX6_isAlive := goodIn_r _ [6, 7, 1, 8, 9, 10, 11, 12, 13, 14, 15, 16, 17, 18, 19, 20, 21, 22, 23, 24, 25, 26, 27, 28] (by decide +kernel) (by decide +kernel)
set_option maxRecDepth 20000 in
theorem gX6_growOlder_X6_isAlive : GoodIn wsX6_growOlder (wsV RX6 50 RX6 yX6_isAlive wsX6_isAlive) := goodIn_app (goodIn_of _ (by decide +kernel)) ggX6_growOlder_X6_isAlive
theorem dX6_growOlder_0 : decode cX6_growOlder 0 = .ok (.aload_n 0, 1) := by decide +kernel
theorem dX6_growOlder_1 : decode cX6_growOlder 1 = .ok (.iload_n 1, 1) := by decide +kernel
theorem dX6_growOlder_2 : decode cX6_growOlder 2 = .ok (.invokevirtual 50, 3) := by decide +kernel
theorem dX6_growOlder_5 : decode cX6_growOlder 5 = .ok (.ifCond .eq 13, 3) := by decide +kernel
theorem dX6_growOlder_8 : decode cX6_growOlder 8 = .ok (.aload_n 0, 1) := by decide +kernel
theorem dX6_growOlder_9 : decode cX6_growOlder 9 = .ok (.getfield 11, 3) := by decide +kernel
theorem dX6_growOlder_12 : decode cX6_growOlder 12 = .ok (.iload_n 1, 1) := by decide +kernel
theorem dX6_growOlder_13 : decode cX6_growOlder 13 = .ok (.dup2, 1) := by decide +kernel
theorem dX6_growOlder_14 : decode cX6_growOlder 14 = .ok (.iaload, 1) := by decide +kernel
theorem dX6_growOlder_15 : decode cX6_growOlder 15 = .ok (.iload_n 2, 1) := by decide +kernel
theorem dX6_growOlder_16 : decode cX6_growOlder 16 = .ok (.iadd, 1) := by decide +kernel
theorem dX6_growOlder_17 : decode cX6_growOlder 17 = .ok (.iastore, 1) := by decide +kernel
theorem dX6_growOlder_18 : decode cX6_growOlder 18 = .ok (.return_, 1) := by decide +kernel
set_option maxRecDepth 20000 in
theorem ggX6_passDay_X6_isAlive : GoodIn wsX6_passDay wsX6_isAlive := goodIn_r _ [6, 7, 1, 8, 9, 10, 11, 12, 13, 14, 15, 16, 17, 18, 91, 92, 93, 94, 95, 96, 97, 98, 99, 100] (by decide +kernel) (by decide +kernel)
set_option maxRecDepth 20000 in
theorem gX6_passDay_X6_isAlive : GoodIn wsX6_passDay (wsV RX6 50 RX6 yX6_isAlive wsX6_isAlive) := goodIn_app (goodIn_of _ (by decide +kernel)) ggX6_passDay_X6_isAlive
set_option maxRecDepth 20000 in
theorem ggX6_passDay_X6_whisper : GoodIn wsX6_passDay wsX6_whisper := goodIn_r _ [22, 7, 23, 24, 25, 5, 26, 8, 9, 10, 11, 12, 13, 27, 28, 29, 30, 1, 31, 32, 33, 34, 35, 36, 37, 38, 39, 40, 41, 42, 43, 44, 45, 46, 47, 48, 2, 3, 4, 6, 14, 15, 16, 17, 18, 49, 50, 51, 52, 53, 54, 55, 56, 57, 58, 59, 60, 61, 62, 63, 64, 65, 66, 67, 68, 69, 70, 71, 72, 73, 74, 75, 76, 77, 78, 79, 80, 81, 82, 83, 84, 85, 86, 87, 88, 89, 90, 91, 92, 93, 94, 95, 96, 97, 98, 99, 100] (by decide +kernel) (by decide +kernel)
set_option maxRecDepth 20000 in
theorem gX6_passDay_X6_whisper : GoodIn wsX6_passDay (wsV RX6 87 RX6 yX6_whisper wsX6_whisper) := goodIn_app (goodIn_of _ (by decide +kernel)) ggX6_passDay_X6_whisper
theorem dX6_passDay_0 : decode cX6_passDay 0 = .ok (.iconst 0, 1) := by decide +kernel
theorem dX6_passDay_1 : decode cX6_passDay 1 = .ok (.istore_n 1, 1) := by decide +kernel
theorem dX6_passDay_2 : decode cX6_passDay 2 = .ok (.iconst 0, 1) := by decide +kernel
theorem dX6_passDay_3 : decode cX6_passDay 3 = .ok (.istore_n 2, 1) := by decide +kernel
theorem dX6_passDay_4 : decode cX6_passDay 4 = .ok (.iload_n 2, 1) := by decide +kernel
theorem dX6_passDay_5 : decode cX6_passDay 5 = .ok (.bipush 6, 2) := by decide +kernel
theorem dX6_passDay_7 : decode cX6_passDay 7 = .ok (.if_icmp .ge 25, 3) := by decide +kernel
theorem dX6_passDay_10 : decode cX6_passDay 10 = .ok (.aload_n 0, 1) := by decide +kernel
theorem dX6_passDay_11 : decode cX6_passDay 11 = .ok (.iload_n 2, 1) := by decide +kernel
theorem dX6_passDay_12 : decode cX6_passDay 12 = .ok (.invokevirtual 50, 3) := by decide +kernel
theorem dX6_passDay_15 : decode cX6_passDay 15 = .ok (.ifCond .eq 11, 3) := by decide +kernel
theorem dX6_passDay_18 : decode cX6_passDay 18 = .ok (.iload_n 1, 1) := by decide +kernel
theorem dX6_passDay_19 : decode cX6_passDay 19 = .ok (.aload_n 0, 1) := by decide +kernel
theorem dX6_passDay_20 : decode cX6_passDay 20 = .ok (.iload_n 2, 1) := by decide +kernel
theorem dX6_passDay_21 : decode cX6_passDay 21 = .ok (.invokevirtual 87, 3) := by decide +kernel
theorem dX6_passDay_24 : decode cX6_passDay 24 = .ok (.iadd, 1) := by decide +kernel
theorem dX6_passDay_25 : decode cX6_passDay 25 = .ok (.istore_n 1, 1) := by decide +kernel
theorem dX6_passDay_26 : decode cX6_passDay 26 = .ok (.iinc 2 1, 3) := by decide +kernel
theorem dX6_passDay_29 : decode cX6_passDay 29 = .ok (.goto (-25), 3) := by decide +kernel
theorem dX6_passDay_32 : decode cX6_passDay 32 = .ok (.aload_n 0, 1) := by decide +kernel
theorem dX6_passDay_33 : decode cX6_passDay 33 = .ok (.getfield 11, 3) := by decide +kernel
theorem dX6_passDay_36 : decode cX6_passDay 36 = .ok (.bipush 14, 2) := by decide +kernel
theorem dX6_passDay_38 : decode cX6_passDay 38 = .ok (.dup2, 1) := by decide +kernel
theorem dX6_passDay_39 : decode cX6_passDay 39 = .ok (.iaload, 1) := by decide +kernel
theorem dX6_passDay_40 : decode cX6_passDay 40 = .ok (.iconst 1, 1) := by decide +kernel
theorem dX6_passDay_41 : decode cX6_passDay 41 = .ok (.iadd, 1) := by decide +kernel
theorem dX6_passDay_42 : decode cX6_passDay 42 = .ok (.iastore, 1) := by decide +kernel
theorem dX6_passDay_43 : decode cX6_passDay 43 = .ok (.iload_n 1, 1) := by decide +kernel
theorem dX6_passDay_44 : decode cX6_passDay 44 = .ok (.ireturn, 1) := by decide +kernel
set_option maxRecDepth 20000 in
theorem ggX6_whisper_X6_knows : GoodIn wsX6_whisper wsX6_knows := goodIn_r _ [6, 1, 7, 8, 9, 10, 11, 12, 13, 14, 15, 5, 16, 17, 18, 19, 20, 21, 22, 23, 24, 25, 87, 88, 89, 90, 91, 92, 93, 94, 95, 96] (by decide +kernel) (by decide +kernel)
set_option maxRecDepth 20000 in
theorem gX6_whisper_X6_knows : GoodIn wsX6_whisper (wsV RX6 59 RX6 yX6_knows wsX6_knows) := goodIn_app (goodIn_of _ (by decide +kernel)) ggX6_whisper_X6_knows
set_option maxRecDepth 20000 in
theorem ggX6_whisper_X7_ownerOf : GoodIn wsX6_whisper wsX7_ownerOf := goodIn_r _ [29, 30, 31, 19, 20, 10, 21, 22, 89, 90, 91, 92, 93, 94, 95, 96] (by decide +kernel) (by decide +kernel)
set_option maxRecDepth 20000 in
theorem gX6_whisper_X7_ownerOf : GoodIn wsX6_whisper (wsV RX6 62 RX7 yX7_ownerOf wsX7_ownerOf) := goodIn_app (goodIn_of _ (by decide +kernel)) ggX6_whisper_X7_ownerOf
set_option maxRecDepth 20000 in
theorem ggX6_whisper_X6_meetsOf : GoodIn wsX6_whisper wsX6_meetsOf := goodIn_r _ [35, 1, 36, 37, 38, 5, 39, 17, 7, 8, 9, 10, 11, 12, 40, 41, 42, 43, 44, 45, 46, 47, 48, 49, 50, 51, 52, 53, 54, 87, 88, 89, 90, 91, 92, 93, 94, 95, 96] (by decide +kernel) (by decide +kernel)
set_option maxRecDepth 20000 in
theorem gX6_whisper_X6_meetsOf : GoodIn wsX6_whisper (wsV RX6 90 RX6 yX6_meetsOf wsX6_meetsOf) := goodIn_app (goodIn_of _ (by decide +kernel)) ggX6_whisper_X6_meetsOf
set_option maxRecDepth 20000 in
theorem ggX6_whisper_X6_knowersOf : GoodIn wsX6_whisper wsX6_knowersOf := goodIn_r _ [16, 1, 17, 18, 19, 20, 10, 21, 22, 87, 88, 89, 90, 91, 92, 93, 94, 95, 96] (by decide +kernel) (by decide +kernel)
set_option maxRecDepth 20000 in
theorem gX6_whisper_X6_knowersOf : GoodIn wsX6_whisper (wsV RX6 43 RX6 yX6_knowersOf wsX6_knowersOf) := goodIn_app (goodIn_of _ (by decide +kernel)) ggX6_whisper_X6_knowersOf
set_option maxRecDepth 20000 in
theorem ggX6_whisper_X8_lowestOf : GoodIn wsX6_whisper wsX8_lowestOf := goodIn_r _ [56, 57, 23, 24, 25] (by decide +kernel) (by decide +kernel)
set_option maxRecDepth 20000 in
theorem gX6_whisper_X8_lowestOf_n93 : GoodIn wsX6_whisper (wsX8_lowestOf) := ggX6_whisper_X8_lowestOf
set_option maxRecDepth 20000 in
theorem ggX6_whisper_X6_speak : GoodIn wsX6_whisper wsX6_speak := goodIn_r _ [61, 1, 17, 18, 19, 20, 10, 21, 22, 26, 27, 28, 29, 30, 31, 51, 52, 53, 5, 54, 36, 37, 38, 39, 7, 8, 9, 11, 12, 40, 41, 42, 43, 44, 13, 14, 15, 16, 62, 63, 64, 65, 66, 67, 68, 69, 70, 71, 72, 73, 50, 74, 75, 76, 77, 78, 24, 79, 80, 81, 82, 83, 84, 85, 86, 23, 25, 87, 88, 89, 90, 91, 92, 93, 94, 95, 96] (by decide +kernel) (by decide +kernel)
set_option maxRecDepth 20000 in
theorem gX6_whisper_X6_speak : GoodIn wsX6_whisper (wsV RX6 96 RX6 yX6_speak wsX6_speak) := goodIn_app (goodIn_of _ (by decide +kernel)) ggX6_whisper_X6_speak
theorem dX6_whisper_0 : decode cX6_whisper 0 = .ok (.iconst 0, 1) := by decide +kernel
theorem dX6_whisper_1 : decode cX6_whisper 1 = .ok (.istore_n 2, 1) := by decide +kernel
theorem dX6_whisper_2 : decode cX6_whisper 2 = .ok (.iload_n 2, 1) := by decide +kernel
theorem dX6_whisper_3 : decode cX6_whisper 3 = .ok (.bipush 8, 2) := by decide +kernel
theorem dX6_whisper_5 : decode cX6_whisper 5 = .ok (.if_icmp .ge 61, 3) := by decide +kernel
theorem dX6_whisper_8 : decode cX6_whisper 8 = .ok (.aload_n 0, 1) := by decide +kernel
theorem dX6_whisper_9 : decode cX6_whisper 9 = .ok (.iload_n 1, 1) := by decide +kernel
theorem dX6_whisper_10 : decode cX6_whisper 10 = .ok (.iload_n 2, 1) := by decide +kernel
theorem dX6_whisper_11 : decode cX6_whisper 11 = .ok (.invokevirtual 59, 3) := by decide +kernel
theorem dX6_whisper_14 : decode cX6_whisper 14 = .ok (.ifCond .eq 46, 3) := by decide +kernel
theorem dX6_whisper_17 : decode cX6_whisper 17 = .ok (.aload_n 0, 1) := by decide +kernel
theorem dX6_whisper_18 : decode cX6_whisper 18 = .ok (.getfield 15, 3) := by decide +kernel
theorem dX6_whisper_21 : decode cX6_whisper 21 = .ok (.iload_n 2, 1) := by decide +kernel
theorem dX6_whisper_22 : decode cX6_whisper 22 = .ok (.invokevirtual 62, 3) := by decide +kernel
theorem dX6_whisper_25 : decode cX6_whisper 25 = .ok (.iload_n 1, 1) := by decide +kernel
theorem dX6_whisper_26 : decode cX6_whisper 26 = .ok (.if_icmp .eq 34, 3) := by decide +kernel
theorem dX6_whisper_29 : decode cX6_whisper 29 = .ok (.aload_n 0, 1) := by decide +kernel
theorem dX6_whisper_30 : decode cX6_whisper 30 = .ok (.iload_n 1, 1) := by decide +kernel
theorem dX6_whisper_31 : decode cX6_whisper 31 = .ok (.invokevirtual 90, 3) := by decide +kernel
theorem dX6_whisper_34 : decode cX6_whisper 34 = .ok (.aload_n 0, 1) := by decide +kernel
theorem dX6_whisper_35 : decode cX6_whisper 35 = .ok (.iload_n 2, 1) := by decide +kernel
theorem dX6_whisper_36 : decode cX6_whisper 36 = .ok (.invokevirtual 43, 3) := by decide +kernel
theorem dX6_whisper_39 : decode cX6_whisper 39 = .ok (.iconst (-1), 1) := by decide +kernel
theorem dX6_whisper_40 : decode cX6_whisper 40 = .ok (.ixor, 1) := by decide +kernel
theorem dX6_whisper_41 : decode cX6_whisper 41 = .ok (.iand, 1) := by decide +kernel
theorem dX6_whisper_42 : decode cX6_whisper 42 = .ok (.istore_n 3, 1) := by decide +kernel
theorem dX6_whisper_43 : decode cX6_whisper 43 = .ok (.iload_n 3, 1) := by decide +kernel
theorem dX6_whisper_44 : decode cX6_whisper 44 = .ok (.ifCond .eq 16, 3) := by decide +kernel
theorem dX6_whisper_47 : decode cX6_whisper 47 = .ok (.aload_n 0, 1) := by decide +kernel
theorem dX6_whisper_48 : decode cX6_whisper 48 = .ok (.iload_n 1, 1) := by decide +kernel
theorem dX6_whisper_49 : decode cX6_whisper 49 = .ok (.iload_n 2, 1) := by decide +kernel
theorem dX6_whisper_50 : decode cX6_whisper 50 = .ok (.iconst 1, 1) := by decide +kernel
theorem dX6_whisper_51 : decode cX6_whisper 51 = .ok (.iload_n 3, 1) := by decide +kernel
theorem dX6_whisper_52 : decode cX6_whisper 52 = .ok (.invokestatic 93, 3) := by decide +kernel
theorem dX6_whisper_55 : decode cX6_whisper 55 = .ok (.ishl, 1) := by decide +kernel
theorem dX6_whisper_56 : decode cX6_whisper 56 = .ok (.invokevirtual 96, 3) := by decide +kernel
theorem dX6_whisper_59 : decode cX6_whisper 59 = .ok (.ireturn, 1) := by decide +kernel
theorem dX6_whisper_60 : decode cX6_whisper 60 = .ok (.iinc 2 1, 3) := by decide +kernel
theorem dX6_whisper_63 : decode cX6_whisper 63 = .ok (.goto (-61), 3) := by decide +kernel
theorem dX6_whisper_66 : decode cX6_whisper 66 = .ok (.iconst 0, 1) := by decide +kernel
theorem dX6_whisper_67 : decode cX6_whisper 67 = .ok (.ireturn, 1) := by decide +kernel
theorem dX7_init_0 : decode cX7_init 0 = .ok (.aload_n 0, 1) := by decide +kernel
theorem dX7_init_1 : decode cX7_init 1 = .ok (.invokespecial 3, 3) := by decide +kernel
theorem dX7_init_4 : decode cX7_init 4 = .ok (.aload_n 0, 1) := by decide +kernel
theorem dX7_init_5 : decode cX7_init 5 = .ok (.bipush 6, 2) := by decide +kernel
theorem dX7_init_7 : decode cX7_init 7 = .ok (.newarray .int, 2) := by decide +kernel
theorem dX7_init_9 : decode cX7_init 9 = .ok (.putfield 9, 3) := by decide +kernel
theorem dX7_init_12 : decode cX7_init 12 = .ok (.aload_n 0, 1) := by decide +kernel
theorem dX7_init_13 : decode cX7_init 13 = .ok (.bipush 6, 2) := by decide +kernel
theorem dX7_init_15 : decode cX7_init 15 = .ok (.newarray .int, 2) := by decide +kernel
theorem dX7_init_17 : decode cX7_init 17 = .ok (.putfield 15, 3) := by decide +kernel
theorem dX7_init_20 : decode cX7_init 20 = .ok (.aload_n 0, 1) := by decide +kernel
theorem dX7_init_21 : decode cX7_init 21 = .ok (.bipush 6, 2) := by decide +kernel
theorem dX7_init_23 : decode cX7_init 23 = .ok (.newarray .int, 2) := by decide +kernel
theorem dX7_init_25 : decode cX7_init 25 = .ok (.putfield 18, 3) := by decide +kernel
theorem dX7_init_28 : decode cX7_init 28 = .ok (.aload_n 0, 1) := by decide +kernel
theorem dX7_init_29 : decode cX7_init 29 = .ok (.bipush 8, 2) := by decide +kernel
theorem dX7_init_31 : decode cX7_init 31 = .ok (.newarray .int, 2) := by decide +kernel
theorem dX7_init_33 : decode cX7_init 33 = .ok (.putfield 21, 3) := by decide +kernel
theorem dX7_init_36 : decode cX7_init 36 = .ok (.aload_n 0, 1) := by decide +kernel
theorem dX7_init_37 : decode cX7_init 37 = .ok (.bipush 8, 2) := by decide +kernel
theorem dX7_init_39 : decode cX7_init 39 = .ok (.newarray .int, 2) := by decide +kernel
theorem dX7_init_41 : decode cX7_init 41 = .ok (.putfield 24, 3) := by decide +kernel
theorem dX7_init_44 : decode cX7_init 44 = .ok (.aload_n 0, 1) := by decide +kernel
theorem dX7_init_45 : decode cX7_init 45 = .ok (.iconst 0, 1) := by decide +kernel
theorem dX7_init_46 : decode cX7_init 46 = .ok (.putfield 27, 3) := by decide +kernel
theorem dX7_init_49 : decode cX7_init 49 = .ok (.aload_n 0, 1) := by decide +kernel
theorem dX7_init_50 : decode cX7_init 50 = .ok (.iconst 0, 1) := by decide +kernel
theorem dX7_init_51 : decode cX7_init 51 = .ok (.putfield 31, 3) := by decide +kernel
theorem dX7_init_54 : decode cX7_init 54 = .ok (.aload_n 0, 1) := by decide +kernel
theorem dX7_init_55 : decode cX7_init 55 = .ok (.bipush 80, 2) := by decide +kernel
theorem dX7_init_57 : decode cX7_init 57 = .ok (.putfield 34, 3) := by decide +kernel
theorem dX7_init_60 : decode cX7_init 60 = .ok (.return_, 1) := by decide +kernel
theorem dX7_clear_0 : decode cX7_clear 0 = .ok (.aload_n 0, 1) := by decide +kernel
theorem dX7_clear_1 : decode cX7_clear 1 = .ok (.iconst 0, 1) := by decide +kernel
theorem dX7_clear_2 : decode cX7_clear 2 = .ok (.putfield 27, 3) := by decide +kernel
theorem dX7_clear_5 : decode cX7_clear 5 = .ok (.aload_n 0, 1) := by decide +kernel
theorem dX7_clear_6 : decode cX7_clear 6 = .ok (.iconst 0, 1) := by decide +kernel
theorem dX7_clear_7 : decode cX7_clear 7 = .ok (.putfield 31, 3) := by decide +kernel
theorem dX7_clear_10 : decode cX7_clear 10 = .ok (.aload_n 0, 1) := by decide +kernel
theorem dX7_clear_11 : decode cX7_clear 11 = .ok (.bipush 80, 2) := by decide +kernel
theorem dX7_clear_13 : decode cX7_clear 13 = .ok (.putfield 34, 3) := by decide +kernel
theorem dX7_clear_16 : decode cX7_clear 16 = .ok (.return_, 1) := by decide +kernel
theorem dX7_addPerson_0 : decode cX7_addPerson 0 = .ok (.aload_n 0, 1) := by decide +kernel
theorem dX7_addPerson_1 : decode cX7_addPerson 1 = .ok (.getfield 27, 3) := by decide +kernel
theorem dX7_addPerson_4 : decode cX7_addPerson 4 = .ok (.ifCond .lt 23, 3) := by decide +kernel
theorem dX7_addPerson_7 : decode cX7_addPerson 7 = .ok (.aload_n 0, 1) := by decide +kernel
theorem dX7_addPerson_8 : decode cX7_addPerson 8 = .ok (.getfield 27, 3) := by decide +kernel
theorem dX7_addPerson_11 : decode cX7_addPerson 11 = .ok (.bipush 6, 2) := by decide +kernel
theorem dX7_addPerson_13 : decode cX7_addPerson 13 = .ok (.if_icmp .ge 14, 3) := by decide +kernel
theorem dX7_addPerson_16 : decode cX7_addPerson 16 = .ok (.iload_n 1, 1) := by decide +kernel
theorem dX7_addPerson_17 : decode cX7_addPerson 17 = .ok (.bipush 60, 2) := by decide +kernel
theorem dX7_addPerson_19 : decode cX7_addPerson 19 = .ok (.if_icmp .gt 8, 3) := by decide +kernel
theorem dX7_addPerson_22 : decode cX7_addPerson 22 = .ok (.iload_n 2, 1) := by decide +kernel
theorem dX7_addPerson_23 : decode cX7_addPerson 23 = .ok (.iconst 5, 1) := by decide +kernel
theorem dX7_addPerson_24 : decode cX7_addPerson 24 = .ok (.if_icmp .lt 5, 3) := by decide +kernel
theorem dX7_addPerson_27 : decode cX7_addPerson 27 = .ok (.iconst 0, 1) := by decide +kernel
theorem dX7_addPerson_28 : decode cX7_addPerson 28 = .ok (.ireturn, 1) := by decide +kernel
theorem dX7_addPerson_29 : decode cX7_addPerson 29 = .ok (.aload_n 0, 1) := by decide +kernel
theorem dX7_addPerson_30 : decode cX7_addPerson 30 = .ok (.getfield 9, 3) := by decide +kernel
theorem dX7_addPerson_33 : decode cX7_addPerson 33 = .ok (.aload_n 0, 1) := by decide +kernel
theorem dX7_addPerson_34 : decode cX7_addPerson 34 = .ok (.getfield 27, 3) := by decide +kernel
theorem dX7_addPerson_37 : decode cX7_addPerson 37 = .ok (.iload_n 1, 1) := by decide +kernel
theorem dX7_addPerson_38 : decode cX7_addPerson 38 = .ok (.iastore, 1) := by decide +kernel
theorem dX7_addPerson_39 : decode cX7_addPerson 39 = .ok (.aload_n 0, 1) := by decide +kernel
theorem dX7_addPerson_40 : decode cX7_addPerson 40 = .ok (.getfield 15, 3) := by decide +kernel
theorem dX7_addPerson_43 : decode cX7_addPerson 43 = .ok (.aload_n 0, 1) := by decide +kernel
theorem dX7_addPerson_44 : decode cX7_addPerson 44 = .ok (.getfield 27, 3) := by decide +kernel
theorem dX7_addPerson_47 : decode cX7_addPerson 47 = .ok (.iload_n 2, 1) := by decide +kernel
theorem dX7_addPerson_48 : decode cX7_addPerson 48 = .ok (.iastore, 1) := by decide +kernel
theorem dX7_addPerson_49 : decode cX7_addPerson 49 = .ok (.aload_n 0, 1) := by decide +kernel
theorem dX7_addPerson_50 : decode cX7_addPerson 50 = .ok (.getfield 18, 3) := by decide +kernel
theorem dX7_addPerson_53 : decode cX7_addPerson 53 = .ok (.aload_n 0, 1) := by decide +kernel
theorem dX7_addPerson_54 : decode cX7_addPerson 54 = .ok (.getfield 27, 3) := by decide +kernel
theorem dX7_addPerson_57 : decode cX7_addPerson 57 = .ok (.iconst 0, 1) := by decide +kernel
theorem dX7_addPerson_58 : decode cX7_addPerson 58 = .ok (.iastore, 1) := by decide +kernel
theorem dX7_addPerson_59 : decode cX7_addPerson 59 = .ok (.aload_n 0, 1) := by decide +kernel
theorem dX7_addPerson_60 : decode cX7_addPerson 60 = .ok (.dup, 1) := by decide +kernel
theorem dX7_addPerson_61 : decode cX7_addPerson 61 = .ok (.getfield 27, 3) := by decide +kernel
theorem dX7_addPerson_64 : decode cX7_addPerson 64 = .ok (.iconst 1, 1) := by decide +kernel
theorem dX7_addPerson_65 : decode cX7_addPerson 65 = .ok (.iadd, 1) := by decide +kernel
theorem dX7_addPerson_66 : decode cX7_addPerson 66 = .ok (.putfield 27, 3) := by decide +kernel
theorem dX7_addPerson_69 : decode cX7_addPerson 69 = .ok (.iconst 1, 1) := by decide +kernel
theorem dX7_addPerson_70 : decode cX7_addPerson 70 = .ok (.ireturn, 1) := by decide +kernel
set_option maxRecDepth 20000 in
theorem ggX7_addMeeting_X7_hasPerson : GoodIn wsX7_addMeeting wsX7_hasPerson := goodIn_r _ [6, 7, 8, 9, 10, 11, 12, 13, 14, 15] (by decide +kernel) (by decide +kernel)
set_option maxRecDepth 20000 in
theorem gX7_addMeeting_X7_hasPerson : GoodIn wsX7_addMeeting (wsV RX7 37 RX7 yX7_hasPerson wsX7_hasPerson) := goodIn_app (goodIn_of _ (by decide +kernel)) ggX7_addMeeting_X7_hasPerson
theorem dX7_addMeeting_0 : decode cX7_addMeeting 0 = .ok (.aload_n 0, 1) := by decide +kernel
theorem dX7_addMeeting_1 : decode cX7_addMeeting 1 = .ok (.iload_n 1, 1) := by decide +kernel
theorem dX7_addMeeting_2 : decode cX7_addMeeting 2 = .ok (.invokevirtual 37, 3) := by decide +kernel
theorem dX7_addMeeting_5 : decode cX7_addMeeting 5 = .ok (.ifCond .eq 16, 3) := by decide +kernel
theorem dX7_addMeeting_8 : decode cX7_addMeeting 8 = .ok (.aload_n 0, 1) := by decide +kernel
theorem dX7_addMeeting_9 : decode cX7_addMeeting 9 = .ok (.iload_n 2, 1) := by decide +kernel
theorem dX7_addMeeting_10 : decode cX7_addMeeting 10 = .ok (.invokevirtual 37, 3) := by decide +kernel
theorem dX7_addMeeting_13 : decode cX7_addMeeting 13 = .ok (.ifCond .eq 8, 3) := by decide +kernel
theorem dX7_addMeeting_16 : decode cX7_addMeeting 16 = .ok (.iload_n 1, 1) := by decide +kernel
theorem dX7_addMeeting_17 : decode cX7_addMeeting 17 = .ok (.iload_n 2, 1) := by decide +kernel
theorem dX7_addMeeting_18 : decode cX7_addMeeting 18 = .ok (.if_icmp .ne 5, 3) := by decide +kernel
theorem dX7_addMeeting_21 : decode cX7_addMeeting 21 = .ok (.iconst 0, 1) := by decide +kernel
theorem dX7_addMeeting_22 : decode cX7_addMeeting 22 = .ok (.ireturn, 1) := by decide +kernel
theorem dX7_addMeeting_23 : decode cX7_addMeeting 23 = .ok (.aload_n 0, 1) := by decide +kernel
theorem dX7_addMeeting_24 : decode cX7_addMeeting 24 = .ok (.getfield 18, 3) := by decide +kernel
theorem dX7_addMeeting_27 : decode cX7_addMeeting 27 = .ok (.iload_n 1, 1) := by decide +kernel
theorem dX7_addMeeting_28 : decode cX7_addMeeting 28 = .ok (.dup2, 1) := by decide +kernel
theorem dX7_addMeeting_29 : decode cX7_addMeeting 29 = .ok (.iaload, 1) := by decide +kernel
theorem dX7_addMeeting_30 : decode cX7_addMeeting 30 = .ok (.iconst 1, 1) := by decide +kernel
theorem dX7_addMeeting_31 : decode cX7_addMeeting 31 = .ok (.iload_n 2, 1) := by decide +kernel
theorem dX7_addMeeting_32 : decode cX7_addMeeting 32 = .ok (.ishl, 1) := by decide +kernel
theorem dX7_addMeeting_33 : decode cX7_addMeeting 33 = .ok (.ior, 1) := by decide +kernel
theorem dX7_addMeeting_34 : decode cX7_addMeeting 34 = .ok (.iastore, 1) := by decide +kernel
theorem dX7_addMeeting_35 : decode cX7_addMeeting 35 = .ok (.aload_n 0, 1) := by decide +kernel
theorem dX7_addMeeting_36 : decode cX7_addMeeting 36 = .ok (.getfield 18, 3) := by decide +kernel
theorem dX7_addMeeting_39 : decode cX7_addMeeting 39 = .ok (.iload_n 2, 1) := by decide +kernel
theorem dX7_addMeeting_40 : decode cX7_addMeeting 40 = .ok (.dup2, 1) := by decide +kernel
theorem dX7_addMeeting_41 : decode cX7_addMeeting 41 = .ok (.iaload, 1) := by decide +kernel
theorem dX7_addMeeting_42 : decode cX7_addMeeting 42 = .ok (.iconst 1, 1) := by decide +kernel
theorem dX7_addMeeting_43 : decode cX7_addMeeting 43 = .ok (.iload_n 1, 1) := by decide +kernel
theorem dX7_addMeeting_44 : decode cX7_addMeeting 44 = .ok (.ishl, 1) := by decide +kernel
theorem dX7_addMeeting_45 : decode cX7_addMeeting 45 = .ok (.ior, 1) := by decide +kernel
theorem dX7_addMeeting_46 : decode cX7_addMeeting 46 = .ok (.iastore, 1) := by decide +kernel
theorem dX7_addMeeting_47 : decode cX7_addMeeting 47 = .ok (.iconst 1, 1) := by decide +kernel
theorem dX7_addMeeting_48 : decode cX7_addMeeting 48 = .ok (.ireturn, 1) := by decide +kernel
set_option maxRecDepth 20000 in
theorem ggX7_addSecret_X7_hasPerson : GoodIn wsX7_addSecret wsX7_hasPerson := goodIn_r _ [8, 9, 10, 11, 12, 13, 14, 15, 16, 17] (by decide +kernel) (by decide +kernel)
set_option maxRecDepth 20000 in
theorem gX7_addSecret_X7_hasPerson : GoodIn wsX7_addSecret (wsV RX7 37 RX7 yX7_hasPerson wsX7_hasPerson) := goodIn_app (goodIn_of _ (by decide +kernel)) ggX7_addSecret_X7_hasPerson
theorem dX7_addSecret_0 : decode cX7_addSecret 0 = .ok (.aload_n 0, 1) := by decide +kernel
theorem dX7_addSecret_1 : decode cX7_addSecret 1 = .ok (.getfield 31, 3) := by decide +kernel
theorem dX7_addSecret_4 : decode cX7_addSecret 4 = .ok (.ifCond .lt 26, 3) := by decide +kernel
theorem dX7_addSecret_7 : decode cX7_addSecret 7 = .ok (.aload_n 0, 1) := by decide +kernel
theorem dX7_addSecret_8 : decode cX7_addSecret 8 = .ok (.getfield 31, 3) := by decide +kernel
theorem dX7_addSecret_11 : decode cX7_addSecret 11 = .ok (.bipush 8, 2) := by decide +kernel
theorem dX7_addSecret_13 : decode cX7_addSecret 13 = .ok (.if_icmp .ge 17, 3) := by decide +kernel
theorem dX7_addSecret_16 : decode cX7_addSecret 16 = .ok (.aload_n 0, 1) := by decide +kernel
theorem dX7_addSecret_17 : decode cX7_addSecret 17 = .ok (.iload_n 1, 1) := by decide +kernel
theorem dX7_addSecret_18 : decode cX7_addSecret 18 = .ok (.invokevirtual 37, 3) := by decide +kernel
theorem dX7_addSecret_21 : decode cX7_addSecret 21 = .ok (.ifCond .eq 9, 3) := by decide +kernel
theorem dX7_addSecret_24 : decode cX7_addSecret 24 = .ok (.iload_n 2, 1) := by decide +kernel
theorem dX7_addSecret_25 : decode cX7_addSecret 25 = .ok (.bipush 63, 2) := by decide +kernel
theorem dX7_addSecret_27 : decode cX7_addSecret 27 = .ok (.if_icmp .le 5, 3) := by decide +kernel
theorem dX7_addSecret_30 : decode cX7_addSecret 30 = .ok (.iconst 0, 1) := by decide +kernel
theorem dX7_addSecret_31 : decode cX7_addSecret 31 = .ok (.ireturn, 1) := by decide +kernel
theorem dX7_addSecret_32 : decode cX7_addSecret 32 = .ok (.aload_n 0, 1) := by decide +kernel
theorem dX7_addSecret_33 : decode cX7_addSecret 33 = .ok (.getfield 21, 3) := by decide +kernel
theorem dX7_addSecret_36 : decode cX7_addSecret 36 = .ok (.aload_n 0, 1) := by decide +kernel
theorem dX7_addSecret_37 : decode cX7_addSecret 37 = .ok (.getfield 31, 3) := by decide +kernel
theorem dX7_addSecret_40 : decode cX7_addSecret 40 = .ok (.iload_n 1, 1) := by decide +kernel
theorem dX7_addSecret_41 : decode cX7_addSecret 41 = .ok (.iastore, 1) := by decide +kernel
theorem dX7_addSecret_42 : decode cX7_addSecret 42 = .ok (.aload_n 0, 1) := by decide +kernel
theorem dX7_addSecret_43 : decode cX7_addSecret 43 = .ok (.getfield 24, 3) := by decide +kernel
theorem dX7_addSecret_46 : decode cX7_addSecret 46 = .ok (.aload_n 0, 1) := by decide +kernel
theorem dX7_addSecret_47 : decode cX7_addSecret 47 = .ok (.getfield 31, 3) := by decide +kernel
theorem dX7_addSecret_50 : decode cX7_addSecret 50 = .ok (.iload_n 2, 1) := by decide +kernel
theorem dX7_addSecret_51 : decode cX7_addSecret 51 = .ok (.iconst 1, 1) := by decide +kernel
theorem dX7_addSecret_52 : decode cX7_addSecret 52 = .ok (.iload_n 1, 1) := by decide +kernel
theorem dX7_addSecret_53 : decode cX7_addSecret 53 = .ok (.ishl, 1) := by decide +kernel
theorem dX7_addSecret_54 : decode cX7_addSecret 54 = .ok (.ior, 1) := by decide +kernel
theorem dX7_addSecret_55 : decode cX7_addSecret 55 = .ok (.iastore, 1) := by decide +kernel
theorem dX7_addSecret_56 : decode cX7_addSecret 56 = .ok (.aload_n 0, 1) := by decide +kernel
theorem dX7_addSecret_57 : decode cX7_addSecret 57 = .ok (.dup, 1) := by decide +kernel
theorem dX7_addSecret_58 : decode cX7_addSecret 58 = .ok (.getfield 31, 3) := by decide +kernel
theorem dX7_addSecret_61 : decode cX7_addSecret 61 = .ok (.iconst 1, 1) := by decide +kernel
theorem dX7_addSecret_62 : decode cX7_addSecret 62 = .ok (.iadd, 1) := by decide +kernel
theorem dX7_addSecret_63 : decode cX7_addSecret 63 = .ok (.putfield 31, 3) := by decide +kernel
theorem dX7_addSecret_66 : decode cX7_addSecret 66 = .ok (.iconst 1, 1) := by decide +kernel
theorem dX7_addSecret_67 : decode cX7_addSecret 67 = .ok (.ireturn, 1) := by decide +kernel
theorem dX7_addDeath_0 : decode cX7_addDeath 0 = .ok (.iload_n 1, 1) := by decide +kernel
theorem dX7_addDeath_1 : decode cX7_addDeath 1 = .ok (.iconst 1, 1) := by decide +kernel
theorem dX7_addDeath_2 : decode cX7_addDeath 2 = .ok (.if_icmp .lt 9, 3) := by decide +kernel
theorem dX7_addDeath_5 : decode cX7_addDeath 5 = .ok (.iload_n 1, 1) := by decide +kernel
theorem dX7_addDeath_6 : decode cX7_addDeath 6 = .ok (.bipush 99, 2) := by decide +kernel
theorem dX7_addDeath_8 : decode cX7_addDeath 8 = .ok (.if_icmp .le 5, 3) := by decide +kernel
theorem dX7_addDeath_11 : decode cX7_addDeath 11 = .ok (.iconst 0, 1) := by decide +kernel
theorem dX7_addDeath_12 : decode cX7_addDeath 12 = .ok (.ireturn, 1) := by decide +kernel
theorem dX7_addDeath_13 : decode cX7_addDeath 13 = .ok (.aload_n 0, 1) := by decide +kernel
theorem dX7_addDeath_14 : decode cX7_addDeath 14 = .ok (.iload_n 1, 1) := by decide +kernel
theorem dX7_addDeath_15 : decode cX7_addDeath 15 = .ok (.putfield 34, 3) := by decide +kernel
theorem dX7_addDeath_18 : decode cX7_addDeath 18 = .ok (.iconst 1, 1) := by decide +kernel
theorem dX7_addDeath_19 : decode cX7_addDeath 19 = .ok (.ireturn, 1) := by decide +kernel
theorem dX7_canLive_0 : decode cX7_canLive 0 = .ok (.iconst 0, 1) := by decide +kernel
theorem dX7_canLive_1 : decode cX7_canLive 1 = .ok (.istore_n 1, 1) := by decide +kernel
theorem dX7_canLive_2 : decode cX7_canLive 2 = .ok (.iload_n 1, 1) := by decide +kernel
theorem dX7_canLive_3 : decode cX7_canLive 3 = .ok (.bipush 6, 2) := by decide +kernel
theorem dX7_canLive_5 : decode cX7_canLive 5 = .ok (.if_icmp .ge 32, 3) := by decide +kernel
theorem dX7_canLive_8 : decode cX7_canLive 8 = .ok (.iload_n 1, 1) := by decide +kernel
theorem dX7_canLive_9 : decode cX7_canLive 9 = .ok (.aload_n 0, 1) := by decide +kernel
theorem dX7_canLive_10 : decode cX7_canLive 10 = .ok (.getfield 27, 3) := by decide +kernel
theorem dX7_canLive_13 : decode cX7_canLive 13 = .ok (.if_icmp .ge 18, 3) := by decide +kernel
theorem dX7_canLive_16 : decode cX7_canLive 16 = .ok (.aload_n 0, 1) := by decide +kernel
theorem dX7_canLive_17 : decode cX7_canLive 17 = .ok (.getfield 9, 3) := by decide +kernel
theorem dX7_canLive_20 : decode cX7_canLive 20 = .ok (.iload_n 1, 1) := by decide +kernel
theorem dX7_canLive_21 : decode cX7_canLive 21 = .ok (.iaload, 1) := by decide +kernel
theorem dX7_canLive_22 : decode cX7_canLive 22 = .ok (.aload_n 0, 1) := by decide +kernel
theorem dX7_canLive_23 : decode cX7_canLive 23 = .ok (.getfield 34, 3) := by decide +kernel
theorem dX7_canLive_26 : decode cX7_canLive 26 = .ok (.if_icmp .lt 5, 3) := by decide +kernel
theorem dX7_canLive_29 : decode cX7_canLive 29 = .ok (.iconst 0, 1) := by decide +kernel
theorem dX7_canLive_30 : decode cX7_canLive 30 = .ok (.ireturn, 1) := by decide +kernel
theorem dX7_canLive_31 : decode cX7_canLive 31 = .ok (.iinc 1 1, 3) := by decide +kernel
theorem dX7_canLive_34 : decode cX7_canLive 34 = .ok (.goto (-32), 3) := by decide +kernel
theorem dX7_canLive_37 : decode cX7_canLive 37 = .ok (.aload_n 0, 1) := by decide +kernel
theorem dX7_canLive_38 : decode cX7_canLive 38 = .ok (.getfield 27, 3) := by decide +kernel
theorem dX7_canLive_41 : decode cX7_canLive 41 = .ok (.ifCond .le 7, 3) := by decide +kernel
theorem dX7_canLive_44 : decode cX7_canLive 44 = .ok (.iconst 1, 1) := by decide +kernel
theorem dX7_canLive_45 : decode cX7_canLive 45 = .ok (.goto 4, 3) := by decide +kernel
theorem dX7_canLive_48 : decode cX7_canLive 48 = .ok (.iconst 0, 1) := by decide +kernel
theorem dX7_canLive_49 : decode cX7_canLive 49 = .ok (.ireturn, 1) := by decide +kernel
theorem dX7_people_0 : decode cX7_people 0 = .ok (.aload_n 0, 1) := by decide +kernel
theorem dX7_people_1 : decode cX7_people 1 = .ok (.getfield 27, 3) := by decide +kernel
theorem dX7_people_4 : decode cX7_people 4 = .ok (.ireturn, 1) := by decide +kernel
theorem dX7_secrets_0 : decode cX7_secrets 0 = .ok (.aload_n 0, 1) := by decide +kernel
theorem dX7_secrets_1 : decode cX7_secrets 1 = .ok (.getfield 31, 3) := by decide +kernel
theorem dX7_secrets_4 : decode cX7_secrets 4 = .ok (.ireturn, 1) := by decide +kernel
theorem dX7_deathAge_0 : decode cX7_deathAge 0 = .ok (.aload_n 0, 1) := by decide +kernel
theorem dX7_deathAge_1 : decode cX7_deathAge 1 = .ok (.getfield 34, 3) := by decide +kernel
theorem dX7_deathAge_4 : decode cX7_deathAge 4 = .ok (.ireturn, 1) := by decide +kernel
theorem dX7_hasPerson_0 : decode cX7_hasPerson 0 = .ok (.iload_n 1, 1) := by decide +kernel
theorem dX7_hasPerson_1 : decode cX7_hasPerson 1 = .ok (.ifCond .lt 21, 3) := by decide +kernel
theorem dX7_hasPerson_4 : decode cX7_hasPerson 4 = .ok (.iload_n 1, 1) := by decide +kernel
theorem dX7_hasPerson_5 : decode cX7_hasPerson 5 = .ok (.aload_n 0, 1) := by decide +kernel
theorem dX7_hasPerson_6 : decode cX7_hasPerson 6 = .ok (.getfield 27, 3) := by decide +kernel

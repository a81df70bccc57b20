theorem dX7_hasPerson_9 : decode cX7_hasPerson 9 = .ok (.if_icmp .ge 13, 3) := by decide +kernel
theorem dX7_hasPerson_12 : decode cX7_hasPerson 12 = .ok (.iload_n 1, 1) := by decide +kernel
theorem dX7_hasPerson_13 : decode cX7_hasPerson 13 = .ok (.bipush 6, 2) := by decide +kernel
theorem dX7_hasPerson_15 : decode cX7_hasPerson 15 = .ok (.if_icmp .ge 7, 3) := by decide +kernel
theorem dX7_hasPerson_18 : decode cX7_hasPerson 18 = .ok (.iconst 1, 1) := by decide +kernel
theorem dX7_hasPerson_19 : decode cX7_hasPerson 19 = .ok (.goto 4, 3) := by decide +kernel
theorem dX7_hasPerson_22 : decode cX7_hasPerson 22 = .ok (.iconst 0, 1) := by decide +kernel
theorem dX7_hasPerson_23 : decode cX7_hasPerson 23 = .ok (.ireturn, 1) := by decide +kernel
theorem dX7_hasSecret_0 : decode cX7_hasSecret 0 = .ok (.iload_n 1, 1) := by decide +kernel
theorem dX7_hasSecret_1 : decode cX7_hasSecret 1 = .ok (.ifCond .lt 21, 3) := by decide +kernel
theorem dX7_hasSecret_4 : decode cX7_hasSecret 4 = .ok (.iload_n 1, 1) := by decide +kernel
theorem dX7_hasSecret_5 : decode cX7_hasSecret 5 = .ok (.aload_n 0, 1) := by decide +kernel
theorem dX7_hasSecret_6 : decode cX7_hasSecret 6 = .ok (.getfield 31, 3) := by decide +kernel
theorem dX7_hasSecret_9 : decode cX7_hasSecret 9 = .ok (.if_icmp .ge 13, 3) := by decide +kernel
theorem dX7_hasSecret_12 : decode cX7_hasSecret 12 = .ok (.iload_n 1, 1) := by decide +kernel
theorem dX7_hasSecret_13 : decode cX7_hasSecret 13 = .ok (.bipush 8, 2) := by decide +kernel
theorem dX7_hasSecret_15 : decode cX7_hasSecret 15 = .ok (.if_icmp .ge 7, 3) := by decide +kernel
theorem dX7_hasSecret_18 : decode cX7_hasSecret 18 = .ok (.iconst 1, 1) := by decide +kernel
theorem dX7_hasSecret_19 : decode cX7_hasSecret 19 = .ok (.goto 4, 3) := by decide +kernel
theorem dX7_hasSecret_22 : decode cX7_hasSecret 22 = .ok (.iconst 0, 1) := by decide +kernel
theorem dX7_hasSecret_23 : decode cX7_hasSecret 23 = .ok (.ireturn, 1) := by decide +kernel
set_option maxRecDepth 20000 in
theorem ggX7_kindOf_X7_hasPerson : GoodIn wsX7_kindOf wsX7_hasPerson := goodIn_r _ [6, 7, 8, 9, 10, 11, 12, 13, 14, 15] (by decide +kernel) (by decide +kernel)
set_option maxRecDepth 20000 in
theorem gX7_kindOf_X7_hasPerson : GoodIn wsX7_kindOf (wsV RX7 37 RX7 yX7_hasPerson wsX7_hasPerson) := goodIn_app (goodIn_of _ (by decide +kernel)) ggX7_kindOf_X7_hasPerson
theorem dX7_kindOf_0 : decode cX7_kindOf 0 = .ok (.aload_n 0, 1) := by decide +kernel
theorem dX7_kindOf_1 : decode cX7_kindOf 1 = .ok (.iload_n 1, 1) := by decide +kernel
theorem dX7_kindOf_2 : decode cX7_kindOf 2 = .ok (.invokevirtual 37, 3) := by decide +kernel
theorem dX7_kindOf_5 : decode cX7_kindOf 5 = .ok (.ifCond .eq 12, 3) := by decide +kernel
theorem dX7_kindOf_8 : decode cX7_kindOf 8 = .ok (.aload_n 0, 1) := by decide +kernel
theorem dX7_kindOf_9 : decode cX7_kindOf 9 = .ok (.getfield 15, 3) := by decide +kernel
theorem dX7_kindOf_12 : decode cX7_kindOf 12 = .ok (.iload_n 1, 1) := by decide +kernel
theorem dX7_kindOf_13 : decode cX7_kindOf 13 = .ok (.iaload, 1) := by decide +kernel
theorem dX7_kindOf_14 : decode cX7_kindOf 14 = .ok (.goto 4, 3) := by decide +kernel
theorem dX7_kindOf_17 : decode cX7_kindOf 17 = .ok (.iconst 0, 1) := by decide +kernel
theorem dX7_kindOf_18 : decode cX7_kindOf 18 = .ok (.ireturn, 1) := by decide +kernel
set_option maxRecDepth 20000 in
theorem ggX7_ownerOf_X7_hasSecret : GoodIn wsX7_ownerOf wsX7_hasSecret := goodIn_r _ [6, 7, 8, 9, 10, 11, 12, 13, 14, 15] (by decide +kernel) (by decide +kernel)
set_option maxRecDepth 20000 in
theorem gX7_ownerOf_X7_hasSecret : GoodIn wsX7_ownerOf (wsV RX7 41 RX7 yX7_hasSecret wsX7_hasSecret) := goodIn_app (goodIn_of _ (by decide +kernel)) ggX7_ownerOf_X7_hasSecret
theorem dX7_ownerOf_0 : decode cX7_ownerOf 0 = .ok (.aload_n 0, 1) := by decide +kernel
theorem dX7_ownerOf_1 : decode cX7_ownerOf 1 = .ok (.iload_n 1, 1) := by decide +kernel
theorem dX7_ownerOf_2 : decode cX7_ownerOf 2 = .ok (.invokevirtual 41, 3) := by decide +kernel
theorem dX7_ownerOf_5 : decode cX7_ownerOf 5 = .ok (.ifCond .eq 12, 3) := by decide +kernel
theorem dX7_ownerOf_8 : decode cX7_ownerOf 8 = .ok (.aload_n 0, 1) := by decide +kernel
theorem dX7_ownerOf_9 : decode cX7_ownerOf 9 = .ok (.getfield 21, 3) := by decide +kernel
theorem dX7_ownerOf_12 : decode cX7_ownerOf 12 = .ok (.iload_n 1, 1) := by decide +kernel
theorem dX7_ownerOf_13 : decode cX7_ownerOf 13 = .ok (.iaload, 1) := by decide +kernel
theorem dX7_ownerOf_14 : decode cX7_ownerOf 14 = .ok (.goto 4, 3) := by decide +kernel
theorem dX7_ownerOf_17 : decode cX7_ownerOf 17 = .ok (.iconst 0, 1) := by decide +kernel
theorem dX7_ownerOf_18 : decode cX7_ownerOf 18 = .ok (.ireturn, 1) := by decide +kernel
set_option maxRecDepth 20000 in
theorem ggX7_firstAgeOf_X7_hasPerson : GoodIn wsX7_firstAgeOf wsX7_hasPerson := goodIn_r _ [6, 7, 8, 9, 10, 11, 12, 13, 14, 15] (by decide +kernel) (by decide +kernel)
set_option maxRecDepth 20000 in
theorem gX7_firstAgeOf_X7_hasPerson : GoodIn wsX7_firstAgeOf (wsV RX7 37 RX7 yX7_hasPerson wsX7_hasPerson) := goodIn_app (goodIn_of _ (by decide +kernel)) ggX7_firstAgeOf_X7_hasPerson
theorem dX7_firstAgeOf_0 : decode cX7_firstAgeOf 0 = .ok (.aload_n 0, 1) := by decide +kernel
theorem dX7_firstAgeOf_1 : decode cX7_firstAgeOf 1 = .ok (.iload_n 1, 1) := by decide +kernel
theorem dX7_firstAgeOf_2 : decode cX7_firstAgeOf 2 = .ok (.invokevirtual 37, 3) := by decide +kernel
theorem dX7_firstAgeOf_5 : decode cX7_firstAgeOf 5 = .ok (.ifCond .eq 12, 3) := by decide +kernel
theorem dX7_firstAgeOf_8 : decode cX7_firstAgeOf 8 = .ok (.aload_n 0, 1) := by decide +kernel
theorem dX7_firstAgeOf_9 : decode cX7_firstAgeOf 9 = .ok (.getfield 9, 3) := by decide +kernel
theorem dX7_firstAgeOf_12 : decode cX7_firstAgeOf 12 = .ok (.iload_n 1, 1) := by decide +kernel
theorem dX7_firstAgeOf_13 : decode cX7_firstAgeOf 13 = .ok (.iaload, 1) := by decide +kernel
theorem dX7_firstAgeOf_14 : decode cX7_firstAgeOf 14 = .ok (.goto 4, 3) := by decide +kernel
theorem dX7_firstAgeOf_17 : decode cX7_firstAgeOf 17 = .ok (.iconst 0, 1) := by decide +kernel
theorem dX7_firstAgeOf_18 : decode cX7_firstAgeOf 18 = .ok (.ireturn, 1) := by decide +kernel
set_option maxRecDepth 20000 in
theorem ggX7_meetingsOf_X7_hasPerson : GoodIn wsX7_meetingsOf wsX7_hasPerson := goodIn_r _ [6, 7, 8, 9, 10, 11, 12, 13, 14, 15] (by decide +kernel) (by decide +kernel)
set_option maxRecDepth 20000 in
theorem gX7_meetingsOf_X7_hasPerson : GoodIn wsX7_meetingsOf (wsV RX7 37 RX7 yX7_hasPerson wsX7_hasPerson) := goodIn_app (goodIn_of _ (by decide +kernel)) ggX7_meetingsOf_X7_hasPerson
theorem dX7_meetingsOf_0 : decode cX7_meetingsOf 0 = .ok (.aload_n 0, 1) := by decide +kernel
theorem dX7_meetingsOf_1 : decode cX7_meetingsOf 1 = .ok (.iload_n 1, 1) := by decide +kernel
theorem dX7_meetingsOf_2 : decode cX7_meetingsOf 2 = .ok (.invokevirtual 37, 3) := by decide +kernel
theorem dX7_meetingsOf_5 : decode cX7_meetingsOf 5 = .ok (.ifCond .eq 12, 3) := by decide +kernel
theorem dX7_meetingsOf_8 : decode cX7_meetingsOf 8 = .ok (.aload_n 0, 1) := by decide +kernel
theorem dX7_meetingsOf_9 : decode cX7_meetingsOf 9 = .ok (.getfield 18, 3) := by decide +kernel
theorem dX7_meetingsOf_12 : decode cX7_meetingsOf 12 = .ok (.iload_n 1, 1) := by decide +kernel
theorem dX7_meetingsOf_13 : decode cX7_meetingsOf 13 = .ok (.iaload, 1) := by decide +kernel
theorem dX7_meetingsOf_14 : decode cX7_meetingsOf 14 = .ok (.goto 4, 3) := by decide +kernel
theorem dX7_meetingsOf_17 : decode cX7_meetingsOf 17 = .ok (.iconst 0, 1) := by decide +kernel
theorem dX7_meetingsOf_18 : decode cX7_meetingsOf 18 = .ok (.ireturn, 1) := by decide +kernel
set_option maxRecDepth 20000 in
theorem ggX7_firstKnowersOf_X7_hasSecret : GoodIn wsX7_firstKnowersOf wsX7_hasSecret := goodIn_r _ [7, 8, 9, 10, 11, 12, 13, 14, 15, 16] (by decide +kernel) (by decide +kernel)
set_option maxRecDepth 20000 in
theorem gX7_firstKnowersOf_X7_hasSecret : GoodIn wsX7_firstKnowersOf (wsV RX7 41 RX7 yX7_hasSecret wsX7_hasSecret) := goodIn_app (goodIn_of _ (by decide +kernel)) ggX7_firstKnowersOf_X7_hasSecret
theorem dX7_firstKnowersOf_0 : decode cX7_firstKnowersOf 0 = .ok (.aload_n 0, 1) := by decide +kernel
theorem dX7_firstKnowersOf_1 : decode cX7_firstKnowersOf 1 = .ok (.iload_n 1, 1) := by decide +kernel
theorem dX7_firstKnowersOf_2 : decode cX7_firstKnowersOf 2 = .ok (.invokevirtual 41, 3) := by decide +kernel
theorem dX7_firstKnowersOf_5 : decode cX7_firstKnowersOf 5 = .ok (.ifCond .eq 21, 3) := by decide +kernel
theorem dX7_firstKnowersOf_8 : decode cX7_firstKnowersOf 8 = .ok (.aload_n 0, 1) := by decide +kernel
theorem dX7_firstKnowersOf_9 : decode cX7_firstKnowersOf 9 = .ok (.getfield 24, 3) := by decide +kernel
theorem dX7_firstKnowersOf_12 : decode cX7_firstKnowersOf 12 = .ok (.iload_n 1, 1) := by decide +kernel
theorem dX7_firstKnowersOf_13 : decode cX7_firstKnowersOf 13 = .ok (.iaload, 1) := by decide +kernel
theorem dX7_firstKnowersOf_14 : decode cX7_firstKnowersOf 14 = .ok (.iconst 1, 1) := by decide +kernel
theorem dX7_firstKnowersOf_15 : decode cX7_firstKnowersOf 15 = .ok (.aload_n 0, 1) := by decide +kernel
theorem dX7_firstKnowersOf_16 : decode cX7_firstKnowersOf 16 = .ok (.getfield 27, 3) := by decide +kernel
theorem dX7_firstKnowersOf_19 : decode cX7_firstKnowersOf 19 = .ok (.ishl, 1) := by decide +kernel
theorem dX7_firstKnowersOf_20 : decode cX7_firstKnowersOf 20 = .ok (.iconst 1, 1) := by decide +kernel
theorem dX7_firstKnowersOf_21 : decode cX7_firstKnowersOf 21 = .ok (.isub, 1) := by decide +kernel
theorem dX7_firstKnowersOf_22 : decode cX7_firstKnowersOf 22 = .ok (.iand, 1) := by decide +kernel
theorem dX7_firstKnowersOf_23 : decode cX7_firstKnowersOf 23 = .ok (.goto 4, 3) := by decide +kernel
theorem dX7_firstKnowersOf_26 : decode cX7_firstKnowersOf 26 = .ok (.iconst 0, 1) := by decide +kernel
theorem dX7_firstKnowersOf_27 : decode cX7_firstKnowersOf 27 = .ok (.ireturn, 1) := by decide +kernel
theorem dX7_secretsOf_0 : decode cX7_secretsOf 0 = .ok (.iconst 0, 1) := by decide +kernel
theorem dX7_secretsOf_1 : decode cX7_secretsOf 1 = .ok (.istore_n 2, 1) := by decide +kernel
theorem dX7_secretsOf_2 : decode cX7_secretsOf 2 = .ok (.iconst 0, 1) := by decide +kernel
theorem dX7_secretsOf_3 : decode cX7_secretsOf 3 = .ok (.istore_n 3, 1) := by decide +kernel
theorem dX7_secretsOf_4 : decode cX7_secretsOf 4 = .ok (.iload_n 3, 1) := by decide +kernel
theorem dX7_secretsOf_5 : decode cX7_secretsOf 5 = .ok (.bipush 8, 2) := by decide +kernel
theorem dX7_secretsOf_7 : decode cX7_secretsOf 7 = .ok (.if_icmp .ge 33, 3) := by decide +kernel
theorem dX7_secretsOf_10 : decode cX7_secretsOf 10 = .ok (.iload_n 3, 1) := by decide +kernel
theorem dX7_secretsOf_11 : decode cX7_secretsOf 11 = .ok (.aload_n 0, 1) := by decide +kernel
theorem dX7_secretsOf_12 : decode cX7_secretsOf 12 = .ok (.getfield 31, 3) := by decide +kernel
theorem dX7_secretsOf_15 : decode cX7_secretsOf 15 = .ok (.if_icmp .ge 19, 3) := by decide +kernel
theorem dX7_secretsOf_18 : decode cX7_secretsOf 18 = .ok (.aload_n 0, 1) := by decide +kernel
theorem dX7_secretsOf_19 : decode cX7_secretsOf 19 = .ok (.getfield 21, 3) := by decide +kernel
theorem dX7_secretsOf_22 : decode cX7_secretsOf 22 = .ok (.iload_n 3, 1) := by decide +kernel
theorem dX7_secretsOf_23 : decode cX7_secretsOf 23 = .ok (.iaload, 1) := by decide +kernel
theorem dX7_secretsOf_24 : decode cX7_secretsOf 24 = .ok (.iload_n 1, 1) := by decide +kernel
theorem dX7_secretsOf_25 : decode cX7_secretsOf 25 = .ok (.if_icmp .ne 9, 3) := by decide +kernel
theorem dX7_secretsOf_28 : decode cX7_secretsOf 28 = .ok (.iload_n 2, 1) := by decide +kernel
theorem dX7_secretsOf_29 : decode cX7_secretsOf 29 = .ok (.iconst 1, 1) := by decide +kernel
theorem dX7_secretsOf_30 : decode cX7_secretsOf 30 = .ok (.iload_n 3, 1) := by decide +kernel
theorem dX7_secretsOf_31 : decode cX7_secretsOf 31 = .ok (.ishl, 1) := by decide +kernel
theorem dX7_secretsOf_32 : decode cX7_secretsOf 32 = .ok (.ior, 1) := by decide +kernel
theorem dX7_secretsOf_33 : decode cX7_secretsOf 33 = .ok (.istore_n 2, 1) := by decide +kernel
theorem dX7_secretsOf_34 : decode cX7_secretsOf 34 = .ok (.iinc 3 1, 3) := by decide +kernel
theorem dX7_secretsOf_37 : decode cX7_secretsOf 37 = .ok (.goto (-33), 3) := by decide +kernel
theorem dX7_secretsOf_40 : decode cX7_secretsOf 40 = .ok (.iload_n 2, 1) := by decide +kernel
theorem dX7_secretsOf_41 : decode cX7_secretsOf 41 = .ok (.ireturn, 1) := by decide +kernel
set_option maxRecDepth 20000 in
theorem ggX8_init_X3_init : GoodIn wsX8_init wsX3_init := goodIn_r _ [40, 41, 2, 3, 42, 43, 44, 215, 216] (by decide +kernel) (by decide +kernel)
set_option maxRecDepth 20000 in
theorem gX8_init_X3_init_n9 : GoodIn wsX8_init (wsX3_init) := ggX8_init_X3_init
set_option maxRecDepth 20000 in
theorem ggX8_init_X2_init : GoodIn wsX8_init wsX2_init := goodIn_r _ [46, 47, 2, 3, 48, 49, 228, 229] (by decide +kernel) (by decide +kernel)
set_option maxRecDepth 20000 in
theorem gX8_init_X2_init_n18 : GoodIn wsX8_init (wsX2_init) := ggX8_init_X2_init
set_option maxRecDepth 20000 in
theorem ggX8_init_X7_init : GoodIn wsX8_init wsX7_init := goodIn_r _ [51, 52, 2, 3, 53, 54, 55, 56, 57, 58, 59, 60, 61, 230, 231, 232, 233, 234, 235, 236, 237] (by decide +kernel) (by decide +kernel)
set_option maxRecDepth 20000 in
theorem gX8_init_X7_init_n25 : GoodIn wsX8_init (wsX7_init) := ggX8_init_X7_init
set_option maxRecDepth 20000 in
theorem ggX8_init_X6_init : GoodIn wsX8_init wsX6_init := goodIn_r _ [64, 65, 2, 3, 53, 66, 67, 238, 239] (by decide +kernel) (by decide +kernel)
set_option maxRecDepth 20000 in
theorem gX8_init_X6_init : GoodIn wsX8_init (wsX6_init) := ggX8_init_X6_init
set_option maxRecDepth 20000 in
theorem ggX8_init_X4_init : GoodIn wsX8_init wsX4_init := goodIn_r _ [70, 71, 2, 3, 72, 73, 53, 74, 240, 241] (by decide +kernel) (by decide +kernel)
set_option maxRecDepth 20000 in
theorem gX8_init_X4_init : GoodIn wsX8_init (wsX4_init) := ggX8_init_X4_init
set_option maxRecDepth 20000 in
theorem ggX8_init_X0_init : GoodIn wsX8_init wsX0_init := goodIn_r _ [76, 77, 2, 3, 53, 78, 79, 242, 243] (by decide +kernel) (by decide +kernel)
set_option maxRecDepth 20000 in
theorem gX8_init_X0_init_n59 : GoodIn wsX8_init (wsX0_init) := ggX8_init_X0_init
set_option maxRecDepth 20000 in
theorem ggX8_init_X1_init : GoodIn wsX8_init wsX1_init := goodIn_r _ [81, 82, 2, 3, 53, 83, 84, 85, 86, 87, 244, 245, 246, 247, 248] (by decide +kernel) (by decide +kernel)
set_option maxRecDepth 20000 in
theorem gX8_init_X1_init_n66 : GoodIn wsX8_init (wsX1_init) := ggX8_init_X1_init
set_option maxRecDepth 20000 in
theorem ggX8_init_X5_init : GoodIn wsX8_init wsX5_init := goodIn_r _ [89, 90, 2, 3, 53, 91, 92, 93, 94, 249, 250, 251, 252] (by decide +kernel) (by decide +kernel)
set_option maxRecDepth 20000 in
theorem gX8_init_X5_init_n73 : GoodIn wsX8_init (wsX5_init) := ggX8_init_X5_init
set_option maxRecDepth 20000 in
theorem ggX8_init_J0_length_8abf5 : GoodIn wsX8_init wsJ0_length_8abf5 := goodIn_r _ [99, 100, 101, 102, 103, 98, 104, 105, 106] (by decide +kernel) (by decide +kernel)
set_option maxRecDepth 20000 in
theorem gX8_init_J0_length_8abf5 : GoodIn wsX8_init (wsV RX8 80 RJ0 yJ0_length_8abf5 wsJ0_length_8abf5) := goodIn_app (goodIn_of _ (by decide +kernel)) ggX8_init_J0_length_8abf5
set_option maxRecDepth 20000 in
theorem ggX8_init_J0_charAt_5068e : GoodIn wsX8_init wsJ0_charAt_5068e := goodIn_r _ [110, 100, 111, 112, 113, 98, 114, 105, 106, 115, 116, 117, 118, 119, 120, 121, 122, 123, 124, 125, 126, 127, 128, 129, 130, 131, 132, 133, 134, 135, 136, 137, 138, 139, 140, 141, 142, 143] (by decide +kernel) (by decide +kernel)
set_option maxRecDepth 20000 in
theorem gX8_init_J0_charAt_5068e : GoodIn wsX8_init (wsV RX8 86 RJ0 yJ0_charAt_5068e wsJ0_charAt_5068e) := goodIn_app (goodIn_of _ (by decide +kernel)) ggX8_init_J0_charAt_5068e
set_option maxRecDepth 20000 in
theorem ggX8_init_X3_add : GoodIn wsX8_init wsX3_add := goodIn_r _ [147, 44, 43, 215, 216] (by decide +kernel) (by decide +kernel)
set_option maxRecDepth 20000 in
theorem gX8_init_X3_add : GoodIn wsX8_init (wsV RX8 90 RX3 yX3_add wsX3_add) := goodIn_app (goodIn_of _ (by decide +kernel)) ggX8_init_X3_add
set_option maxRecDepth 20000 in
theorem ggX8_init_X2_readAll : GoodIn wsX8_init wsX2_readAll := goodIn_r _ [151, 48, 152, 153, 154, 14, 155, 59, 60, 61, 156, 157, 158, 6, 159, 44, 160, 161, 162, 10, 163, 49, 164, 165, 166, 167, 43, 168, 169, 170, 171, 172, 173, 174, 175, 176, 177, 178, 179, 180, 181, 182, 54, 55, 56, 183, 184, 185, 186, 187, 188, 189, 190, 191, 192, 193, 194, 57, 58, 228, 229, 230, 231, 232, 233, 234, 235, 236, 237, 215, 216] (by decide +kernel) (by decide +kernel)
set_option maxRecDepth 20000 in
theorem gX8_init_X2_readAll : GoodIn wsX8_init (wsV RX8 94 RX2 yX2_readAll wsX2_readAll) := goodIn_app (goodIn_of _ (by decide +kernel)) ggX8_init_X2_readAll
set_option maxRecDepth 20000 in
theorem ggX8_init_X6_begin : GoodIn wsX8_init wsX6_begin := goodIn_r _ [198, 66, 67, 199, 200, 201, 14, 202, 54, 187, 188, 189, 190, 59, 203, 204, 205, 206, 58, 207, 208, 209, 210, 60, 238, 239, 230, 231, 232, 233, 234, 235, 236, 237] (by decide +kernel) (by decide +kernel)
set_option maxRecDepth 20000 in
theorem gX8_init_X6_begin : GoodIn wsX8_init (wsV RX8 98 RX6 yX6_begin wsX6_begin) := goodIn_app (goodIn_of _ (by decide +kernel)) ggX8_init_X6_begin
set_option maxRecDepth 20000 in
theorem ggX8_init_X3_clear : GoodIn wsX8_init wsX3_clear := goodIn_r _ [214, 44, 215, 216] (by decide +kernel) (by decide +kernel)
set_option maxRecDepth 20000 in
theorem gX8_init_X3_clear : GoodIn wsX8_init (wsV RX8 101 RX3 yX3_clear wsX3_clear) := goodIn_app (goodIn_of _ (by decide +kernel)) ggX8_init_X3_clear
theorem dX8_init_0 : decode cX8_init 0 = .ok (.aload_n 0, 1) := by decide +kernel
theorem dX8_init_1 : decode cX8_init 1 = .ok (.invokespecial 1, 3) := by decide +kernel
theorem dX8_init_4 : decode cX8_init 4 = .ok (.aload_n 0, 1) := by decide +kernel
theorem dX8_init_5 : decode cX8_init 5 = .ok (.new 7, 3) := by decide +kernel
theorem dX8_init_8 : decode cX8_init 8 = .ok (.dup, 1) := by decide +kernel
theorem dX8_init_9 : decode cX8_init 9 = .ok (.invokespecial 9, 3) := by decide +kernel
theorem dX8_init_12 : decode cX8_init 12 = .ok (.putfield 10, 3) := by decide +kernel
theorem dX8_init_15 : decode cX8_init 15 = .ok (.aload_n 0, 1) := by decide +kernel
theorem dX8_init_16 : decode cX8_init 16 = .ok (.new 16, 3) := by decide +kernel
theorem dX8_init_19 : decode cX8_init 19 = .ok (.dup, 1) := by decide +kernel
theorem dX8_init_20 : decode cX8_init 20 = .ok (.invokespecial 18, 3) := by decide +kernel
theorem dX8_init_23 : decode cX8_init 23 = .ok (.putfield 19, 3) := by decide +kernel
theorem dX8_init_26 : decode cX8_init 26 = .ok (.aload_n 0, 1) := by decide +kernel
theorem dX8_init_27 : decode cX8_init 27 = .ok (.new 23, 3) := by decide +kernel
theorem dX8_init_30 : decode cX8_init 30 = .ok (.dup, 1) := by decide +kernel
theorem dX8_init_31 : decode cX8_init 31 = .ok (.invokespecial 25, 3) := by decide +kernel
theorem dX8_init_34 : decode cX8_init 34 = .ok (.putfield 26, 3) := by decide +kernel
theorem dX8_init_37 : decode cX8_init 37 = .ok (.aload_n 0, 1) := by decide +kernel
theorem dX8_init_38 : decode cX8_init 38 = .ok (.new 23, 3) := by decide +kernel
theorem dX8_init_41 : decode cX8_init 41 = .ok (.dup, 1) := by decide +kernel
theorem dX8_init_42 : decode cX8_init 42 = .ok (.invokespecial 25, 3) := by decide +kernel
theorem dX8_init_45 : decode cX8_init 45 = .ok (.putfield 30, 3) := by decide +kernel
theorem dX8_init_48 : decode cX8_init 48 = .ok (.aload_n 0, 1) := by decide +kernel
theorem dX8_init_49 : decode cX8_init 49 = .ok (.new 33, 3) := by decide +kernel
theorem dX8_init_52 : decode cX8_init 52 = .ok (.dup, 1) := by decide +kernel
theorem dX8_init_53 : decode cX8_init 53 = .ok (.aload_n 0, 1) := by decide +kernel
theorem dX8_init_54 : decode cX8_init 54 = .ok (.getfield 26, 3) := by decide +kernel
theorem dX8_init_57 : decode cX8_init 57 = .ok (.invokespecial 35, 3) := by decide +kernel
theorem dX8_init_60 : decode cX8_init 60 = .ok (.putfield 38, 3) := by decide +kernel
theorem dX8_init_63 : decode cX8_init 63 = .ok (.aload_n 0, 1) := by decide +kernel
theorem dX8_init_64 : decode cX8_init 64 = .ok (.new 33, 3) := by decide +kernel
theorem dX8_init_67 : decode cX8_init 67 = .ok (.dup, 1) := by decide +kernel
theorem dX8_init_68 : decode cX8_init 68 = .ok (.aload_n 0, 1) := by decide +kernel
theorem dX8_init_69 : decode cX8_init 69 = .ok (.getfield 26, 3) := by decide +kernel
theorem dX8_init_72 : decode cX8_init 72 = .ok (.invokespecial 35, 3) := by decide +kernel
theorem dX8_init_75 : decode cX8_init 75 = .ok (.putfield 42, 3) := by decide +kernel
theorem dX8_init_78 : decode cX8_init 78 = .ok (.aload_n 0, 1) := by decide +kernel
theorem dX8_init_79 : decode cX8_init 79 = .ok (.new 45, 3) := by decide +kernel
theorem dX8_init_82 : decode cX8_init 82 = .ok (.dup, 1) := by decide +kernel
theorem dX8_init_83 : decode cX8_init 83 = .ok (.bipush 8, 2) := by decide +kernel
theorem dX8_init_85 : decode cX8_init 85 = .ok (.invokespecial 47, 3) := by decide +kernel
theorem dX8_init_88 : decode cX8_init 88 = .ok (.putfield 50, 3) := by decide +kernel
theorem dX8_init_91 : decode cX8_init 91 = .ok (.aload_n 0, 1) := by decide +kernel
theorem dX8_init_92 : decode cX8_init 92 = .ok (.new 45, 3) := by decide +kernel
theorem dX8_init_95 : decode cX8_init 95 = .ok (.dup, 1) := by decide +kernel
theorem dX8_init_96 : decode cX8_init 96 = .ok (.iconst 2, 1) := by decide +kernel
theorem dX8_init_97 : decode cX8_init 97 = .ok (.invokespecial 47, 3) := by decide +kernel
theorem dX8_init_100 : decode cX8_init 100 = .ok (.putfield 54, 3) := by decide +kernel
theorem dX8_init_103 : decode cX8_init 103 = .ok (.aload_n 0, 1) := by decide +kernel
theorem dX8_init_104 : decode cX8_init 104 = .ok (.new 57, 3) := by decide +kernel
theorem dX8_init_107 : decode cX8_init 107 = .ok (.dup, 1) := by decide +kernel
theorem dX8_init_108 : decode cX8_init 108 = .ok (.invokespecial 59, 3) := by decide +kernel
theorem dX8_init_111 : decode cX8_init 111 = .ok (.putfield 60, 3) := by decide +kernel
theorem dX8_init_114 : decode cX8_init 114 = .ok (.aload_n 0, 1) := by decide +kernel
theorem dX8_init_115 : decode cX8_init 115 = .ok (.new 64, 3) := by decide +kernel
theorem dX8_init_118 : decode cX8_init 118 = .ok (.dup, 1) := by decide +kernel
theorem dX8_init_119 : decode cX8_init 119 = .ok (.invokespecial 66, 3) := by decide +kernel
theorem dX8_init_122 : decode cX8_init 122 = .ok (.putfield 67, 3) := by decide +kernel
theorem dX8_init_125 : decode cX8_init 125 = .ok (.aload_n 0, 1) := by decide +kernel
theorem dX8_init_126 : decode cX8_init 126 = .ok (.new 71, 3) := by decide +kernel
theorem dX8_init_129 : decode cX8_init 129 = .ok (.dup, 1) := by decide +kernel
theorem dX8_init_130 : decode cX8_init 130 = .ok (.invokespecial 73, 3) := by decide +kernel
theorem dX8_init_133 : decode cX8_init 133 = .ok (.putfield 74, 3) := by decide +kernel
theorem dX8_init_136 : decode cX8_init 136 = .ok (.iconst 0, 1) := by decide +kernel
theorem dX8_init_137 : decode cX8_init 137 = .ok (.istore_n 1, 1) := by decide +kernel
theorem dX8_init_138 : decode cX8_init 138 = .ok (.iload_n 1, 1) := by decide +kernel
theorem dX8_init_139 : decode cX8_init 139 = .ok (.ldc 78, 2) := by decide +kernel
theorem dX8_init_141 : decode cX8_init 141 = .ok (.invokevirtual 80, 3) := by decide +kernel
theorem dX8_init_144 : decode cX8_init 144 = .ok (.if_icmp .ge 23, 3) := by decide +kernel
theorem dX8_init_147 : decode cX8_init 147 = .ok (.aload_n 0, 1) := by decide +kernel
theorem dX8_init_148 : decode cX8_init 148 = .ok (.getfield 10, 3) := by decide +kernel
theorem dX8_init_151 : decode cX8_init 151 = .ok (.ldc 78, 2) := by decide +kernel
theorem dX8_init_153 : decode cX8_init 153 = .ok (.iload_n 1, 1) := by decide +kernel
theorem dX8_init_154 : decode cX8_init 154 = .ok (.invokevirtual 86, 3) := by decide +kernel
theorem dX8_init_157 : decode cX8_init 157 = .ok (.invokevirtual 90, 3) := by decide +kernel
theorem dX8_init_160 : decode cX8_init 160 = .ok (.pop, 1) := by decide +kernel
theorem dX8_init_161 : decode cX8_init 161 = .ok (.iinc 1 1, 3) := by decide +kernel
theorem dX8_init_164 : decode cX8_init 164 = .ok (.goto (-26), 3) := by decide +kernel
theorem dX8_init_167 : decode cX8_init 167 = .ok (.aload_n 0, 1) := by decide +kernel
theorem dX8_init_168 : decode cX8_init 168 = .ok (.getfield 19, 3) := by decide +kernel
theorem dX8_init_171 : decode cX8_init 171 = .ok (.aload_n 0, 1) := by decide +kernel
theorem dX8_init_172 : decode cX8_init 172 = .ok (.getfield 10, 3) := by decide +kernel
theorem dX8_init_175 : decode cX8_init 175 = .ok (.aload_n 0, 1) := by decide +kernel
theorem dX8_init_176 : decode cX8_init 176 = .ok (.getfield 26, 3) := by decide +kernel
theorem dX8_init_179 : decode cX8_init 179 = .ok (.invokevirtual 94, 3) := by decide +kernel
theorem dX8_init_182 : decode cX8_init 182 = .ok (.pop, 1) := by decide +kernel
theorem dX8_init_183 : decode cX8_init 183 = .ok (.aload_n 0, 1) := by decide +kernel
theorem dX8_init_184 : decode cX8_init 184 = .ok (.getfield 38, 3) := by decide +kernel
theorem dX8_init_187 : decode cX8_init 187 = .ok (.invokevirtual 98, 3) := by decide +kernel
theorem dX8_init_190 : decode cX8_init 190 = .ok (.aload_n 0, 1) := by decide +kernel
theorem dX8_init_191 : decode cX8_init 191 = .ok (.getfield 10, 3) := by decide +kernel
theorem dX8_init_194 : decode cX8_init 194 = .ok (.invokevirtual 101, 3) := by decide +kernel
theorem dX8_init_197 : decode cX8_init 197 = .ok (.return_, 1) := by decide +kernel
set_option maxRecDepth 20000 in
theorem ggX8_write_X3_add : GoodIn wsX8_write wsX3_add := goodIn_r _ [6, 7, 8, 24, 25] (by decide +kernel) (by decide +kernel)
set_option maxRecDepth 20000 in
theorem gX8_write_X3_add : GoodIn wsX8_write (wsV RX8 90 RX3 yX3_add wsX3_add) := goodIn_app (goodIn_of _ (by decide +kernel)) ggX8_write_X3_add
set_option maxRecDepth 20000 in
theorem ggX8_write_X3_size : GoodIn wsX8_write wsX3_size := goodIn_r _ [12, 7, 24, 25] (by decide +kernel) (by decide +kernel)
set_option maxRecDepth 20000 in
theorem gX8_write_X3_size : GoodIn wsX8_write (wsV RX8 104 RX3 yX3_size wsX3_size) := goodIn_app (goodIn_of _ (by decide +kernel)) ggX8_write_X3_size
theorem dX8_write_0 : decode cX8_write 0 = .ok (.iload_n 1, 1) := by decide +kernel
theorem dX8_write_1 : decode cX8_write 1 = .ok (.bipush 32, 2) := by decide +kernel
theorem dX8_write_3 : decode cX8_write 3 = .ok (.if_icmp .lt 9, 3) := by decide +kernel
theorem dX8_write_6 : decode cX8_write 6 = .ok (.iload_n 1, 1) := by decide +kernel
theorem dX8_write_7 : decode cX8_write 7 = .ok (.bipush 126, 2) := by decide +kernel
theorem dX8_write_9 : decode cX8_write 9 = .ok (.if_icmp .le 5, 3) := by decide +kernel
theorem dX8_write_12 : decode cX8_write 12 = .ok (.iconst (-1), 1) := by decide +kernel
theorem dX8_write_13 : decode cX8_write 13 = .ok (.ireturn, 1) := by decide +kernel
theorem dX8_write_14 : decode cX8_write 14 = .ok (.aload_n 0, 1) := by decide +kernel
theorem dX8_write_15 : decode cX8_write 15 = .ok (.getfield 10, 3) := by decide +kernel
theorem dX8_write_18 : decode cX8_write 18 = .ok (.iload_n 1, 1) := by decide +kernel
theorem dX8_write_19 : decode cX8_write 19 = .ok (.i2c, 1) := by decide +kernel
theorem dX8_write_20 : decode cX8_write 20 = .ok (.invokevirtual 90, 3) := by decide +kernel
theorem dX8_write_23 : decode cX8_write 23 = .ok (.ifCond .eq 13, 3) := by decide +kernel
theorem dX8_write_26 : decode cX8_write 26 = .ok (.aload_n 0, 1) := by decide +kernel
theorem dX8_write_27 : decode cX8_write 27 = .ok (.getfield 10, 3) := by decide +kernel
theorem dX8_write_30 : decode cX8_write 30 = .ok (.invokevirtual 104, 3) := by decide +kernel
theorem dX8_write_33 : decode cX8_write 33 = .ok (.goto 5, 3) := by decide +kernel
theorem dX8_write_36 : decode cX8_write 36 = .ok (.bipush (-3), 2) := by decide +kernel
theorem dX8_write_38 : decode cX8_write 38 = .ok (.ireturn, 1) := by decide +kernel
set_option maxRecDepth 20000 in
theorem ggX8_wipe_X3_size : GoodIn wsX8_wipe wsX3_size := goodIn_r _ [6, 7, 23, 24] (by decide +kernel) (by decide +kernel)
set_option maxRecDepth 20000 in
theorem gX8_wipe_X3_size : GoodIn wsX8_wipe (wsV RX8 104 RX3 yX3_size wsX3_size) := goodIn_app (goodIn_of _ (by decide +kernel)) ggX8_wipe_X3_size
set_option maxRecDepth 20000 in
theorem ggX8_wipe_X3_clear : GoodIn wsX8_wipe wsX3_clear := goodIn_r _ [11, 7, 23, 24] (by decide +kernel) (by decide +kernel)
set_option maxRecDepth 20000 in
theorem gX8_wipe_X3_clear : GoodIn wsX8_wipe (wsV RX8 101 RX3 yX3_clear wsX3_clear) := goodIn_app (goodIn_of _ (by decide +kernel)) ggX8_wipe_X3_clear
theorem dX8_wipe_0 : decode cX8_wipe 0 = .ok (.aload_n 0, 1) := by decide +kernel
theorem dX8_wipe_1 : decode cX8_wipe 1 = .ok (.getfield 10, 3) := by decide +kernel
theorem dX8_wipe_4 : decode cX8_wipe 4 = .ok (.invokevirtual 104, 3) := by decide +kernel
theorem dX8_wipe_7 : decode cX8_wipe 7 = .ok (.istore_n 1, 1) := by decide +kernel
theorem dX8_wipe_8 : decode cX8_wipe 8 = .ok (.aload_n 0, 1) := by decide +kernel
theorem dX8_wipe_9 : decode cX8_wipe 9 = .ok (.getfield 10, 3) := by decide +kernel
theorem dX8_wipe_12 : decode cX8_wipe 12 = .ok (.invokevirtual 101, 3) := by decide +kernel
theorem dX8_wipe_15 : decode cX8_wipe 15 = .ok (.iload_n 1, 1) := by decide +kernel
theorem dX8_wipe_16 : decode cX8_wipe 16 = .ok (.ireturn, 1) := by decide +kernel
set_option maxRecDepth 20000 in
theorem ggX8_fault_X2_readAll : GoodIn wsX8_fault wsX2_readAll := goodIn_r _ [8, 9, 10, 11, 12, 13, 14, 15, 16, 17, 18, 19, 20, 21, 22, 23, 24, 25, 26, 7, 27, 28, 29, 30, 31, 32, 33, 34, 35, 36, 37, 38, 39, 40, 41, 42, 43, 44, 45, 46, 47, 48, 49, 50, 51, 52, 53, 54, 55, 56, 57, 58, 59, 60, 61, 62, 63, 64, 65, 77, 78, 79, 80, 81, 82, 83, 84, 85, 86, 87, 88] (by decide +kernel) (by decide +kernel)
set_option maxRecDepth 20000 in
theorem gX8_fault_X2_readAll : GoodIn wsX8_fault (wsV RX8 94 RX2 yX2_readAll wsX2_readAll) := goodIn_app (goodIn_of _ (by decide +kernel)) ggX8_fault_X2_readAll
theorem dX8_fault_0 : decode cX8_fault 0 = .ok (.aload_n 0, 1) := by decide +kernel
theorem dX8_fault_1 : decode cX8_fault 1 = .ok (.getfield 19, 3) := by decide +kernel
theorem dX8_fault_4 : decode cX8_fault 4 = .ok (.aload_n 0, 1) := by decide +kernel
theorem dX8_fault_5 : decode cX8_fault 5 = .ok (.getfield 10, 3) := by decide +kernel
theorem dX8_fault_8 : decode cX8_fault 8 = .ok (.aload_n 0, 1) := by decide +kernel
theorem dX8_fault_9 : decode cX8_fault 9 = .ok (.getfield 30, 3) := by decide +kernel
theorem dX8_fault_12 : decode cX8_fault 12 = .ok (.invokevirtual 94, 3) := by decide +kernel
theorem dX8_fault_15 : decode cX8_fault 15 = .ok (.ireturn, 1) := by decide +kernel
set_option maxRecDepth 20000 in
theorem ggX8_lay_X2_readAll : GoodIn wsX8_lay wsX2_readAll := goodIn_r _ [14, 15, 16, 17, 18, 19, 20, 21, 22, 23, 24, 25, 26, 27, 28, 29, 30, 31, 32, 13, 33, 34, 35, 36, 37, 38, 39, 40, 41, 42, 43, 44, 45, 46, 47, 48, 49, 50, 51, 52, 53, 54, 55, 56, 57, 58, 59, 60, 61, 62, 63, 64, 65, 66, 67, 68, 69, 70, 71, 128, 129, 130, 131, 132, 133, 134, 135, 136, 137, 138, 139] (by decide +kernel) (by decide +kernel)
set_option maxRecDepth 20000 in
theorem gX8_lay_X2_readAll : GoodIn wsX8_lay (wsV RX8 94 RX2 yX2_readAll wsX2_readAll) := goodIn_app (goodIn_of _ (by decide +kernel)) ggX8_lay_X2_readAll
set_option maxRecDepth 20000 in
theorem ggX8_lay_X7_canLive : GoodIn wsX8_lay wsX7_canLive := goodIn_r _ [75, 21, 55, 23, 130, 131, 132, 133, 134, 135, 136, 137] (by decide +kernel) (by decide +kernel)
set_option maxRecDepth 20000 in
theorem gX8_lay_X7_canLive : GoodIn wsX8_lay (wsV RX8 107 RX7 yX7_canLive wsX7_canLive) := goodIn_app (goodIn_of _ (by decide +kernel)) ggX8_lay_X7_canLive
set_option maxRecDepth 20000 in
theorem ggX8_lay_X6_begin : GoodIn wsX8_lay wsX6_begin := goodIn_r _ [80, 81, 82, 83, 84, 85, 19, 86, 55, 62, 63, 64, 65, 21, 87, 88, 89, 90, 71, 91, 92, 93, 94, 22, 140, 141, 130, 131, 132, 133, 134, 135, 136, 137] (by decide +kernel) (by decide +kernel)
set_option maxRecDepth 20000 in
theorem gX8_lay_X6_begin : GoodIn wsX8_lay (wsV RX8 98 RX6 yX6_begin wsX6_begin) := goodIn_app (goodIn_of _ (by decide +kernel)) ggX8_lay_X6_begin
set_option maxRecDepth 20000 in
theorem ggX8_lay_X4_clear : GoodIn wsX8_lay wsX4_clear := goodIn_r _ [99, 100, 142, 143] (by decide +kernel) (by decide +kernel)
set_option maxRecDepth 20000 in
theorem gX8_lay_X4_clear : GoodIn wsX8_lay (wsV RX8 111 RX4 yX4_clear wsX4_clear) := goodIn_app (goodIn_of _ (by decide +kernel)) ggX8_lay_X4_clear
set_option maxRecDepth 20000 in
theorem ggX8_lay_X1_clear : GoodIn wsX8_lay wsX1_clear := goodIn_r _ [105, 106, 144, 145, 146, 147, 148] (by decide +kernel) (by decide +kernel)
set_option maxRecDepth 20000 in
theorem gX8_lay_X1_clear : GoodIn wsX8_lay (wsV RX8 112 RX1 yX1_clear wsX1_clear) := goodIn_app (goodIn_of _ (by decide +kernel)) ggX8_lay_X1_clear
set_option maxRecDepth 20000 in
theorem ggX8_lay_X5_clear : GoodIn wsX8_lay wsX5_clear := goodIn_r _ [111, 112, 149, 150, 151, 152] (by decide +kernel) (by decide +kernel)
set_option maxRecDepth 20000 in
theorem gX8_lay_X5_clear : GoodIn wsX8_lay (wsV RX8 113 RX5 yX5_clear wsX5_clear) := goodIn_app (goodIn_of _ (by decide +kernel)) ggX8_lay_X5_clear
set_option maxRecDepth 20000 in
theorem ggX8_lay_X7_people : GoodIn wsX8_lay wsX7_people := goodIn_r _ [116, 21, 130, 131, 132, 133, 134, 135, 136, 137] (by decide +kernel) (by decide +kernel)
set_option maxRecDepth 20000 in
theorem gX8_lay_X7_people : GoodIn wsX8_lay (wsV RX8 114 RX7 yX7_people wsX7_people) := goodIn_app (goodIn_of _ (by decide +kernel)) ggX8_lay_X7_people
theorem dX8_lay_0 : decode cX8_lay 0 = .ok (.aload_n 0, 1) := by decide +kernel
theorem dX8_lay_1 : decode cX8_lay 1 = .ok (.getfield 19, 3) := by decide +kernel
theorem dX8_lay_4 : decode cX8_lay 4 = .ok (.aload_n 0, 1) := by decide +kernel
theorem dX8_lay_5 : decode cX8_lay 5 = .ok (.getfield 10, 3) := by decide +kernel
theorem dX8_lay_8 : decode cX8_lay 8 = .ok (.aload_n 0, 1) := by decide +kernel
theorem dX8_lay_9 : decode cX8_lay 9 = .ok (.getfield 30, 3) := by decide +kernel
theorem dX8_lay_12 : decode cX8_lay 12 = .ok (.invokevirtual 94, 3) := by decide +kernel
theorem dX8_lay_15 : decode cX8_lay 15 = .ok (.bipush (-4), 2) := by decide +kernel
theorem dX8_lay_17 : decode cX8_lay 17 = .ok (.if_icmp .ne 13, 3) := by decide +kernel
theorem dX8_lay_20 : decode cX8_lay 20 = .ok (.aload_n 0, 1) := by decide +kernel
theorem dX8_lay_21 : decode cX8_lay 21 = .ok (.getfield 30, 3) := by decide +kernel
theorem dX8_lay_24 : decode cX8_lay 24 = .ok (.invokevirtual 107, 3) := by decide +kernel
theorem dX8_lay_27 : decode cX8_lay 27 = .ok (.ifCond .ne 6, 3) := by decide +kernel
theorem dX8_lay_30 : decode cX8_lay 30 = .ok (.bipush (-2), 2) := by decide +kernel
theorem dX8_lay_32 : decode cX8_lay 32 = .ok (.ireturn, 1) := by decide +kernel
theorem dX8_lay_33 : decode cX8_lay 33 = .ok (.aload_n 0, 1) := by decide +kernel
theorem dX8_lay_34 : decode cX8_lay 34 = .ok (.getfield 19, 3) := by decide +kernel
theorem dX8_lay_37 : decode cX8_lay 37 = .ok (.aload_n 0, 1) := by decide +kernel
theorem dX8_lay_38 : decode cX8_lay 38 = .ok (.getfield 10, 3) := by decide +kernel
theorem dX8_lay_41 : decode cX8_lay 41 = .ok (.aload_n 0, 1) := by decide +kernel
theorem dX8_lay_42 : decode cX8_lay 42 = .ok (.getfield 26, 3) := by decide +kernel
theorem dX8_lay_45 : decode cX8_lay 45 = .ok (.invokevirtual 94, 3) := by decide +kernel
theorem dX8_lay_48 : decode cX8_lay 48 = .ok (.pop, 1) := by decide +kernel
theorem dX8_lay_49 : decode cX8_lay 49 = .ok (.aload_n 0, 1) := by decide +kernel
theorem dX8_lay_50 : decode cX8_lay 50 = .ok (.getfield 38, 3) := by decide +kernel
theorem dX8_lay_53 : decode cX8_lay 53 = .ok (.invokevirtual 98, 3) := by decide +kernel
theorem dX8_lay_56 : decode cX8_lay 56 = .ok (.aload_n 0, 1) := by decide +kernel
theorem dX8_lay_57 : decode cX8_lay 57 = .ok (.getfield 50, 3) := by decide +kernel
theorem dX8_lay_60 : decode cX8_lay 60 = .ok (.invokevirtual 111, 3) := by decide +kernel
theorem dX8_lay_63 : decode cX8_lay 63 = .ok (.aload_n 0, 1) := by decide +kernel
theorem dX8_lay_64 : decode cX8_lay 64 = .ok (.getfield 54, 3) := by decide +kernel
theorem dX8_lay_67 : decode cX8_lay 67 = .ok (.invokevirtual 111, 3) := by decide +kernel
theorem dX8_lay_70 : decode cX8_lay 70 = .ok (.aload_n 0, 1) := by decide +kernel
theorem dX8_lay_71 : decode cX8_lay 71 = .ok (.getfield 67, 3) := by decide +kernel
theorem dX8_lay_74 : decode cX8_lay 74 = .ok (.invokevirtual 112, 3) := by decide +kernel
theorem dX8_lay_77 : decode cX8_lay 77 = .ok (.aload_n 0, 1) := by decide +kernel
theorem dX8_lay_78 : decode cX8_lay 78 = .ok (.getfield 74, 3) := by decide +kernel
theorem dX8_lay_81 : decode cX8_lay 81 = .ok (.invokevirtual 113, 3) := by decide +kernel
theorem dX8_lay_84 : decode cX8_lay 84 = .ok (.aload_n 0, 1) := by decide +kernel
theorem dX8_lay_85 : decode cX8_lay 85 = .ok (.getfield 26, 3) := by decide +kernel
theorem dX8_lay_88 : decode cX8_lay 88 = .ok (.invokevirtual 114, 3) := by decide +kernel
theorem dX8_lay_91 : decode cX8_lay 91 = .ok (.ireturn, 1) := by decide +kernel
set_option maxRecDepth 20000 in
theorem ggX8_person_X7_hasPerson : GoodIn wsX8_person wsX7_hasPerson := goodIn_r _ [7, 8, 82, 83, 84, 85, 86, 87, 88, 89] (by decide +kernel) (by decide +kernel)
set_option maxRecDepth 20000 in
theorem gX8_person_X7_hasPerson : GoodIn wsX8_person (wsV RX8 117 RX7 yX7_hasPerson wsX7_hasPerson) := goodIn_app (goodIn_of _ (by decide +kernel)) ggX8_person_X7_hasPerson
set_option maxRecDepth 20000 in
theorem ggX8_person_X6_ageOf : GoodIn wsX8_person wsX6_ageOf := goodIn_r _ [13, 14, 15, 16, 4, 5, 6, 7, 8, 90, 91, 82, 83, 84, 85, 86, 87, 88, 89] (by decide +kernel) (by decide +kernel)
set_option maxRecDepth 20000 in
theorem gX8_person_X6_ageOf : GoodIn wsX8_person (wsV RX8 121 RX6 yX6_ageOf wsX6_ageOf) := goodIn_app (goodIn_of _ (by decide +kernel)) ggX8_person_X6_ageOf
set_option maxRecDepth 20000 in
theorem ggX8_person_X7_kindOf : GoodIn wsX8_person wsX7_kindOf := goodIn_r _ [20, 21, 22, 4, 5, 6, 7, 8, 82, 83, 84, 85, 86, 87, 88, 89] (by decide +kernel) (by decide +kernel)
set_option maxRecDepth 20000 in
theorem gX8_person_X7_kindOf : GoodIn wsX8_person (wsV RX8 125 RX7 yX7_kindOf wsX7_kindOf) := goodIn_app (goodIn_of _ (by decide +kernel)) ggX8_person_X7_kindOf
set_option maxRecDepth 20000 in
theorem ggX8_person_X6_meetsOf : GoodIn wsX8_person wsX6_meetsOf := goodIn_r _ [26, 14, 27, 28, 29, 12, 30, 15, 16, 4, 5, 6, 7, 8, 31, 32, 33, 34, 35, 36, 37, 38, 39, 40, 22, 41, 42, 43, 44, 90, 91, 82, 83, 84, 85, 86, 87, 88, 89] (by decide +kernel) (by decide +kernel)
set_option maxRecDepth 20000 in
theorem gX8_person_X6_meetsOf : GoodIn wsX8_person (wsV RX8 128 RX6 yX6_meetsOf wsX6_meetsOf) := goodIn_app (goodIn_of _ (by decide +kernel)) ggX8_person_X6_meetsOf
set_option maxRecDepth 20000 in
theorem ggX8_person_X6_knownTo : GoodIn wsX8_person wsX6_knownTo := goodIn_r _ [48, 49, 50, 51, 12, 52, 14, 16, 4, 5, 6, 7, 8, 53, 54, 55, 56, 15, 57, 58, 59, 60, 61, 62, 63, 64, 90, 91, 82, 83, 84, 85, 86, 87, 88, 89] (by decide +kernel) (by decide +kernel)
set_option maxRecDepth 20000 in
theorem gX8_person_X6_knownTo : GoodIn wsX8_person (wsV RX8 131 RX6 yX6_knownTo wsX6_knownTo) := goodIn_app (goodIn_of _ (by decide +kernel)) ggX8_person_X6_knownTo
set_option maxRecDepth 20000 in
theorem ggX8_person_X7_secretsOf : GoodIn wsX8_person wsX7_secretsOf := goodIn_r _ [68, 61, 69, 82, 83, 84, 85, 86, 87, 88, 89] (by decide +kernel) (by decide +kernel)
set_option maxRecDepth 20000 in
theorem gX8_person_X7_secretsOf : GoodIn wsX8_person (wsV RX8 134 RX7 yX7_secretsOf wsX7_secretsOf) := goodIn_app (goodIn_of _ (by decide +kernel)) ggX8_person_X7_secretsOf
set_option maxRecDepth 20000 in
theorem ggX8_person_X6_isAlive : GoodIn wsX8_person wsX6_isAlive := goodIn_r _ [30, 14, 15, 16, 4, 5, 6, 7, 8, 31, 32, 33, 34, 35, 90, 91, 82, 83, 84, 85, 86, 87, 88, 89] (by decide +kernel) (by decide +kernel)
set_option maxRecDepth 20000 in
theorem gX8_person_X6_isAlive : GoodIn wsX8_person (wsV RX8 137 RX6 yX6_isAlive wsX6_isAlive) := goodIn_app (goodIn_of _ (by decide +kernel)) ggX8_person_X6_isAlive
theorem dX8_person_0 : decode cX8_person 0 = .ok (.aload_n 0, 1) := by decide +kernel
theorem dX8_person_1 : decode cX8_person 1 = .ok (.getfield 26, 3) := by decide +kernel
theorem dX8_person_4 : decode cX8_person 4 = .ok (.iload_n 1, 1) := by decide +kernel
theorem dX8_person_5 : decode cX8_person 5 = .ok (.invokevirtual 117, 3) := by decide +kernel
theorem dX8_person_8 : decode cX8_person 8 = .ok (.ifCond .ne 5, 3) := by decide +kernel
theorem dX8_person_11 : decode cX8_person 11 = .ok (.iconst (-1), 1) := by decide +kernel
theorem dX8_person_12 : decode cX8_person 12 = .ok (.ireturn, 1) := by decide +kernel
theorem dX8_person_13 : decode cX8_person 13 = .ok (.iload_n 2, 1) := by decide +kernel
theorem dX8_person_14 : decode cX8_person 14 = .ok (.tableswitch 100 0 5 #[38, 47, 56, 65, 74, 83], 38) := by decide +kernel
theorem dX8_person_52 : decode cX8_person 52 = .ok (.aload_n 0, 1) := by decide +kernel
theorem dX8_person_53 : decode cX8_person 53 = .ok (.getfield 38, 3) := by decide +kernel
theorem dX8_person_56 : decode cX8_person 56 = .ok (.iload_n 1, 1) := by decide +kernel
theorem dX8_person_57 : decode cX8_person 57 = .ok (.invokevirtual 121, 3) := by decide +kernel
theorem dX8_person_60 : decode cX8_person 60 = .ok (.ireturn, 1) := by decide +kernel
theorem dX8_person_61 : decode cX8_person 61 = .ok (.aload_n 0, 1) := by decide +kernel
theorem dX8_person_62 : decode cX8_person 62 = .ok (.getfield 26, 3) := by decide +kernel
theorem dX8_person_65 : decode cX8_person 65 = .ok (.iload_n 1, 1) := by decide +kernel
theorem dX8_person_66 : decode cX8_person 66 = .ok (.invokevirtual 125, 3) := by decide +kernel
theorem dX8_person_69 : decode cX8_person 69 = .ok (.ireturn, 1) := by decide +kernel
theorem dX8_person_70 : decode cX8_person 70 = .ok (.aload_n 0, 1) := by decide +kernel
theorem dX8_person_71 : decode cX8_person 71 = .ok (.getfield 38, 3) := by decide +kernel
theorem dX8_person_74 : decode cX8_person 74 = .ok (.iload_n 1, 1) := by decide +kernel
theorem dX8_person_75 : decode cX8_person 75 = .ok (.invokevirtual 128, 3) := by decide +kernel
theorem dX8_person_78 : decode cX8_person 78 = .ok (.ireturn, 1) := by decide +kernel
theorem dX8_person_79 : decode cX8_person 79 = .ok (.aload_n 0, 1) := by decide +kernel
theorem dX8_person_80 : decode cX8_person 80 = .ok (.getfield 38, 3) := by decide +kernel
theorem dX8_person_83 : decode cX8_person 83 = .ok (.iload_n 1, 1) := by decide +kernel
theorem dX8_person_84 : decode cX8_person 84 = .ok (.invokevirtual 131, 3) := by decide +kernel
theorem dX8_person_87 : decode cX8_person 87 = .ok (.ireturn, 1) := by decide +kernel
theorem dX8_person_88 : decode cX8_person 88 = .ok (.aload_n 0, 1) := by decide +kernel
theorem dX8_person_89 : decode cX8_person 89 = .ok (.getfield 26, 3) := by decide +kernel
theorem dX8_person_92 : decode cX8_person 92 = .ok (.iload_n 1, 1) := by decide +kernel
theorem dX8_person_93 : decode cX8_person 93 = .ok (.invokevirtual 134, 3) := by decide +kernel
theorem dX8_person_96 : decode cX8_person 96 = .ok (.ireturn, 1) := by decide +kernel
theorem dX8_person_97 : decode cX8_person 97 = .ok (.aload_n 0, 1) := by decide +kernel
theorem dX8_person_98 : decode cX8_person 98 = .ok (.getfield 38, 3) := by decide +kernel
theorem dX8_person_101 : decode cX8_person 101 = .ok (.iload_n 1, 1) := by decide +kernel
theorem dX8_person_102 : decode cX8_person 102 = .ok (.invokevirtual 137, 3) := by decide +kernel
theorem dX8_person_105 : decode cX8_person 105 = .ok (.ifCond .eq 7, 3) := by decide +kernel
theorem dX8_person_108 : decode cX8_person 108 = .ok (.iconst 1, 1) := by decide +kernel
theorem dX8_person_109 : decode cX8_person 109 = .ok (.goto 4, 3) := by decide +kernel
theorem dX8_person_112 : decode cX8_person 112 = .ok (.iconst 0, 1) := by decide +kernel
theorem dX8_person_113 : decode cX8_person 113 = .ok (.ireturn, 1) := by decide +kernel
theorem dX8_person_114 : decode cX8_person 114 = .ok (.iconst (-1), 1) := by decide +kernel
theorem dX8_person_115 : decode cX8_person 115 = .ok (.ireturn, 1) := by decide +kernel
set_option maxRecDepth 20000 in
theorem ggX8_secret_X7_hasSecret : GoodIn wsX8_secret wsX7_hasSecret := goodIn_r _ [7, 8, 34, 35, 36, 37, 38, 39, 40, 41] (by decide +kernel) (by decide +kernel)
set_option maxRecDepth 20000 in
theorem gX8_secret_X7_hasSecret : GoodIn wsX8_secret (wsV RX8 140 RX7 yX7_hasSecret wsX7_hasSecret) := goodIn_app (goodIn_of _ (by decide +kernel)) ggX8_secret_X7_hasSecret
set_option maxRecDepth 20000 in
theorem ggX8_secret_X7_ownerOf : GoodIn wsX8_secret wsX7_ownerOf := goodIn_r _ [12, 13, 14, 4, 5, 6, 7, 8, 34, 35, 36, 37, 38, 39, 40, 41] (by decide +kernel) (by decide +kernel)
set_option maxRecDepth 20000 in
theorem gX8_secret_X7_ownerOf : GoodIn wsX8_secret (wsV RX8 143 RX7 yX7_ownerOf wsX7_ownerOf) := goodIn_app (goodIn_of _ (by decide +kernel)) ggX8_secret_X7_ownerOf
set_option maxRecDepth 20000 in
theorem ggX8_secret_X6_knowersOf : GoodIn wsX8_secret wsX6_knowersOf := goodIn_r _ [19, 20, 21, 22, 4, 5, 6, 7, 8, 42, 43, 34, 35, 36, 37, 38, 39, 40, 41] (by decide +kernel) (by decide +kernel)
set_option maxRecDepth 20000 in
theorem gX8_secret_X6_knowersOf : GoodIn wsX8_secret (wsV RX8 146 RX6 yX6_knowersOf wsX6_knowersOf) := goodIn_app (goodIn_of _ (by decide +kernel)) ggX8_secret_X6_knowersOf
theorem dX8_secret_0 : decode cX8_secret 0 = .ok (.aload_n 0, 1) := by decide +kernel
theorem dX8_secret_1 : decode cX8_secret 1 = .ok (.getfield 26, 3) := by decide +kernel
theorem dX8_secret_4 : decode cX8_secret 4 = .ok (.iload_n 1, 1) := by decide +kernel
theorem dX8_secret_5 : decode cX8_secret 5 = .ok (.invokevirtual 140, 3) := by decide +kernel
theorem dX8_secret_8 : decode cX8_secret 8 = .ok (.ifCond .ne 5, 3) := by decide +kernel
theorem dX8_secret_11 : decode cX8_secret 11 = .ok (.iconst (-1), 1) := by decide +kernel
theorem dX8_secret_12 : decode cX8_secret 12 = .ok (.ireturn, 1) := by decide +kernel
theorem dX8_secret_13 : decode cX8_secret 13 = .ok (.iload_n 2, 1) := by decide +kernel
theorem dX8_secret_14 : decode cX8_secret 14 = .ok (.lookupswitch 44 #[(0, 26), (1, 35)], 26) := by decide +kernel
theorem dX8_secret_40 : decode cX8_secret 40 = .ok (.aload_n 0, 1) := by decide +kernel
theorem dX8_secret_41 : decode cX8_secret 41 = .ok (.getfield 26, 3) := by decide +kernel
theorem dX8_secret_44 : decode cX8_secret 44 = .ok (.iload_n 1, 1) := by decide +kernel
theorem dX8_secret_45 : decode cX8_secret 45 = .ok (.invokevirtual 143, 3) := by decide +kernel
theorem dX8_secret_48 : decode cX8_secret 48 = .ok (.ireturn, 1) := by decide +kernel
theorem dX8_secret_49 : decode cX8_secret 49 = .ok (.aload_n 0, 1) := by decide +kernel
theorem dX8_secret_50 : decode cX8_secret 50 = .ok (.getfield 38, 3) := by decide +kernel
theorem dX8_secret_53 : decode cX8_secret 53 = .ok (.iload_n 1, 1) := by decide +kernel
theorem dX8_secret_54 : decode cX8_secret 54 = .ok (.invokevirtual 146, 3) := by decide +kernel
theorem dX8_secret_57 : decode cX8_secret 57 = .ok (.ireturn, 1) := by decide +kernel
theorem dX8_secret_58 : decode cX8_secret 58 = .ok (.iconst (-1), 1) := by decide +kernel
theorem dX8_secret_59 : decode cX8_secret 59 = .ok (.ireturn, 1) := by decide +kernel
set_option maxRecDepth 20000 in
theorem ggX8_tell_X7_hasPerson : GoodIn wsX8_tell wsX7_hasPerson := goodIn_r _ [8, 9, 119, 120, 121, 122, 123, 124, 125, 126] (by decide +kernel) (by decide +kernel)
set_option maxRecDepth 20000 in
theorem gX8_tell_X7_hasPerson : GoodIn wsX8_tell (wsV RX8 117 RX7 yX7_hasPerson wsX7_hasPerson) := goodIn_app (goodIn_of _ (by decide +kernel)) ggX8_tell_X7_hasPerson
set_option maxRecDepth 20000 in
theorem ggX8_tell_X7_hasSecret : GoodIn wsX8_tell wsX7_hasSecret := goodIn_r _ [13, 14, 119, 120, 121, 122, 123, 124, 125, 126] (by decide +kernel) (by decide +kernel)
set_option maxRecDepth 20000 in
theorem gX8_tell_X7_hasSecret : GoodIn wsX8_tell (wsV RX8 140 RX7 yX7_hasSecret wsX7_hasSecret) := goodIn_app (goodIn_of _ (by decide +kernel)) ggX8_tell_X7_hasSecret
set_option maxRecDepth 20000 in
theorem ggX8_tell_X6_meetsOf : GoodIn wsX8_tell wsX6_meetsOf := goodIn_r _ [19, 20, 21, 22, 23, 18, 24, 25, 26, 5, 6, 7, 8, 9, 27, 28, 29, 30, 31, 32, 33, 34, 35, 36, 37, 38, 39, 40, 41, 127, 128, 119, 120, 121, 122, 123, 124, 125, 126] (by decide +kernel) (by decide +kernel)
set_option maxRecDepth 20000 in
theorem gX8_tell_X6_meetsOf : GoodIn wsX8_tell (wsV RX8 128 RX6 yX6_meetsOf wsX6_meetsOf) := goodIn_app (goodIn_of _ (by decide +kernel)) ggX8_tell_X6_meetsOf
set_option maxRecDepth 20000 in
theorem ggX8_tell_X6_knows : GoodIn wsX8_tell wsX6_knows := goodIn_r _ [45, 20, 26, 5, 6, 7, 8, 9, 46, 47, 48, 18, 49, 25, 50, 11, 12, 13, 14, 51, 52, 53, 127, 128, 119, 120, 121, 122, 123, 124, 125, 126] (by decide +kernel) (by decide +kernel)
set_option maxRecDepth 20000 in
theorem gX8_tell_X6_knows : GoodIn wsX8_tell (wsV RX8 149 RX6 yX6_knows wsX6_knows) := goodIn_app (goodIn_of _ (by decide +kernel)) ggX8_tell_X6_knows
set_option maxRecDepth 20000 in
theorem ggX8_tell_X4_pushDroppingOldest : GoodIn wsX8_tell wsX4_pushDroppingOldest := goodIn_r _ [58, 59, 60, 61, 62, 63, 64, 65, 66, 67, 57, 68, 69, 70, 71, 18, 72, 25, 129, 130, 127, 128] (by decide +kernel) (by decide +kernel)
set_option maxRecDepth 20000 in
theorem gX8_tell_X4_pushDroppingOldest : GoodIn wsX8_tell (wsV RX8 153 RX4 yX4_pushDroppingOldest wsX4_pushDroppingOldest) := goodIn_app (goodIn_of _ (by decide +kernel)) ggX8_tell_X4_pushDroppingOldest
set_option maxRecDepth 20000 in
theorem ggX8_tell_X6_speak : GoodIn wsX8_tell wsX6_speak := goodIn_r _ [76, 20, 25, 50, 11, 12, 7, 13, 14, 77, 78, 79, 80, 81, 82, 38, 39, 40, 18, 41, 21, 22, 23, 24, 26, 5, 6, 8, 9, 27, 28, 29, 30, 31, 46, 47, 48, 49, 83, 84, 85, 86, 87, 88, 89, 90, 91, 92, 93, 94, 37, 95, 96, 97, 98, 99, 52, 100, 101, 102, 103, 104, 105, 106, 107, 51, 53, 127, 128, 119, 120, 121, 122, 123, 124, 125, 126] (by decide +kernel) (by decide +kernel)
set_option maxRecDepth 20000 in
theorem gX8_tell_X6_speak : GoodIn wsX8_tell (wsV RX8 157 RX6 yX6_speak wsX6_speak) := goodIn_app (goodIn_of _ (by decide +kernel)) ggX8_tell_X6_speak
theorem dX8_tell_0 : decode cX8_tell 0 = .ok (.aload_n 0, 1) := by decide +kernel
theorem dX8_tell_1 : decode cX8_tell 1 = .ok (.getfield 26, 3) := by decide +kernel
theorem dX8_tell_4 : decode cX8_tell 4 = .ok (.iload_n 1, 1) := by decide +kernel
theorem dX8_tell_5 : decode cX8_tell 5 = .ok (.invokevirtual 117, 3) := by decide +kernel
theorem dX8_tell_8 : decode cX8_tell 8 = .ok (.ifCond .eq 14, 3) := by decide +kernel
theorem dX8_tell_11 : decode cX8_tell 11 = .ok (.aload_n 0, 1) := by decide +kernel
theorem dX8_tell_12 : decode cX8_tell 12 = .ok (.getfield 26, 3) := by decide +kernel
theorem dX8_tell_15 : decode cX8_tell 15 = .ok (.iload_n 2, 1) := by decide +kernel
theorem dX8_tell_16 : decode cX8_tell 16 = .ok (.invokevirtual 140, 3) := by decide +kernel
theorem dX8_tell_19 : decode cX8_tell 19 = .ok (.ifCond .ne 5, 3) := by decide +kernel
theorem dX8_tell_22 : decode cX8_tell 22 = .ok (.iconst (-1), 1) := by decide +kernel
theorem dX8_tell_23 : decode cX8_tell 23 = .ok (.ireturn, 1) := by decide +kernel
theorem dX8_tell_24 : decode cX8_tell 24 = .ok (.iload_n 3, 1) := by decide +kernel
theorem dX8_tell_25 : decode cX8_tell 25 = .ok (.ifCond .eq 18, 3) := by decide +kernel
theorem dX8_tell_28 : decode cX8_tell 28 = .ok (.iload_n 3, 1) := by decide +kernel
theorem dX8_tell_29 : decode cX8_tell 29 = .ok (.aload_n 0, 1) := by decide +kernel
theorem dX8_tell_30 : decode cX8_tell 30 = .ok (.getfield 38, 3) := by decide +kernel
theorem dX8_tell_33 : decode cX8_tell 33 = .ok (.iload_n 1, 1) := by decide +kernel
theorem dX8_tell_34 : decode cX8_tell 34 = .ok (.invokevirtual 128, 3) := by decide +kernel
theorem dX8_tell_37 : decode cX8_tell 37 = .ok (.iconst (-1), 1) := by decide +kernel
theorem dX8_tell_38 : decode cX8_tell 38 = .ok (.ixor, 1) := by decide +kernel
theorem dX8_tell_39 : decode cX8_tell 39 = .ok (.iand, 1) := by decide +kernel
theorem dX8_tell_40 : decode cX8_tell 40 = .ok (.ifCond .eq 5, 3) := by decide +kernel
theorem dX8_tell_43 : decode cX8_tell 43 = .ok (.iconst (-1), 1) := by decide +kernel
theorem dX8_tell_44 : decode cX8_tell 44 = .ok (.ireturn, 1) := by decide +kernel
theorem dX8_tell_45 : decode cX8_tell 45 = .ok (.aload_n 0, 1) := by decide +kernel
theorem dX8_tell_46 : decode cX8_tell 46 = .ok (.getfield 38, 3) := by decide +kernel
theorem dX8_tell_49 : decode cX8_tell 49 = .ok (.iload_n 1, 1) := by decide +kernel
theorem dX8_tell_50 : decode cX8_tell 50 = .ok (.iload_n 2, 1) := by decide +kernel
theorem dX8_tell_51 : decode cX8_tell 51 = .ok (.invokevirtual 149, 3) := by decide +kernel
theorem dX8_tell_54 : decode cX8_tell 54 = .ok (.ifCond .ne 6, 3) := by decide +kernel
theorem dX8_tell_57 : decode cX8_tell 57 = .ok (.bipush (-2), 2) := by decide +kernel
theorem dX8_tell_59 : decode cX8_tell 59 = .ok (.ireturn, 1) := by decide +kernel
theorem dX8_tell_60 : decode cX8_tell 60 = .ok (.aload_n 0, 1) := by decide +kernel
theorem dX8_tell_61 : decode cX8_tell 61 = .ok (.getfield 50, 3) := by decide +kernel
theorem dX8_tell_64 : decode cX8_tell 64 = .ok (.aload_n 0, 1) := by decide +kernel
theorem dX8_tell_65 : decode cX8_tell 65 = .ok (.getfield 38, 3) := by decide +kernel
theorem dX8_tell_68 : decode cX8_tell 68 = .ok (.invokevirtual 153, 3) := by decide +kernel
theorem dX8_tell_71 : decode cX8_tell 71 = .ok (.aload_n 0, 1) := by decide +kernel
theorem dX8_tell_72 : decode cX8_tell 72 = .ok (.getfield 38, 3) := by decide +kernel
theorem dX8_tell_75 : decode cX8_tell 75 = .ok (.iload_n 1, 1) := by decide +kernel
theorem dX8_tell_76 : decode cX8_tell 76 = .ok (.iload_n 2, 1) := by decide +kernel
theorem dX8_tell_77 : decode cX8_tell 77 = .ok (.iload_n 3, 1) := by decide +kernel
theorem dX8_tell_78 : decode cX8_tell 78 = .ok (.invokevirtual 157, 3) := by decide +kernel
theorem dX8_tell_81 : decode cX8_tell 81 = .ok (.ireturn, 1) := by decide +kernel
set_option maxRecDepth 20000 in
theorem ggX8_day_X4_pushDroppingOldest : GoodIn wsX8_day wsX4_pushDroppingOldest := goodIn_r _ [7, 8, 9, 10, 11, 12, 13, 14, 15, 16, 6, 17, 18, 19, 20, 21, 22, 23, 127, 128, 129, 130] (by decide +kernel) (by decide +kernel)
set_option maxRecDepth 20000 in
theorem gX8_day_X4_pushDroppingOldest : GoodIn wsX8_day (wsV RX8 153 RX4 yX4_pushDroppingOldest wsX4_pushDroppingOldest) := goodIn_app (goodIn_of _ (by decide +kernel)) ggX8_day_X4_pushDroppingOldest
set_option maxRecDepth 20000 in
theorem ggX8_day_X6_passDay : GoodIn wsX8_day wsX6_passDay := goodIn_r _ [27, 23, 28, 29, 30, 21, 31, 32, 33, 34, 35, 36, 37, 38, 39, 40, 41, 42, 43, 44, 45, 46, 47, 48, 49, 50, 51, 52, 53, 54, 55, 56, 57, 58, 59, 60, 61, 62, 63, 64, 65, 66, 67, 68, 69, 70, 71, 72, 73, 74, 75, 76, 77, 78, 79, 80, 81, 82, 83, 84, 85, 86, 87, 88, 89, 90, 91, 92, 93, 94, 95, 96, 97, 98, 99, 100, 101, 102, 103, 104, 105, 106, 107, 108, 109, 110, 111, 112, 113, 114, 115, 129, 130, 131, 132, 133, 134, 135, 136, 137, 138] (by decide +kernel) (by decide +kernel)
set_option maxRecDepth 20000 in
theorem gX8_day_X6_passDay : GoodIn wsX8_day (wsV RX8 161 RX6 yX6_passDay wsX6_passDay) := goodIn_app (goodIn_of _ (by decide +kernel)) ggX8_day_X6_passDay
theorem dX8_day_0 : decode cX8_day 0 = .ok (.aload_n 0, 1) := by decide +kernel
theorem dX8_day_1 : decode cX8_day 1 = .ok (.getfield 50, 3) := by decide +kernel
theorem dX8_day_4 : decode cX8_day 4 = .ok (.aload_n 0, 1) := by decide +kernel
theorem dX8_day_5 : decode cX8_day 5 = .ok (.getfield 38, 3) := by decide +kernel
theorem dX8_day_8 : decode cX8_day 8 = .ok (.invokevirtual 153, 3) := by decide +kernel
theorem dX8_day_11 : decode cX8_day 11 = .ok (.aload_n 0, 1) := by decide +kernel
theorem dX8_day_12 : decode cX8_day 12 = .ok (.getfield 38, 3) := by decide +kernel
theorem dX8_day_15 : decode cX8_day 15 = .ok (.invokevirtual 161, 3) := by decide +kernel
theorem dX8_day_18 : decode cX8_day 18 = .ok (.ireturn, 1) := by decide +kernel
set_option maxRecDepth 20000 in
theorem ggX8_undo_X4_pop : GoodIn wsX8_undo wsX4_pop := goodIn_r _ [7, 8, 9, 10, 11, 12, 13, 14, 15, 31, 32, 33, 34] (by decide +kernel) (by decide +kernel)
set_option maxRecDepth 20000 in
theorem gX8_undo_X4_pop : GoodIn wsX8_undo (wsV RX8 164 RX4 yX4_pop wsX4_pop) := goodIn_app (goodIn_of _ (by decide +kernel)) ggX8_undo_X4_pop
set_option maxRecDepth 20000 in
theorem ggX8_undo_X4_size : GoodIn wsX8_undo wsX4_size := goodIn_r _ [19, 8, 31, 32] (by decide +kernel) (by decide +kernel)
set_option maxRecDepth 20000 in
theorem gX8_undo_X4_size : GoodIn wsX8_undo (wsV RX8 168 RX4 yX4_size wsX4_size) := goodIn_app (goodIn_of _ (by decide +kernel)) ggX8_undo_X4_size
theorem dX8_undo_0 : decode cX8_undo 0 = .ok (.aload_n 0, 1) := by decide +kernel
theorem dX8_undo_1 : decode cX8_undo 1 = .ok (.getfield 50, 3) := by decide +kernel
theorem dX8_undo_4 : decode cX8_undo 4 = .ok (.aload_n 0, 1) := by decide +kernel
theorem dX8_undo_5 : decode cX8_undo 5 = .ok (.getfield 38, 3) := by decide +kernel
theorem dX8_undo_8 : decode cX8_undo 8 = .ok (.invokevirtual 164, 3) := by decide +kernel
theorem dX8_undo_11 : decode cX8_undo 11 = .ok (.ifCond .eq 13, 3) := by decide +kernel
theorem dX8_undo_14 : decode cX8_undo 14 = .ok (.aload_n 0, 1) := by decide +kernel
theorem dX8_undo_15 : decode cX8_undo 15 = .ok (.getfield 50, 3) := by decide +kernel
theorem dX8_undo_18 : decode cX8_undo 18 = .ok (.invokevirtual 168, 3) := by decide +kernel
theorem dX8_undo_21 : decode cX8_undo 21 = .ok (.goto 5, 3) := by decide +kernel
theorem dX8_undo_24 : decode cX8_undo 24 = .ok (.bipush (-2), 2) := by decide +kernel
theorem dX8_undo_26 : decode cX8_undo 26 = .ok (.ireturn, 1) := by decide +kernel
set_option maxRecDepth 20000 in
theorem ggX8_gossip_X7_hasPerson : GoodIn wsX8_gossip wsX7_hasPerson := goodIn_r _ [8, 9, 126, 127, 128, 129, 130, 131, 132, 133] (by decide +kernel) (by decide +kernel)
set_option maxRecDepth 20000 in
theorem gX8_gossip_X7_hasPerson : GoodIn wsX8_gossip (wsV RX8 117 RX7 yX7_hasPerson wsX7_hasPerson) := goodIn_app (goodIn_of _ (by decide +kernel)) ggX8_gossip_X7_hasPerson
set_option maxRecDepth 20000 in
theorem ggX8_gossip_X6_copy : GoodIn wsX8_gossip wsX6_copy := goodIn_r _ [14, 15, 16, 17, 18, 13, 19, 134, 135] (by decide +kernel) (by decide +kernel)
set_option maxRecDepth 20000 in
theorem gX8_gossip_X6_copy : GoodIn wsX8_gossip (wsV RX8 169 RX6 yX6_copy wsX6_copy) := goodIn_app (goodIn_of _ (by decide +kernel)) ggX8_gossip_X6_copy
set_option maxRecDepth 20000 in
theorem ggX8_gossip_X6_passDay : GoodIn wsX8_gossip wsX6_passDay := goodIn_r _ [23, 15, 24, 25, 26, 13, 27, 28, 29, 5, 6, 7, 8, 9, 30, 31, 32, 33, 34, 35, 36, 37, 38, 39, 40, 41, 42, 43, 44, 45, 46, 47, 48, 49, 50, 51, 52, 53, 54, 55, 56, 57, 58, 59, 60, 61, 62, 63, 64, 65, 66, 67, 68, 69, 70, 71, 72, 73, 74, 75, 76, 77, 78, 79, 80, 81, 82, 83, 84, 85, 86, 87, 88, 89, 90, 91, 92, 93, 94, 95, 96, 97, 98, 99, 100, 101, 102, 103, 104, 105, 106, 134, 135, 126, 127, 128, 129, 130, 131, 132, 133] (by decide +kernel) (by decide +kernel)
set_option maxRecDepth 20000 in
theorem gX8_gossip_X6_passDay : GoodIn wsX8_gossip (wsV RX8 161 RX6 yX6_passDay wsX6_passDay) := goodIn_app (goodIn_of _ (by decide +kernel)) ggX8_gossip_X6_passDay
set_option maxRecDepth 20000 in
theorem ggX8_gossip_X6_ageOf : GoodIn wsX8_gossip wsX6_ageOf := goodIn_r _ [110, 28, 15, 29, 5, 6, 7, 8, 9, 134, 135, 126, 127, 128, 129, 130, 131, 132, 133] (by decide +kernel) (by decide +kernel)
set_option maxRecDepth 20000 in
theorem gX8_gossip_X6_ageOf : GoodIn wsX8_gossip (wsV RX8 121 RX6 yX6_ageOf wsX6_ageOf) := goodIn_app (goodIn_of _ (by decide +kernel)) ggX8_gossip_X6_ageOf
set_option maxRecDepth 20000 in
theorem ggX8_gossip_X6_knownTo : GoodIn wsX8_gossip wsX6_knownTo := goodIn_r _ [114, 39, 40, 41, 13, 42, 28, 29, 5, 6, 7, 8, 9, 43, 44, 45, 46, 15, 47, 48, 49, 50, 51, 52, 53, 54, 134, 135, 126, 127, 128, 129, 130, 131, 132, 133] (by decide +kernel) (by decide +kernel)
set_option maxRecDepth 20000 in
theorem gX8_gossip_X6_knownTo : GoodIn wsX8_gossip (wsV RX8 131 RX6 yX6_knownTo wsX6_knownTo) := goodIn_app (goodIn_of _ (by decide +kernel)) ggX8_gossip_X6_knownTo
theorem dX8_gossip_0 : decode cX8_gossip 0 = .ok (.iload_n 1, 1) := by decide +kernel
theorem dX8_gossip_1 : decode cX8_gossip 1 = .ok (.ifCond .lt 29, 3) := by decide +kernel
theorem dX8_gossip_4 : decode cX8_gossip 4 = .ok (.iload_n 1, 1) := by decide +kernel
theorem dX8_gossip_5 : decode cX8_gossip 5 = .ok (.bipush 60, 2) := by decide +kernel
theorem dX8_gossip_7 : decode cX8_gossip 7 = .ok (.if_icmp .gt 23, 3) := by decide +kernel
theorem dX8_gossip_10 : decode cX8_gossip 10 = .ok (.aload_n 0, 1) := by decide +kernel
theorem dX8_gossip_11 : decode cX8_gossip 11 = .ok (.getfield 26, 3) := by decide +kernel
theorem dX8_gossip_14 : decode cX8_gossip 14 = .ok (.iload_n 2, 1) := by decide +kernel
theorem dX8_gossip_15 : decode cX8_gossip 15 = .ok (.invokevirtual 117, 3) := by decide +kernel
theorem dX8_gossip_18 : decode cX8_gossip 18 = .ok (.ifCond .eq 12, 3) := by decide +kernel
theorem dX8_gossip_21 : decode cX8_gossip 21 = .ok (.iload_n 3, 1) := by decide +kernel
theorem dX8_gossip_22 : decode cX8_gossip 22 = .ok (.ifCond .lt 8, 3) := by decide +kernel
theorem dX8_gossip_25 : decode cX8_gossip 25 = .ok (.iload_n 3, 1) := by decide +kernel
theorem dX8_gossip_26 : decode cX8_gossip 26 = .ok (.iconst 1, 1) := by decide +kernel
theorem dX8_gossip_27 : decode cX8_gossip 27 = .ok (.if_icmp .le 5, 3) := by decide +kernel
theorem dX8_gossip_30 : decode cX8_gossip 30 = .ok (.iconst (-1), 1) := by decide +kernel
theorem dX8_gossip_31 : decode cX8_gossip 31 = .ok (.ireturn, 1) := by decide +kernel
theorem dX8_gossip_32 : decode cX8_gossip 32 = .ok (.aload_n 0, 1) := by decide +kernel
theorem dX8_gossip_33 : decode cX8_gossip 33 = .ok (.getfield 42, 3) := by decide +kernel
theorem dX8_gossip_36 : decode cX8_gossip 36 = .ok (.aload_n 0, 1) := by decide +kernel
theorem dX8_gossip_37 : decode cX8_gossip 37 = .ok (.getfield 38, 3) := by decide +kernel
theorem dX8_gossip_40 : decode cX8_gossip 40 = .ok (.invokevirtual 169, 3) := by decide +kernel
theorem dX8_gossip_43 : decode cX8_gossip 43 = .ok (.iconst 0, 1) := by decide +kernel
theorem dX8_gossip_44 : decode cX8_gossip 44 = .ok (.istore 4, 2) := by decide +kernel
theorem dX8_gossip_46 : decode cX8_gossip 46 = .ok (.iload 4, 2) := by decide +kernel
theorem dX8_gossip_48 : decode cX8_gossip 48 = .ok (.iload_n 1, 1) := by decide +kernel
theorem dX8_gossip_49 : decode cX8_gossip 49 = .ok (.if_icmp .ge 17, 3) := by decide +kernel
theorem dX8_gossip_52 : decode cX8_gossip 52 = .ok (.aload_n 0, 1) := by decide +kernel
theorem dX8_gossip_53 : decode cX8_gossip 53 = .ok (.getfield 42, 3) := by decide +kernel
theorem dX8_gossip_56 : decode cX8_gossip 56 = .ok (.invokevirtual 161, 3) := by decide +kernel
theorem dX8_gossip_59 : decode cX8_gossip 59 = .ok (.pop, 1) := by decide +kernel
theorem dX8_gossip_60 : decode cX8_gossip 60 = .ok (.iinc 4 1, 3) := by decide +kernel
theorem dX8_gossip_63 : decode cX8_gossip 63 = .ok (.goto (-17), 3) := by decide +kernel
theorem dX8_gossip_66 : decode cX8_gossip 66 = .ok (.iload_n 3, 1) := by decide +kernel
theorem dX8_gossip_67 : decode cX8_gossip 67 = .ok (.ifCond .ne 14, 3) := by decide +kernel
theorem dX8_gossip_70 : decode cX8_gossip 70 = .ok (.aload_n 0, 1) := by decide +kernel
theorem dX8_gossip_71 : decode cX8_gossip 71 = .ok (.getfield 42, 3) := by decide +kernel
theorem dX8_gossip_74 : decode cX8_gossip 74 = .ok (.iload_n 2, 1) := by decide +kernel
theorem dX8_gossip_75 : decode cX8_gossip 75 = .ok (.invokevirtual 121, 3) := by decide +kernel
theorem dX8_gossip_78 : decode cX8_gossip 78 = .ok (.goto 11, 3) := by decide +kernel
theorem dX8_gossip_81 : decode cX8_gossip 81 = .ok (.aload_n 0, 1) := by decide +kernel
theorem dX8_gossip_82 : decode cX8_gossip 82 = .ok (.getfield 42, 3) := by decide +kernel
theorem dX8_gossip_85 : decode cX8_gossip 85 = .ok (.iload_n 2, 1) := by decide +kernel
theorem dX8_gossip_86 : decode cX8_gossip 86 = .ok (.invokevirtual 131, 3) := by decide +kernel
theorem dX8_gossip_89 : decode cX8_gossip 89 = .ok (.ireturn, 1) := by decide +kernel
set_option maxRecDepth 20000 in
theorem ggX8_first_X6_copy : GoodIn wsX8_first wsX6_copy := goodIn_r _ [7, 8, 9, 10, 11, 6, 12, 118, 119] (by decide +kernel) (by decide +kernel)
set_option maxRecDepth 20000 in
theorem gX8_first_X6_copy : GoodIn wsX8_first (wsV RX8 169 RX6 yX6_copy wsX6_copy) := goodIn_app (goodIn_of _ (by decide +kernel)) ggX8_first_X6_copy
set_option maxRecDepth 20000 in
theorem ggX8_first_X6_living : GoodIn wsX8_first wsX6_living := goodIn_r _ [16, 17, 18, 19, 6, 20, 21, 8, 22, 23, 24, 25, 26, 27, 28, 29, 30, 31, 32, 118, 119, 120, 121, 122, 123, 124, 125, 126, 127] (by decide +kernel) (by decide +kernel)
set_option maxRecDepth 20000 in
theorem gX8_first_X6_living : GoodIn wsX8_first (wsV RX8 172 RX6 yX6_living wsX6_living) := goodIn_app (goodIn_of _ (by decide +kernel)) ggX8_first_X6_living
set_option maxRecDepth 20000 in
theorem ggX8_first_X6_passDay : GoodIn wsX8_first wsX6_passDay := goodIn_r _ [36, 8, 17, 18, 19, 6, 20, 21, 22, 23, 24, 25, 26, 27, 28, 29, 30, 31, 32, 37, 38, 39, 40, 41, 42, 43, 44, 45, 46, 47, 48, 49, 50, 51, 52, 53, 54, 55, 56, 57, 58, 59, 60, 61, 62, 63, 64, 65, 66, 67, 68, 69, 70, 71, 72, 73, 14, 15, 16, 74, 75, 76, 77, 78, 79, 80, 81, 82, 83, 84, 85, 86, 87, 88, 89, 90, 91, 92, 93, 94, 95, 96, 97, 98, 99, 100, 101, 102, 103, 104, 105, 118, 119, 120, 121, 122, 123, 124, 125, 126, 127] (by decide +kernel) (by decide +kernel)
set_option maxRecDepth 20000 in
theorem gX8_first_X6_passDay : GoodIn wsX8_first (wsV RX8 161 RX6 yX6_passDay wsX6_passDay) := goodIn_app (goodIn_of _ (by decide +kernel)) ggX8_first_X6_passDay
set_option maxRecDepth 20000 in
theorem ggX8_first_X8_lowestOf : GoodIn wsX8_first wsX8_lowestOf := goodIn_r _ [75, 76, 54, 55, 56] (by decide +kernel) (by decide +kernel)
set_option maxRecDepth 20000 in
theorem gX8_first_X8_lowestOf : GoodIn wsX8_first (va_wsS RX8 175 yX8_lowestOf wsX8_lowestOf) := goodIn_app (goodIn_of _ (by decide +kernel)) ggX8_first_X8_lowestOf
theorem dX8_first_0 : decode cX8_first 0 = .ok (.iload_n 1, 1) := by decide +kernel
theorem dX8_first_1 : decode cX8_first 1 = .ok (.ifCond .lt 8, 3) := by decide +kernel
theorem dX8_first_4 : decode cX8_first 4 = .ok (.iload_n 1, 1) := by decide +kernel
theorem dX8_first_5 : decode cX8_first 5 = .ok (.iconst 1, 1) := by decide +kernel
theorem dX8_first_6 : decode cX8_first 6 = .ok (.if_icmp .le 5, 3) := by decide +kernel
theorem dX8_first_9 : decode cX8_first 9 = .ok (.iconst (-1), 1) := by decide +kernel
theorem dX8_first_10 : decode cX8_first 10 = .ok (.ireturn, 1) := by decide +kernel
theorem dX8_first_11 : decode cX8_first 11 = .ok (.aload_n 0, 1) := by decide +kernel
theorem dX8_first_12 : decode cX8_first 12 = .ok (.getfield 42, 3) := by decide +kernel
theorem dX8_first_15 : decode cX8_first 15 = .ok (.aload_n 0, 1) := by decide +kernel
theorem dX8_first_16 : decode cX8_first 16 = .ok (.getfield 38, 3) := by decide +kernel
theorem dX8_first_19 : decode cX8_first 19 = .ok (.invokevirtual 169, 3) := by decide +kernel
theorem dX8_first_22 : decode cX8_first 22 = .ok (.aload_n 0, 1) := by decide +kernel
theorem dX8_first_23 : decode cX8_first 23 = .ok (.getfield 42, 3) := by decide +kernel
theorem dX8_first_26 : decode cX8_first 26 = .ok (.invokevirtual 172, 3) := by decide +kernel
theorem dX8_first_29 : decode cX8_first 29 = .ok (.istore_n 2, 1) := by decide +kernel
theorem dX8_first_30 : decode cX8_first 30 = .ok (.iconst 1, 1) := by decide +kernel
theorem dX8_first_31 : decode cX8_first 31 = .ok (.istore_n 3, 1) := by decide +kernel
theorem dX8_first_32 : decode cX8_first 32 = .ok (.iload_n 3, 1) := by decide +kernel
theorem dX8_first_33 : decode cX8_first 33 = .ok (.bipush 60, 2) := by decide +kernel
theorem dX8_first_35 : decode cX8_first 35 = .ok (.if_icmp .gt 49, 3) := by decide +kernel
theorem dX8_first_38 : decode cX8_first 38 = .ok (.aload_n 0, 1) := by decide +kernel
theorem dX8_first_39 : decode cX8_first 39 = .ok (.getfield 42, 3) := by decide +kernel
theorem dX8_first_42 : decode cX8_first 42 = .ok (.invokevirtual 161, 3) := by decide +kernel
theorem dX8_first_45 : decode cX8_first 45 = .ok (.pop, 1) := by decide +kernel
theorem dX8_first_46 : decode cX8_first 46 = .ok (.iload_n 2, 1) := by decide +kernel
theorem dX8_first_47 : decode cX8_first 47 = .ok (.aload_n 0, 1) := by decide +kernel
theorem dX8_first_48 : decode cX8_first 48 = .ok (.getfield 42, 3) := by decide +kernel
theorem dX8_first_51 : decode cX8_first 51 = .ok (.invokevirtual 172, 3) := by decide +kernel
theorem dX8_first_54 : decode cX8_first 54 = .ok (.iconst (-1), 1) := by decide +kernel
theorem dX8_first_55 : decode cX8_first 55 = .ok (.ixor, 1) := by decide +kernel
theorem dX8_first_56 : decode cX8_first 56 = .ok (.iand, 1) := by decide +kernel
theorem dX8_first_57 : decode cX8_first 57 = .ok (.istore 4, 2) := by decide +kernel
theorem dX8_first_59 : decode cX8_first 59 = .ok (.iload 4, 2) := by decide +kernel
theorem dX8_first_61 : decode cX8_first 61 = .ok (.ifCond .eq 17, 3) := by decide +kernel
theorem dX8_first_64 : decode cX8_first 64 = .ok (.iload_n 1, 1) := by decide +kernel
theorem dX8_first_65 : decode cX8_first 65 = .ok (.ifCond .ne 11, 3) := by decide +kernel
theorem dX8_first_68 : decode cX8_first 68 = .ok (.iload 4, 2) := by decide +kernel
theorem dX8_first_70 : decode cX8_first 70 = .ok (.invokestatic 175, 3) := by decide +kernel
theorem dX8_first_73 : decode cX8_first 73 = .ok (.goto 4, 3) := by decide +kernel
theorem dX8_first_76 : decode cX8_first 76 = .ok (.iload_n 3, 1) := by decide +kernel
theorem dX8_first_77 : decode cX8_first 77 = .ok (.ireturn, 1) := by decide +kernel
theorem dX8_first_78 : decode cX8_first 78 = .ok (.iinc 3 1, 3) := by decide +kernel
theorem dX8_first_81 : decode cX8_first 81 = .ok (.goto (-49), 3) := by decide +kernel
theorem dX8_first_84 : decode cX8_first 84 = .ok (.bipush (-4), 2) := by decide +kernel
theorem dX8_first_86 : decode cX8_first 86 = .ok (.ireturn, 1) := by decide +kernel
set_option maxRecDepth 20000 in
theorem ggX8_reach_X7_hasSecret : GoodIn wsX8_reach wsX7_hasSecret := goodIn_r _ [8, 9, 119, 120, 121, 122, 123, 124, 125, 126] (by decide +kernel) (by decide +kernel)
set_option maxRecDepth 20000 in
theorem gX8_reach_X7_hasSecret : GoodIn wsX8_reach (wsV RX8 140 RX7 yX7_hasSecret wsX7_hasSecret) := goodIn_app (goodIn_of _ (by decide +kernel)) ggX8_reach_X7_hasSecret
set_option maxRecDepth 20000 in
theorem ggX8_reach_X7_hasPerson : GoodIn wsX8_reach wsX7_hasPerson := goodIn_r _ [13, 14, 119, 120, 121, 122, 123, 124, 125, 126] (by decide +kernel) (by decide +kernel)
set_option maxRecDepth 20000 in
theorem gX8_reach_X7_hasPerson : GoodIn wsX8_reach (wsV RX8 117 RX7 yX7_hasPerson wsX7_hasPerson) := goodIn_app (goodIn_of _ (by decide +kernel)) ggX8_reach_X7_hasPerson
set_option maxRecDepth 20000 in
theorem ggX8_reach_X6_isAlive : GoodIn wsX8_reach wsX6_isAlive := goodIn_r _ [19, 20, 21, 22, 11, 12, 7, 13, 14, 23, 24, 25, 26, 27, 127, 128, 119, 120, 121, 122, 123, 124, 125, 126] (by decide +kernel) (by decide +kernel)
set_option maxRecDepth 20000 in
theorem gX8_reach_X6_isAlive : GoodIn wsX8_reach (wsV RX8 137 RX6 yX6_isAlive wsX6_isAlive) := goodIn_app (goodIn_of _ (by decide +kernel)) ggX8_reach_X6_isAlive
set_option maxRecDepth 20000 in
theorem ggX8_reach_X0_fewestShades : GoodIn wsX8_reach wsX0_fewestShades := goodIn_r _ [32, 33, 34, 35, 36, 37, 38, 39, 40, 41, 18, 42, 20, 22, 11, 12, 7, 13, 14, 43, 44, 45, 46, 21, 47, 5, 6, 8, 9, 48, 49, 50, 51, 16, 17, 19, 23, 24, 25, 26, 27, 52, 53, 31, 54, 55, 56, 57, 58, 59, 60, 61, 62, 63, 64, 65, 66, 67, 68, 69, 70, 71, 72, 73, 74, 75, 76, 77, 78, 79, 80, 81, 82, 83, 84, 85, 86, 87, 88, 89, 90, 91, 92, 93, 94, 95, 96, 97, 98, 99, 100, 101, 102, 103, 104, 105, 106, 107, 129, 130, 127, 128, 119, 120, 121, 122, 123, 124, 125, 126] (by decide +kernel) (by decide +kernel)
set_option maxRecDepth 20000 in
theorem gX8_reach_X0_fewestShades : GoodIn wsX8_reach (wsV RX8 178 RX0 yX0_fewestShades wsX0_fewestShades) := goodIn_app (goodIn_of _ (by decide +kernel)) ggX8_reach_X0_fewestShades
theorem dX8_reach_0 : decode cX8_reach 0 = .ok (.aload_n 0, 1) := by decide +kernel
theorem dX8_reach_1 : decode cX8_reach 1 = .ok (.getfield 26, 3) := by decide +kernel
theorem dX8_reach_4 : decode cX8_reach 4 = .ok (.iload_n 1, 1) := by decide +kernel
theorem dX8_reach_5 : decode cX8_reach 5 = .ok (.invokevirtual 140, 3) := by decide +kernel
theorem dX8_reach_8 : decode cX8_reach 8 = .ok (.ifCond .eq 14, 3) := by decide +kernel
theorem dX8_reach_11 : decode cX8_reach 11 = .ok (.aload_n 0, 1) := by decide +kernel
theorem dX8_reach_12 : decode cX8_reach 12 = .ok (.getfield 26, 3) := by decide +kernel
theorem dX8_reach_15 : decode cX8_reach 15 = .ok (.iload_n 2, 1) := by decide +kernel
theorem dX8_reach_16 : decode cX8_reach 16 = .ok (.invokevirtual 117, 3) := by decide +kernel
theorem dX8_reach_19 : decode cX8_reach 19 = .ok (.ifCond .ne 5, 3) := by decide +kernel
theorem dX8_reach_22 : decode cX8_reach 22 = .ok (.iconst (-1), 1) := by decide +kernel
theorem dX8_reach_23 : decode cX8_reach 23 = .ok (.ireturn, 1) := by decide +kernel
theorem dX8_reach_24 : decode cX8_reach 24 = .ok (.aload_n 0, 1) := by decide +kernel
theorem dX8_reach_25 : decode cX8_reach 25 = .ok (.getfield 38, 3) := by decide +kernel
theorem dX8_reach_28 : decode cX8_reach 28 = .ok (.iload_n 2, 1) := by decide +kernel
theorem dX8_reach_29 : decode cX8_reach 29 = .ok (.invokevirtual 137, 3) := by decide +kernel
theorem dX8_reach_32 : decode cX8_reach 32 = .ok (.ifCond .ne 6, 3) := by decide +kernel
theorem dX8_reach_35 : decode cX8_reach 35 = .ok (.bipush (-2), 2) := by decide +kernel
theorem dX8_reach_37 : decode cX8_reach 37 = .ok (.ireturn, 1) := by decide +kernel
theorem dX8_reach_38 : decode cX8_reach 38 = .ok (.aload_n 0, 1) := by decide +kernel
theorem dX8_reach_39 : decode cX8_reach 39 = .ok (.getfield 60, 3) := by decide +kernel
theorem dX8_reach_42 : decode cX8_reach 42 = .ok (.aload_n 0, 1) := by decide +kernel
theorem dX8_reach_43 : decode cX8_reach 43 = .ok (.getfield 38, 3) := by decide +kernel
theorem dX8_reach_46 : decode cX8_reach 46 = .ok (.iload_n 1, 1) := by decide +kernel
theorem dX8_reach_47 : decode cX8_reach 47 = .ok (.iload_n 2, 1) := by decide +kernel
theorem dX8_reach_48 : decode cX8_reach 48 = .ok (.invokevirtual 178, 3) := by decide +kernel
theorem dX8_reach_51 : decode cX8_reach 51 = .ok (.ireturn, 1) := by decide +kernel
set_option maxRecDepth 20000 in
theorem ggX8_all_X7_secrets : GoodIn wsX8_all wsX7_secrets := goodIn_r _ [8, 9, 123, 124, 125, 126, 127, 128, 129, 130] (by decide +kernel) (by decide +kernel)
set_option maxRecDepth 20000 in
theorem gX8_all_X7_secrets : GoodIn wsX8_all (wsV RX8 182 RX7 yX7_secrets wsX7_secrets) := goodIn_app (goodIn_of _ (by decide +kernel)) ggX8_all_X7_secrets
set_option maxRecDepth 20000 in
theorem ggX8_all_X7_hasPerson : GoodIn wsX8_all wsX7_hasPerson := goodIn_r _ [13, 14, 123, 124, 125, 126, 127, 128, 129, 130] (by decide +kernel) (by decide +kernel)
set_option maxRecDepth 20000 in
theorem gX8_all_X7_hasPerson : GoodIn wsX8_all (wsV RX8 117 RX7 yX7_hasPerson wsX7_hasPerson) := goodIn_app (goodIn_of _ (by decide +kernel)) ggX8_all_X7_hasPerson
set_option maxRecDepth 20000 in
theorem ggX8_all_X6_isAlive : GoodIn wsX8_all wsX6_isAlive := goodIn_r _ [19, 20, 21, 22, 11, 12, 7, 13, 14, 23, 24, 25, 26, 27, 131, 132, 123, 124, 125, 126, 127, 128, 129, 130] (by decide +kernel) (by decide +kernel)
set_option maxRecDepth 20000 in
theorem gX8_all_X6_isAlive : GoodIn wsX8_all (wsV RX8 137 RX6 yX6_isAlive wsX6_isAlive) := goodIn_app (goodIn_of _ (by decide +kernel)) ggX8_all_X6_isAlive
set_option maxRecDepth 20000 in
theorem ggX8_all_X8_has : GoodIn wsX8_all wsX8_has := goodIn_r _ [31] (by decide +kernel) (by decide +kernel)
set_option maxRecDepth 20000 in
theorem gX8_all_X8_has : GoodIn wsX8_all (va_wsS RX8 185 yX8_has wsX8_has) := goodIn_app (goodIn_of _ (by decide +kernel)) ggX8_all_X8_has
set_option maxRecDepth 20000 in
theorem ggX8_all_X0_fewestShades : GoodIn wsX8_all wsX0_fewestShades := goodIn_r _ [36, 37, 38, 39, 40, 41, 42, 43, 44, 45, 18, 46, 20, 22, 11, 12, 7, 13, 14, 47, 48, 49, 50, 21, 51, 52, 53, 54, 9, 29, 30, 31, 55, 16, 17, 19, 23, 24, 25, 26, 27, 56, 57, 35, 58, 59, 60, 61, 62, 63, 64, 65, 66, 67, 68, 69, 70, 71, 72, 73, 74, 75, 76, 77, 78, 79, 80, 81, 82, 83, 84, 85, 86, 87, 88, 89, 90, 91, 92, 93, 94, 95, 96, 97, 98, 99, 100, 101, 102, 103, 104, 105, 106, 107, 108, 109, 110, 111, 133, 134, 131, 132, 123, 124, 125, 126, 127, 128, 129, 130] (by decide +kernel) (by decide +kernel)
set_option maxRecDepth 20000 in
theorem gX8_all_X0_fewestShades : GoodIn wsX8_all (wsV RX8 178 RX0 yX0_fewestShades wsX0_fewestShades) := goodIn_app (goodIn_of _ (by decide +kernel)) ggX8_all_X0_fewestShades
theorem dX8_all_0 : decode cX8_all 0 = .ok (.iload_n 1, 1) := by decide +kernel
theorem dX8_all_1 : decode cX8_all 1 = .ok (.ifCond .lt 27, 3) := by decide +kernel
theorem dX8_all_4 : decode cX8_all 4 = .ok (.iload_n 1, 1) := by decide +kernel
theorem dX8_all_5 : decode cX8_all 5 = .ok (.iconst 1, 1) := by decide +kernel
theorem dX8_all_6 : decode cX8_all 6 = .ok (.aload_n 0, 1) := by decide +kernel
theorem dX8_all_7 : decode cX8_all 7 = .ok (.getfield 26, 3) := by decide +kernel
theorem dX8_all_10 : decode cX8_all 10 = .ok (.invokevirtual 182, 3) := by decide +kernel
theorem dX8_all_13 : decode cX8_all 13 = .ok (.ishl, 1) := by decide +kernel
theorem dX8_all_14 : decode cX8_all 14 = .ok (.if_icmp .ge 14, 3) := by decide +kernel
theorem dX8_all_17 : decode cX8_all 17 = .ok (.aload_n 0, 1) := by decide +kernel
theorem dX8_all_18 : decode cX8_all 18 = .ok (.getfield 26, 3) := by decide +kernel
theorem dX8_all_21 : decode cX8_all 21 = .ok (.iload_n 2, 1) := by decide +kernel
theorem dX8_all_22 : decode cX8_all 22 = .ok (.invokevirtual 117, 3) := by decide +kernel
theorem dX8_all_25 : decode cX8_all 25 = .ok (.ifCond .ne 5, 3) := by decide +kernel
theorem dX8_all_28 : decode cX8_all 28 = .ok (.iconst (-1), 1) := by decide +kernel
theorem dX8_all_29 : decode cX8_all 29 = .ok (.ireturn, 1) := by decide +kernel
theorem dX8_all_30 : decode cX8_all 30 = .ok (.aload_n 0, 1) := by decide +kernel
theorem dX8_all_31 : decode cX8_all 31 = .ok (.getfield 38, 3) := by decide +kernel
theorem dX8_all_34 : decode cX8_all 34 = .ok (.iload_n 2, 1) := by decide +kernel
theorem dX8_all_35 : decode cX8_all 35 = .ok (.invokevirtual 137, 3) := by decide +kernel
theorem dX8_all_38 : decode cX8_all 38 = .ok (.ifCond .ne 6, 3) := by decide +kernel
theorem dX8_all_41 : decode cX8_all 41 = .ok (.bipush (-2), 2) := by decide +kernel
theorem dX8_all_43 : decode cX8_all 43 = .ok (.ireturn, 1) := by decide +kernel
theorem dX8_all_44 : decode cX8_all 44 = .ok (.iconst 0, 1) := by decide +kernel
theorem dX8_all_45 : decode cX8_all 45 = .ok (.istore_n 3, 1) := by decide +kernel
theorem dX8_all_46 : decode cX8_all 46 = .ok (.iconst 0, 1) := by decide +kernel
theorem dX8_all_47 : decode cX8_all 47 = .ok (.istore 4, 2) := by decide +kernel
theorem dX8_all_49 : decode cX8_all 49 = .ok (.iload 4, 2) := by decide +kernel
theorem dX8_all_51 : decode cX8_all 51 = .ok (.bipush 8, 2) := by decide +kernel
theorem dX8_all_53 : decode cX8_all 53 = .ok (.if_icmp .ge 49, 3) := by decide +kernel
theorem dX8_all_56 : decode cX8_all 56 = .ok (.iload_n 1, 1) := by decide +kernel
theorem dX8_all_57 : decode cX8_all 57 = .ok (.iload 4, 2) := by decide +kernel
theorem dX8_all_59 : decode cX8_all 59 = .ok (.invokestatic 185, 3) := by decide +kernel
theorem dX8_all_62 : decode cX8_all 62 = .ok (.ifCond .eq 34, 3) := by decide +kernel
theorem dX8_all_65 : decode cX8_all 65 = .ok (.aload_n 0, 1) := by decide +kernel
theorem dX8_all_66 : decode cX8_all 66 = .ok (.getfield 60, 3) := by decide +kernel
theorem dX8_all_69 : decode cX8_all 69 = .ok (.aload_n 0, 1) := by decide +kernel
theorem dX8_all_70 : decode cX8_all 70 = .ok (.getfield 38, 3) := by decide +kernel
theorem dX8_all_73 : decode cX8_all 73 = .ok (.iload 4, 2) := by decide +kernel
theorem dX8_all_75 : decode cX8_all 75 = .ok (.iload_n 2, 1) := by decide +kernel
theorem dX8_all_76 : decode cX8_all 76 = .ok (.invokevirtual 178, 3) := by decide +kernel
theorem dX8_all_79 : decode cX8_all 79 = .ok (.istore 5, 2) := by decide +kernel
theorem dX8_all_81 : decode cX8_all 81 = .ok (.iload 5, 2) := by decide +kernel
theorem dX8_all_83 : decode cX8_all 83 = .ok (.bipush (-4), 2) := by decide +kernel
theorem dX8_all_85 : decode cX8_all 85 = .ok (.if_icmp .ne 6, 3) := by decide +kernel
theorem dX8_all_88 : decode cX8_all 88 = .ok (.bipush (-4), 2) := by decide +kernel
theorem dX8_all_90 : decode cX8_all 90 = .ok (.ireturn, 1) := by decide +kernel
theorem dX8_all_91 : decode cX8_all 91 = .ok (.iload_n 3, 1) := by decide +kernel
theorem dX8_all_92 : decode cX8_all 92 = .ok (.iload 5, 2) := by decide +kernel
theorem dX8_all_94 : decode cX8_all 94 = .ok (.iadd, 1) := by decide +kernel
theorem dX8_all_95 : decode cX8_all 95 = .ok (.istore_n 3, 1) := by decide +kernel
theorem dX8_all_96 : decode cX8_all 96 = .ok (.iinc 4 1, 3) := by decide +kernel
theorem dX8_all_99 : decode cX8_all 99 = .ok (.goto (-50), 3) := by decide +kernel
theorem dX8_all_102 : decode cX8_all 102 = .ok (.iload_n 3, 1) := by decide +kernel
theorem dX8_all_103 : decode cX8_all 103 = .ok (.ireturn, 1) := by decide +kernel
set_option maxRecDepth 20000 in
theorem ggX8_apart_X7_hasSecret : GoodIn wsX8_apart wsX7_hasSecret := goodIn_r _ [7, 8, 88, 89, 90, 91, 92, 93, 94, 95] (by decide +kernel) (by decide +kernel)
set_option maxRecDepth 20000 in
theorem gX8_apart_X7_hasSecret : GoodIn wsX8_apart (wsV RX8 140 RX7 yX7_hasSecret wsX7_hasSecret) := goodIn_app (goodIn_of _ (by decide +kernel)) ggX8_apart_X7_hasSecret
set_option maxRecDepth 20000 in
theorem ggX8_apart_X7_hasPerson : GoodIn wsX8_apart wsX7_hasPerson := goodIn_r _ [12, 13, 88, 89, 90, 91, 92, 93, 94, 95] (by decide +kernel) (by decide +kernel)
set_option maxRecDepth 20000 in
theorem gX8_apart_X7_hasPerson : GoodIn wsX8_apart (wsV RX8 117 RX7 yX7_hasPerson wsX7_hasPerson) := goodIn_app (goodIn_of _ (by decide +kernel)) ggX8_apart_X7_hasPerson
set_option maxRecDepth 20000 in
theorem ggX8_apart_X6_isAlive : GoodIn wsX8_apart wsX6_isAlive := goodIn_r _ [18, 19, 20, 21, 10, 11, 6, 12, 13, 22, 23, 24, 25, 26, 96, 97, 88, 89, 90, 91, 92, 93, 94, 95] (by decide +kernel) (by decide +kernel)
set_option maxRecDepth 20000 in
theorem gX8_apart_X6_isAlive : GoodIn wsX8_apart (wsV RX8 137 RX6 yX6_isAlive wsX6_isAlive) := goodIn_app (goodIn_of _ (by decide +kernel)) ggX8_apart_X6_isAlive
set_option maxRecDepth 20000 in
theorem ggX8_apart_X6_knows : GoodIn wsX8_apart wsX6_knows := goodIn_r _ [30, 19, 21, 10, 11, 6, 12, 13, 31, 32, 33, 17, 34, 20, 35, 4, 5, 7, 8, 36, 37, 38, 96, 97, 88, 89, 90, 91, 92, 93, 94, 95] (by decide +kernel) (by decide +kernel)
set_option maxRecDepth 20000 in
theorem gX8_apart_X6_knows : GoodIn wsX8_apart (wsV RX8 149 RX6 yX6_knows wsX6_knows) := goodIn_app (goodIn_of _ (by decide +kernel)) ggX8_apart_X6_knows
set_option maxRecDepth 20000 in
theorem ggX8_apart_X6_living : GoodIn wsX8_apart wsX6_living := goodIn_r _ [42, 43, 15, 16, 17, 18, 19, 20, 21, 10, 11, 6, 12, 13, 22, 23, 24, 25, 26, 96, 97, 88, 89, 90, 91, 92, 93, 94, 95] (by decide +kernel) (by decide +kernel)
set_option maxRecDepth 20000 in
theorem gX8_apart_X6_living : GoodIn wsX8_apart (wsV RX8 172 RX6 yX6_living wsX6_living) := goodIn_app (goodIn_of _ (by decide +kernel)) ggX8_apart_X6_living
set_option maxRecDepth 20000 in
theorem ggX8_apart_X6_knowersOf : GoodIn wsX8_apart wsX6_knowersOf := goodIn_r _ [34, 19, 20, 35, 4, 5, 6, 7, 8, 96, 97, 88, 89, 90, 91, 92, 93, 94, 95] (by decide +kernel) (by decide +kernel)
set_option maxRecDepth 20000 in
theorem gX8_apart_X6_knowersOf : GoodIn wsX8_apart (wsV RX8 146 RX6 yX6_knowersOf wsX6_knowersOf) := goodIn_app (goodIn_of _ (by decide +kernel)) ggX8_apart_X6_knowersOf
set_option maxRecDepth 20000 in
theorem ggX8_apart_X8_fewestCut : GoodIn wsX8_apart wsX8_fewestCut := goodIn_r _ [48, 49, 50, 51, 52, 53, 54, 55, 56, 37, 57, 2, 58, 36, 38, 59, 60, 61, 17, 62, 19, 43, 15, 16, 18, 20, 21, 10, 11, 6, 12, 13, 22, 23, 24, 25, 26, 63, 64, 65, 66, 67, 68, 69, 40, 41, 42, 70, 71, 72, 73, 74, 75, 76, 77, 78, 79, 80, 81, 82, 83, 84, 85, 86, 87, 96, 97, 88, 89, 90, 91, 92, 93, 94, 95] (by decide +kernel) (by decide +kernel)
set_option maxRecDepth 20000 in
theorem gX8_apart_X8_fewestCut : GoodIn wsX8_apart (wsV RX8 188 RX8 yX8_fewestCut wsX8_fewestCut) := goodIn_app (goodIn_of _ (by decide +kernel)) ggX8_apart_X8_fewestCut
theorem dX8_apart_0 : decode cX8_apart 0 = .ok (.aload_n 0, 1) := by decide +kernel
theorem dX8_apart_1 : decode cX8_apart 1 = .ok (.getfield 26, 3) := by decide +kernel
theorem dX8_apart_4 : decode cX8_apart 4 = .ok (.iload_n 1, 1) := by decide +kernel
theorem dX8_apart_5 : decode cX8_apart 5 = .ok (.invokevirtual 140, 3) := by decide +kernel
theorem dX8_apart_8 : decode cX8_apart 8 = .ok (.ifCond .eq 14, 3) := by decide +kernel
theorem dX8_apart_11 : decode cX8_apart 11 = .ok (.aload_n 0, 1) := by decide +kernel
theorem dX8_apart_12 : decode cX8_apart 12 = .ok (.getfield 26, 3) := by decide +kernel
theorem dX8_apart_15 : decode cX8_apart 15 = .ok (.iload_n 2, 1) := by decide +kernel
theorem dX8_apart_16 : decode cX8_apart 16 = .ok (.invokevirtual 117, 3) := by decide +kernel
theorem dX8_apart_19 : decode cX8_apart 19 = .ok (.ifCond .ne 5, 3) := by decide +kernel
theorem dX8_apart_22 : decode cX8_apart 22 = .ok (.iconst (-1), 1) := by decide +kernel
theorem dX8_apart_23 : decode cX8_apart 23 = .ok (.ireturn, 1) := by decide +kernel
theorem dX8_apart_24 : decode cX8_apart 24 = .ok (.aload_n 0, 1) := by decide +kernel
theorem dX8_apart_25 : decode cX8_apart 25 = .ok (.getfield 38, 3) := by decide +kernel
theorem dX8_apart_28 : decode cX8_apart 28 = .ok (.iload_n 2, 1) := by decide +kernel
theorem dX8_apart_29 : decode cX8_apart 29 = .ok (.invokevirtual 137, 3) := by decide +kernel
theorem dX8_apart_32 : decode cX8_apart 32 = .ok (.ifCond .ne 6, 3) := by decide +kernel
theorem dX8_apart_35 : decode cX8_apart 35 = .ok (.bipush (-2), 2) := by decide +kernel
theorem dX8_apart_37 : decode cX8_apart 37 = .ok (.ireturn, 1) := by decide +kernel
theorem dX8_apart_38 : decode cX8_apart 38 = .ok (.aload_n 0, 1) := by decide +kernel
theorem dX8_apart_39 : decode cX8_apart 39 = .ok (.getfield 38, 3) := by decide +kernel
theorem dX8_apart_42 : decode cX8_apart 42 = .ok (.iload_n 2, 1) := by decide +kernel
theorem dX8_apart_43 : decode cX8_apart 43 = .ok (.iload_n 1, 1) := by decide +kernel
theorem dX8_apart_44 : decode cX8_apart 44 = .ok (.invokevirtual 149, 3) := by decide +kernel
theorem dX8_apart_47 : decode cX8_apart 47 = .ok (.ifCond .eq 6, 3) := by decide +kernel
theorem dX8_apart_50 : decode cX8_apart 50 = .ok (.bipush (-4), 2) := by decide +kernel
theorem dX8_apart_52 : decode cX8_apart 52 = .ok (.ireturn, 1) := by decide +kernel
theorem dX8_apart_53 : decode cX8_apart 53 = .ok (.aload_n 0, 1) := by decide +kernel
theorem dX8_apart_54 : decode cX8_apart 54 = .ok (.aload_n 0, 1) := by decide +kernel
theorem dX8_apart_55 : decode cX8_apart 55 = .ok (.getfield 38, 3) := by decide +kernel
theorem dX8_apart_58 : decode cX8_apart 58 = .ok (.invokevirtual 172, 3) := by decide +kernel
theorem dX8_apart_61 : decode cX8_apart 61 = .ok (.aload_n 0, 1) := by decide +kernel
theorem dX8_apart_62 : decode cX8_apart 62 = .ok (.getfield 38, 3) := by decide +kernel
theorem dX8_apart_65 : decode cX8_apart 65 = .ok (.iload_n 1, 1) := by decide +kernel
theorem dX8_apart_66 : decode cX8_apart 66 = .ok (.invokevirtual 146, 3) := by decide +kernel
theorem dX8_apart_69 : decode cX8_apart 69 = .ok (.aload_n 0, 1) := by decide +kernel
theorem dX8_apart_70 : decode cX8_apart 70 = .ok (.getfield 38, 3) := by decide +kernel
theorem dX8_apart_73 : decode cX8_apart 73 = .ok (.invokevirtual 172, 3) := by decide +kernel
theorem dX8_apart_76 : decode cX8_apart 76 = .ok (.iand, 1) := by decide +kernel
theorem dX8_apart_77 : decode cX8_apart 77 = .ok (.iconst 1, 1) := by decide +kernel
theorem dX8_apart_78 : decode cX8_apart 78 = .ok (.iload_n 2, 1) := by decide +kernel
theorem dX8_apart_79 : decode cX8_apart 79 = .ok (.ishl, 1) := by decide +kernel
theorem dX8_apart_80 : decode cX8_apart 80 = .ok (.invokevirtual 188, 3) := by decide +kernel
theorem dX8_apart_83 : decode cX8_apart 83 = .ok (.ireturn, 1) := by decide +kernel
set_option maxRecDepth 20000 in
theorem ggX8_worth_X7_hasPerson : GoodIn wsX8_worth wsX7_hasPerson := goodIn_r _ [8, 9, 114, 115, 116, 117, 118, 119, 120, 121] (by decide +kernel) (by decide +kernel)
set_option maxRecDepth 20000 in
theorem gX8_worth_X7_hasPerson : GoodIn wsX8_worth (wsV RX8 117 RX7 yX7_hasPerson wsX7_hasPerson) := goodIn_app (goodIn_of _ (by decide +kernel)) ggX8_worth_X7_hasPerson
set_option maxRecDepth 20000 in
theorem ggX8_worth_X7_hasSecret : GoodIn wsX8_worth wsX7_hasSecret := goodIn_r _ [13, 14, 114, 115, 116, 117, 118, 119, 120, 121] (by decide +kernel) (by decide +kernel)
set_option maxRecDepth 20000 in
theorem gX8_worth_X7_hasSecret : GoodIn wsX8_worth (wsV RX8 140 RX7 yX7_hasSecret wsX7_hasSecret) := goodIn_app (goodIn_of _ (by decide +kernel)) ggX8_worth_X7_hasSecret
set_option maxRecDepth 20000 in
theorem ggX8_worth_X6_isAlive : GoodIn wsX8_worth wsX6_isAlive := goodIn_r _ [19, 20, 21, 22, 5, 6, 7, 8, 9, 23, 24, 25, 26, 27, 122, 123, 114, 115, 116, 117, 118, 119, 120, 121] (by decide +kernel) (by decide +kernel)
set_option maxRecDepth 20000 in
theorem gX8_worth_X6_isAlive : GoodIn wsX8_worth (wsV RX8 137 RX6 yX6_isAlive wsX6_isAlive) := goodIn_app (goodIn_of _ (by decide +kernel)) ggX8_worth_X6_isAlive
set_option maxRecDepth 20000 in
theorem ggX8_worth_X6_knows : GoodIn wsX8_worth wsX6_knows := goodIn_r _ [31, 20, 22, 5, 6, 7, 8, 9, 32, 33, 34, 18, 35, 21, 36, 11, 12, 13, 14, 37, 38, 39, 122, 123, 114, 115, 116, 117, 118, 119, 120, 121] (by decide +kernel) (by decide +kernel)
set_option maxRecDepth 20000 in
theorem gX8_worth_X6_knows : GoodIn wsX8_worth (wsV RX8 149 RX6 yX6_knows wsX6_knows) := goodIn_app (goodIn_of _ (by decide +kernel)) ggX8_worth_X6_knows
set_option maxRecDepth 20000 in
theorem ggX8_worth_X7_ownerOf : GoodIn wsX8_worth wsX7_ownerOf := goodIn_r _ [43, 44, 45, 11, 12, 7, 13, 14, 114, 115, 116, 117, 118, 119, 120, 121] (by decide +kernel) (by decide +kernel)
set_option maxRecDepth 20000 in
theorem gX8_worth_X7_ownerOf : GoodIn wsX8_worth (wsV RX8 143 RX7 yX7_ownerOf wsX7_ownerOf) := goodIn_app (goodIn_of _ (by decide +kernel)) ggX8_worth_X7_ownerOf
set_option maxRecDepth 20000 in
theorem ggX8_worth_X6_copy : GoodIn wsX8_worth wsX6_copy := goodIn_r _ [49, 21, 50, 51, 52, 18, 53, 122, 123] (by decide +kernel) (by decide +kernel)
set_option maxRecDepth 20000 in
theorem gX8_worth_X6_copy : GoodIn wsX8_worth (wsV RX8 169 RX6 yX6_copy wsX6_copy) := goodIn_app (goodIn_of _ (by decide +kernel)) ggX8_worth_X6_copy
set_option maxRecDepth 20000 in
theorem ggX8_worth_X6_meetsOf : GoodIn wsX8_worth wsX6_meetsOf := goodIn_r _ [57, 20, 58, 16, 17, 18, 19, 21, 22, 5, 6, 7, 8, 9, 23, 24, 25, 26, 27, 59, 60, 61, 62, 63, 64, 65, 66, 67, 68, 122, 123, 114, 115, 116, 117, 118, 119, 120, 121] (by decide +kernel) (by decide +kernel)
set_option maxRecDepth 20000 in
theorem gX8_worth_X6_meetsOf : GoodIn wsX8_worth (wsV RX8 128 RX6 yX6_meetsOf wsX6_meetsOf) := goodIn_app (goodIn_of _ (by decide +kernel)) ggX8_worth_X6_meetsOf
set_option maxRecDepth 20000 in
theorem ggX8_worth_X6_speak : GoodIn wsX8_worth wsX6_speak := goodIn_r _ [72, 20, 21, 36, 11, 12, 7, 13, 14, 73, 41, 42, 43, 44, 45, 65, 66, 67, 18, 68, 58, 16, 17, 19, 22, 5, 6, 8, 9, 23, 24, 25, 26, 27, 32, 33, 34, 35, 74, 75, 76, 77, 78, 79, 80, 81, 82, 83, 84, 85, 64, 86, 87, 88, 89, 90, 38, 91, 92, 93, 94, 95, 96, 97, 98, 37, 39, 122, 123, 114, 115, 116, 117, 118, 119, 120, 121] (by decide +kernel) (by decide +kernel)
set_option maxRecDepth 20000 in
theorem gX8_worth_X6_speak : GoodIn wsX8_worth (wsV RX8 157 RX6 yX6_speak wsX6_speak) := goodIn_app (goodIn_of _ (by decide +kernel)) ggX8_worth_X6_speak
set_option maxRecDepth 20000 in
theorem ggX8_worth_X6_ageOf : GoodIn wsX8_worth wsX6_ageOf := goodIn_r _ [102, 20, 21, 22, 5, 6, 7, 8, 9, 122, 123, 114, 115, 116, 117, 118, 119, 120, 121] (by decide +kernel) (by decide +kernel)
set_option maxRecDepth 20000 in
theorem gX8_worth_X6_ageOf : GoodIn wsX8_worth (wsV RX8 121 RX6 yX6_ageOf wsX6_ageOf) := goodIn_app (goodIn_of _ (by decide +kernel)) ggX8_worth_X6_ageOf
theorem dX8_worth_0 : decode cX8_worth 0 = .ok (.aload_n 0, 1) := by decide +kernel
theorem dX8_worth_1 : decode cX8_worth 1 = .ok (.getfield 26, 3) := by decide +kernel
theorem dX8_worth_4 : decode cX8_worth 4 = .ok (.iload_n 1, 1) := by decide +kernel
theorem dX8_worth_5 : decode cX8_worth 5 = .ok (.invokevirtual 117, 3) := by decide +kernel
theorem dX8_worth_8 : decode cX8_worth 8 = .ok (.ifCond .eq 14, 3) := by decide +kernel
theorem dX8_worth_11 : decode cX8_worth 11 = .ok (.aload_n 0, 1) := by decide +kernel
theorem dX8_worth_12 : decode cX8_worth 12 = .ok (.getfield 26, 3) := by decide +kernel
theorem dX8_worth_15 : decode cX8_worth 15 = .ok (.iload_n 2, 1) := by decide +kernel
theorem dX8_worth_16 : decode cX8_worth 16 = .ok (.invokevirtual 140, 3) := by decide +kernel
theorem dX8_worth_19 : decode cX8_worth 19 = .ok (.ifCond .ne 5, 3) := by decide +kernel
theorem dX8_worth_22 : decode cX8_worth 22 = .ok (.iconst (-1), 1) := by decide +kernel
theorem dX8_worth_23 : decode cX8_worth 23 = .ok (.ireturn, 1) := by decide +kernel
theorem dX8_worth_24 : decode cX8_worth 24 = .ok (.aload_n 0, 1) := by decide +kernel
theorem dX8_worth_25 : decode cX8_worth 25 = .ok (.getfield 38, 3) := by decide +kernel
theorem dX8_worth_28 : decode cX8_worth 28 = .ok (.iload_n 1, 1) := by decide +kernel
theorem dX8_worth_29 : decode cX8_worth 29 = .ok (.invokevirtual 137, 3) := by decide +kernel
theorem dX8_worth_32 : decode cX8_worth 32 = .ok (.ifCond .eq 15, 3) := by decide +kernel
theorem dX8_worth_35 : decode cX8_worth 35 = .ok (.aload_n 0, 1) := by decide +kernel
theorem dX8_worth_36 : decode cX8_worth 36 = .ok (.getfield 38, 3) := by decide +kernel
theorem dX8_worth_39 : decode cX8_worth 39 = .ok (.iload_n 1, 1) := by decide +kernel
theorem dX8_worth_40 : decode cX8_worth 40 = .ok (.iload_n 2, 1) := by decide +kernel
theorem dX8_worth_41 : decode cX8_worth 41 = .ok (.invokevirtual 149, 3) := by decide +kernel
theorem dX8_worth_44 : decode cX8_worth 44 = .ok (.ifCond .ne 6, 3) := by decide +kernel
theorem dX8_worth_47 : decode cX8_worth 47 = .ok (.bipush (-2), 2) := by decide +kernel
theorem dX8_worth_49 : decode cX8_worth 49 = .ok (.ireturn, 1) := by decide +kernel
theorem dX8_worth_50 : decode cX8_worth 50 = .ok (.aload_n 0, 1) := by decide +kernel
theorem dX8_worth_51 : decode cX8_worth 51 = .ok (.getfield 26, 3) := by decide +kernel
theorem dX8_worth_54 : decode cX8_worth 54 = .ok (.iload_n 2, 1) := by decide +kernel
theorem dX8_worth_55 : decode cX8_worth 55 = .ok (.invokevirtual 143, 3) := by decide +kernel
theorem dX8_worth_58 : decode cX8_worth 58 = .ok (.istore_n 3, 1) := by decide +kernel
theorem dX8_worth_59 : decode cX8_worth 59 = .ok (.aload_n 0, 1) := by decide +kernel
theorem dX8_worth_60 : decode cX8_worth 60 = .ok (.getfield 42, 3) := by decide +kernel
theorem dX8_worth_63 : decode cX8_worth 63 = .ok (.aload_n 0, 1) := by decide +kernel
theorem dX8_worth_64 : decode cX8_worth 64 = .ok (.getfield 38, 3) := by decide +kernel
theorem dX8_worth_67 : decode cX8_worth 67 = .ok (.invokevirtual 169, 3) := by decide +kernel
theorem dX8_worth_70 : decode cX8_worth 70 = .ok (.aload_n 0, 1) := by decide +kernel
theorem dX8_worth_71 : decode cX8_worth 71 = .ok (.getfield 42, 3) := by decide +kernel
theorem dX8_worth_74 : decode cX8_worth 74 = .ok (.iload_n 1, 1) := by decide +kernel
theorem dX8_worth_75 : decode cX8_worth 75 = .ok (.iload_n 2, 1) := by decide +kernel
theorem dX8_worth_76 : decode cX8_worth 76 = .ok (.aload_n 0, 1) := by decide +kernel
theorem dX8_worth_77 : decode cX8_worth 77 = .ok (.getfield 42, 3) := by decide +kernel
theorem dX8_worth_80 : decode cX8_worth 80 = .ok (.iload_n 1, 1) := by decide +kernel
theorem dX8_worth_81 : decode cX8_worth 81 = .ok (.invokevirtual 128, 3) := by decide +kernel
theorem dX8_worth_84 : decode cX8_worth 84 = .ok (.invokevirtual 157, 3) := by decide +kernel
theorem dX8_worth_87 : decode cX8_worth 87 = .ok (.pop, 1) := by decide +kernel
theorem dX8_worth_88 : decode cX8_worth 88 = .ok (.aload_n 0, 1) := by decide +kernel
theorem dX8_worth_89 : decode cX8_worth 89 = .ok (.getfield 42, 3) := by decide +kernel
theorem dX8_worth_92 : decode cX8_worth 92 = .ok (.iload_n 3, 1) := by decide +kernel
theorem dX8_worth_93 : decode cX8_worth 93 = .ok (.invokevirtual 121, 3) := by decide +kernel
theorem dX8_worth_96 : decode cX8_worth 96 = .ok (.aload_n 0, 1) := by decide +kernel
theorem dX8_worth_97 : decode cX8_worth 97 = .ok (.getfield 38, 3) := by decide +kernel
theorem dX8_worth_100 : decode cX8_worth 100 = .ok (.iload_n 3, 1) := by decide +kernel
theorem dX8_worth_101 : decode cX8_worth 101 = .ok (.invokevirtual 121, 3) := by decide +kernel
theorem dX8_worth_104 : decode cX8_worth 104 = .ok (.isub, 1) := by decide +kernel
theorem dX8_worth_105 : decode cX8_worth 105 = .ok (.ireturn, 1) := by decide +kernel
set_option maxRecDepth 20000 in
theorem ggX8_witness_X7_hasPerson : GoodIn wsX8_witness wsX7_hasPerson := goodIn_r _ [7, 8, 37, 38, 39, 40, 41, 42, 43, 44] (by decide +kernel) (by decide +kernel)
set_option maxRecDepth 20000 in
theorem gX8_witness_X7_hasPerson : GoodIn wsX8_witness (wsV RX8 117 RX7 yX7_hasPerson wsX7_hasPerson) := goodIn_app (goodIn_of _ (by decide +kernel)) ggX8_witness_X7_hasPerson
set_option maxRecDepth 20000 in
theorem ggX8_witness_X7_hasSecret : GoodIn wsX8_witness wsX7_hasSecret := goodIn_r _ [12, 13, 37, 38, 39, 40, 41, 42, 43, 44] (by decide +kernel) (by decide +kernel)
set_option maxRecDepth 20000 in
theorem gX8_witness_X7_hasSecret : GoodIn wsX8_witness (wsV RX8 140 RX7 yX7_hasSecret wsX7_hasSecret) := goodIn_app (goodIn_of _ (by decide +kernel)) ggX8_witness_X7_hasSecret
set_option maxRecDepth 20000 in
theorem ggX8_witness_X1_add : GoodIn wsX8_witness wsX1_add := goodIn_r _ [18, 19, 20, 21, 45, 46, 47, 48, 49] (by decide +kernel) (by decide +kernel)
set_option maxRecDepth 20000 in
theorem gX8_witness_X1_add : GoodIn wsX8_witness (wsV RX8 191 RX1 yX1_add wsX1_add) := goodIn_app (goodIn_of _ (by decide +kernel)) ggX8_witness_X1_add
set_option maxRecDepth 20000 in
theorem ggX8_witness_X1_size : GoodIn wsX8_witness wsX1_size := goodIn_r _ [25, 19, 45, 46, 47, 48, 49] (by decide +kernel) (by decide +kernel)
set_option maxRecDepth 20000 in
theorem gX8_witness_X1_size : GoodIn wsX8_witness (wsV RX8 193 RX1 yX1_size wsX1_size) := goodIn_app (goodIn_of _ (by decide +kernel)) ggX8_witness_X1_size
theorem dX8_witness_0 : decode cX8_witness 0 = .ok (.aload_n 0, 1) := by decide +kernel
theorem dX8_witness_1 : decode cX8_witness 1 = .ok (.getfield 26, 3) := by decide +kernel
theorem dX8_witness_4 : decode cX8_witness 4 = .ok (.iload_n 1, 1) := by decide +kernel
theorem dX8_witness_5 : decode cX8_witness 5 = .ok (.invokevirtual 117, 3) := by decide +kernel
theorem dX8_witness_8 : decode cX8_witness 8 = .ok (.ifCond .eq 14, 3) := by decide +kernel
theorem dX8_witness_11 : decode cX8_witness 11 = .ok (.aload_n 0, 1) := by decide +kernel
theorem dX8_witness_12 : decode cX8_witness 12 = .ok (.getfield 26, 3) := by decide +kernel
theorem dX8_witness_15 : decode cX8_witness 15 = .ok (.iload_n 2, 1) := by decide +kernel
theorem dX8_witness_16 : decode cX8_witness 16 = .ok (.invokevirtual 140, 3) := by decide +kernel
theorem dX8_witness_19 : decode cX8_witness 19 = .ok (.ifCond .ne 5, 3) := by decide +kernel
theorem dX8_witness_22 : decode cX8_witness 22 = .ok (.iconst (-1), 1) := by decide +kernel
theorem dX8_witness_23 : decode cX8_witness 23 = .ok (.ireturn, 1) := by decide +kernel
theorem dX8_witness_24 : decode cX8_witness 24 = .ok (.aload_n 0, 1) := by decide +kernel
theorem dX8_witness_25 : decode cX8_witness 25 = .ok (.getfield 67, 3) := by decide +kernel
theorem dX8_witness_28 : decode cX8_witness 28 = .ok (.iload_n 1, 1) := by decide +kernel
theorem dX8_witness_29 : decode cX8_witness 29 = .ok (.iload_n 2, 1) := by decide +kernel
theorem dX8_witness_30 : decode cX8_witness 30 = .ok (.invokevirtual 191, 3) := by decide +kernel
theorem dX8_witness_33 : decode cX8_witness 33 = .ok (.ifCond .eq 13, 3) := by decide +kernel
theorem dX8_witness_36 : decode cX8_witness 36 = .ok (.aload_n 0, 1) := by decide +kernel
theorem dX8_witness_37 : decode cX8_witness 37 = .ok (.getfield 67, 3) := by decide +kernel
theorem dX8_witness_40 : decode cX8_witness 40 = .ok (.invokevirtual 193, 3) := by decide +kernel
theorem dX8_witness_43 : decode cX8_witness 43 = .ok (.goto 5, 3) := by decide +kernel
theorem dX8_witness_46 : decode cX8_witness 46 = .ok (.bipush (-3), 2) := by decide +kernel
theorem dX8_witness_48 : decode cX8_witness 48 = .ok (.ireturn, 1) := by decide +kernel
set_option maxRecDepth 20000 in
theorem ggX8_dismiss_X1_size : GoodIn wsX8_dismiss wsX1_size := goodIn_r _ [6, 7, 23, 24, 25, 26, 27] (by decide +kernel) (by decide +kernel)
set_option maxRecDepth 20000 in
theorem gX8_dismiss_X1_size : GoodIn wsX8_dismiss (wsV RX8 193 RX1 yX1_size wsX1_size) := goodIn_app (goodIn_of _ (by decide +kernel)) ggX8_dismiss_X1_size
set_option maxRecDepth 20000 in
theorem ggX8_dismiss_X1_clear : GoodIn wsX8_dismiss wsX1_clear := goodIn_r _ [11, 7, 23, 24, 25, 26, 27] (by decide +kernel) (by decide +kernel)
set_option maxRecDepth 20000 in
theorem gX8_dismiss_X1_clear : GoodIn wsX8_dismiss (wsV RX8 112 RX1 yX1_clear wsX1_clear) := goodIn_app (goodIn_of _ (by decide +kernel)) ggX8_dismiss_X1_clear
theorem dX8_dismiss_0 : decode cX8_dismiss 0 = .ok (.aload_n 0, 1) := by decide +kernel
theorem dX8_dismiss_1 : decode cX8_dismiss 1 = .ok (.getfield 67, 3) := by decide +kernel
theorem dX8_dismiss_4 : decode cX8_dismiss 4 = .ok (.invokevirtual 193, 3) := by decide +kernel
theorem dX8_dismiss_7 : decode cX8_dismiss 7 = .ok (.istore_n 1, 1) := by decide +kernel
theorem dX8_dismiss_8 : decode cX8_dismiss 8 = .ok (.aload_n 0, 1) := by decide +kernel
theorem dX8_dismiss_9 : decode cX8_dismiss 9 = .ok (.getfield 67, 3) := by decide +kernel
theorem dX8_dismiss_12 : decode cX8_dismiss 12 = .ok (.invokevirtual 112, 3) := by decide +kernel
theorem dX8_dismiss_15 : decode cX8_dismiss 15 = .ok (.iload_n 1, 1) := by decide +kernel

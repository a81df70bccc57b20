theorem dX8_dismiss_16 : decode cX8_dismiss 16 = .ok (.ireturn, 1) := by decide +kernel
set_option maxRecDepth 20000 in
theorem ggX8_order_X1_size : GoodIn wsX8_order wsX1_size := goodIn_r _ [8, 9, 153, 154, 155, 156, 157] (by decide +kernel) (by decide +kernel)
set_option maxRecDepth 20000 in
theorem gX8_order_X1_size : GoodIn wsX8_order (wsV RX8 193 RX1 yX1_size wsX1_size) := goodIn_app (goodIn_of _ (by decide +kernel)) ggX8_order_X1_size
set_option maxRecDepth 20000 in
theorem ggX8_order_X1_findBest : GoodIn wsX8_order wsX1_findBest := goodIn_r _ [13, 14, 15, 16, 17, 18, 19, 20, 21, 22, 23, 24, 25, 26, 27, 28, 29, 30, 31, 32, 33, 7, 34, 9, 35, 36, 37, 38, 39, 40, 41, 42, 43, 44, 45, 46, 47, 48, 49, 50, 51, 52, 53, 54, 55, 56, 57, 58, 59, 60, 61, 62, 63, 64, 65, 66, 67, 68, 69, 70, 71, 72, 73, 74, 75, 76, 77, 78, 79, 80, 81, 82, 83, 84, 85, 86, 87, 88, 89, 90, 91, 92, 93, 94, 95, 96, 97, 98, 99, 100, 101, 102, 103, 104, 105, 106, 107, 108, 109, 110, 111, 112, 113, 114, 115, 116, 117, 118, 119, 120, 121, 122, 123, 124, 125, 126, 127, 128, 129, 130, 131, 132, 133, 134, 135, 136, 137, 153, 154, 155, 156, 157, 158, 159, 160, 161, 162, 163, 164, 165, 166, 167] (by decide +kernel) (by decide +kernel)
set_option maxRecDepth 20000 in
theorem gX8_order_X1_findBest : GoodIn wsX8_order (wsV RX8 194 RX1 yX1_findBest wsX1_findBest) := goodIn_app (goodIn_of _ (by decide +kernel)) ggX8_order_X1_findBest
set_option maxRecDepth 20000 in
theorem ggX8_order_X1_bestAt : GoodIn wsX8_order wsX1_bestAt := goodIn_r _ [141, 9, 16, 153, 154, 155, 156, 157] (by decide +kernel) (by decide +kernel)
set_option maxRecDepth 20000 in
theorem gX8_order_X1_bestAt : GoodIn wsX8_order (wsV RX8 198 RX1 yX1_bestAt wsX1_bestAt) := goodIn_app (goodIn_of _ (by decide +kernel)) ggX8_order_X1_bestAt
theorem dX8_order_0 : decode cX8_order 0 = .ok (.iload_n 1, 1) := by decide +kernel
theorem dX8_order_1 : decode cX8_order 1 = .ok (.iconst (-1), 1) := by decide +kernel
theorem dX8_order_2 : decode cX8_order 2 = .ok (.if_icmp .lt 14, 3) := by decide +kernel
theorem dX8_order_5 : decode cX8_order 5 = .ok (.iload_n 1, 1) := by decide +kernel
theorem dX8_order_6 : decode cX8_order 6 = .ok (.aload_n 0, 1) := by decide +kernel
theorem dX8_order_7 : decode cX8_order 7 = .ok (.getfield 67, 3) := by decide +kernel
theorem dX8_order_10 : decode cX8_order 10 = .ok (.invokevirtual 193, 3) := by decide +kernel
theorem dX8_order_13 : decode cX8_order 13 = .ok (.if_icmp .lt 5, 3) := by decide +kernel
theorem dX8_order_16 : decode cX8_order 16 = .ok (.iconst (-1), 1) := by decide +kernel
theorem dX8_order_17 : decode cX8_order 17 = .ok (.ireturn, 1) := by decide +kernel
theorem dX8_order_18 : decode cX8_order 18 = .ok (.aload_n 0, 1) := by decide +kernel
theorem dX8_order_19 : decode cX8_order 19 = .ok (.getfield 67, 3) := by decide +kernel
theorem dX8_order_22 : decode cX8_order 22 = .ok (.aload_n 0, 1) := by decide +kernel
theorem dX8_order_23 : decode cX8_order 23 = .ok (.getfield 38, 3) := by decide +kernel
theorem dX8_order_26 : decode cX8_order 26 = .ok (.aload_n 0, 1) := by decide +kernel
theorem dX8_order_27 : decode cX8_order 27 = .ok (.getfield 42, 3) := by decide +kernel
theorem dX8_order_30 : decode cX8_order 30 = .ok (.invokevirtual 194, 3) := by decide +kernel
theorem dX8_order_33 : decode cX8_order 33 = .ok (.istore_n 2, 1) := by decide +kernel
theorem dX8_order_34 : decode cX8_order 34 = .ok (.iload_n 1, 1) := by decide +kernel
theorem dX8_order_35 : decode cX8_order 35 = .ok (.iconst (-1), 1) := by decide +kernel
theorem dX8_order_36 : decode cX8_order 36 = .ok (.if_icmp .ne 7, 3) := by decide +kernel
theorem dX8_order_39 : decode cX8_order 39 = .ok (.iload_n 2, 1) := by decide +kernel
theorem dX8_order_40 : decode cX8_order 40 = .ok (.goto 11, 3) := by decide +kernel
theorem dX8_order_43 : decode cX8_order 43 = .ok (.aload_n 0, 1) := by decide +kernel
theorem dX8_order_44 : decode cX8_order 44 = .ok (.getfield 67, 3) := by decide +kernel
theorem dX8_order_47 : decode cX8_order 47 = .ok (.iload_n 1, 1) := by decide +kernel
theorem dX8_order_48 : decode cX8_order 48 = .ok (.invokevirtual 198, 3) := by decide +kernel
theorem dX8_order_51 : decode cX8_order 51 = .ok (.ireturn, 1) := by decide +kernel
set_option maxRecDepth 20000 in
theorem ggX8_confession_X8_commonDivisor : GoodIn wsX8_confession wsX8_commonDivisor := goodIn_r _ [12] (by decide +kernel) (by decide +kernel)
set_option maxRecDepth 20000 in
theorem gX8_confession_X8_commonDivisor : GoodIn wsX8_confession (va_wsS RX8 215 yX8_commonDivisor wsX8_commonDivisor) := goodIn_app (goodIn_of _ (by decide +kernel)) ggX8_confession_X8_commonDivisor
theorem dX8_confession_0 : decode cX8_confession 0 = .ok (.iload_n 1, 1) := by decide +kernel
theorem dX8_confession_1 : decode cX8_confession 1 = .ok (.ifCond .lt 51, 3) := by decide +kernel
theorem dX8_confession_4 : decode cX8_confession 4 = .ok (.iload_n 1, 1) := by decide +kernel
theorem dX8_confession_5 : decode cX8_confession 5 = .ok (.bipush 9, 2) := by decide +kernel
theorem dX8_confession_7 : decode cX8_confession 7 = .ok (.if_icmp .gt 45, 3) := by decide +kernel
theorem dX8_confession_10 : decode cX8_confession 10 = .ok (.iload_n 2, 1) := by decide +kernel
theorem dX8_confession_11 : decode cX8_confession 11 = .ok (.ifCond .lt 41, 3) := by decide +kernel
theorem dX8_confession_14 : decode cX8_confession 14 = .ok (.iload_n 2, 1) := by decide +kernel
theorem dX8_confession_15 : decode cX8_confession 15 = .ok (.iconst 2, 1) := by decide +kernel
theorem dX8_confession_16 : decode cX8_confession 16 = .ok (.if_icmp .gt 36, 3) := by decide +kernel
theorem dX8_confession_19 : decode cX8_confession 19 = .ok (.iload_n 3, 1) := by decide +kernel
theorem dX8_confession_20 : decode cX8_confession 20 = .ok (.ifCond .lt 32, 3) := by decide +kernel
theorem dX8_confession_23 : decode cX8_confession 23 = .ok (.iload_n 3, 1) := by decide +kernel
theorem dX8_confession_24 : decode cX8_confession 24 = .ok (.bipush 10, 2) := by decide +kernel
theorem dX8_confession_26 : decode cX8_confession 26 = .ok (.if_icmp .gt 26, 3) := by decide +kernel
theorem dX8_confession_29 : decode cX8_confession 29 = .ok (.iload 4, 2) := by decide +kernel
theorem dX8_confession_31 : decode cX8_confession 31 = .ok (.ifCond .lt 21, 3) := by decide +kernel
theorem dX8_confession_34 : decode cX8_confession 34 = .ok (.iload 4, 2) := by decide +kernel
theorem dX8_confession_36 : decode cX8_confession 36 = .ok (.bipush 12, 2) := by decide +kernel
theorem dX8_confession_38 : decode cX8_confession 38 = .ok (.if_icmp .gt 14, 3) := by decide +kernel
theorem dX8_confession_41 : decode cX8_confession 41 = .ok (.iload 5, 2) := by decide +kernel
theorem dX8_confession_43 : decode cX8_confession 43 = .ok (.ifCond .lt 9, 3) := by decide +kernel
theorem dX8_confession_46 : decode cX8_confession 46 = .ok (.iload 5, 2) := by decide +kernel
theorem dX8_confession_48 : decode cX8_confession 48 = .ok (.iconst 2, 1) := by decide +kernel
theorem dX8_confession_49 : decode cX8_confession 49 = .ok (.if_icmp .le 7, 3) := by decide +kernel
theorem dX8_confession_52 : decode cX8_confession 52 = .ok (.ldc2_w 201, 3) := by decide +kernel
theorem dX8_confession_55 : decode cX8_confession 55 = .ok (.lreturn, 1) := by decide +kernel
theorem dX8_confession_56 : decode cX8_confession 56 = .ok (.iload_n 1, 1) := by decide +kernel
theorem dX8_confession_57 : decode cX8_confession 57 = .ok (.iload_n 2, 1) := by decide +kernel
theorem dX8_confession_58 : decode cX8_confession 58 = .ok (.imul, 1) := by decide +kernel
theorem dX8_confession_59 : decode cX8_confession 59 = .ok (.i2l, 1) := by decide +kernel
theorem dX8_confession_60 : decode cX8_confession 60 = .ok (.lstore 6, 2) := by decide +kernel
theorem dX8_confession_62 : decode cX8_confession 62 = .ok (.lload 6, 2) := by decide +kernel
theorem dX8_confession_64 : decode cX8_confession 64 = .ok (.ldc2_w 203, 3) := by decide +kernel
theorem dX8_confession_67 : decode cX8_confession 67 = .ok (.ldiv, 1) := by decide +kernel
theorem dX8_confession_68 : decode cX8_confession 68 = .ok (.lstore 8, 2) := by decide +kernel
theorem dX8_confession_70 : decode cX8_confession 70 = .ok (.lconst 0, 1) := by decide +kernel
theorem dX8_confession_71 : decode cX8_confession 71 = .ok (.lstore 10, 2) := by decide +kernel
theorem dX8_confession_73 : decode cX8_confession 73 = .ok (.lconst 1, 1) := by decide +kernel
theorem dX8_confession_74 : decode cX8_confession 74 = .ok (.lstore 12, 2) := by decide +kernel
theorem dX8_confession_76 : decode cX8_confession 76 = .ok (.ldc2_w 205, 3) := by decide +kernel
theorem dX8_confession_79 : decode cX8_confession 79 = .ok (.lstore 14, 2) := by decide +kernel
theorem dX8_confession_81 : decode cX8_confession 81 = .ok (.iload 4, 2) := by decide +kernel
theorem dX8_confession_83 : decode cX8_confession 83 = .ok (.istore 16, 2) := by decide +kernel
theorem dX8_confession_85 : decode cX8_confession 85 = .ok (.iload 16, 2) := by decide +kernel
theorem dX8_confession_87 : decode cX8_confession 87 = .ok (.iconst 1, 1) := by decide +kernel
theorem dX8_confession_88 : decode cX8_confession 88 = .ok (.if_icmp .lt 65, 3) := by decide +kernel
theorem dX8_confession_91 : decode cX8_confession 91 = .ok (.iload_n 3, 1) := by decide +kernel
theorem dX8_confession_92 : decode cX8_confession 92 = .ok (.i2l, 1) := by decide +kernel
theorem dX8_confession_93 : decode cX8_confession 93 = .ok (.lload 6, 2) := by decide +kernel
theorem dX8_confession_95 : decode cX8_confession 95 = .ok (.lmul, 1) := by decide +kernel
theorem dX8_confession_96 : decode cX8_confession 96 = .ok (.lload 12, 2) := by decide +kernel
theorem dX8_confession_98 : decode cX8_confession 98 = .ok (.lmul, 1) := by decide +kernel
theorem dX8_confession_99 : decode cX8_confession 99 = .ok (.bipush 10, 2) := by decide +kernel
theorem dX8_confession_101 : decode cX8_confession 101 = .ok (.iload_n 3, 1) := by decide +kernel
theorem dX8_confession_102 : decode cX8_confession 102 = .ok (.isub, 1) := by decide +kernel
theorem dX8_confession_103 : decode cX8_confession 103 = .ok (.i2l, 1) := by decide +kernel
theorem dX8_confession_104 : decode cX8_confession 104 = .ok (.lload 10, 2) := by decide +kernel
theorem dX8_confession_106 : decode cX8_confession 106 = .ok (.lmul, 1) := by decide +kernel
theorem dX8_confession_107 : decode cX8_confession 107 = .ok (.ladd, 1) := by decide +kernel
theorem dX8_confession_108 : decode cX8_confession 108 = .ok (.lstore 17, 2) := by decide +kernel
theorem dX8_confession_110 : decode cX8_confession 110 = .ok (.lload 12, 2) := by decide +kernel
theorem dX8_confession_112 : decode cX8_confession 112 = .ok (.ldc2_w 207, 3) := by decide +kernel
theorem dX8_confession_115 : decode cX8_confession 115 = .ok (.lmul, 1) := by decide +kernel
theorem dX8_confession_116 : decode cX8_confession 116 = .ok (.lstore 12, 2) := by decide +kernel
theorem dX8_confession_118 : decode cX8_confession 118 = .ok (.lload 8, 2) := by decide +kernel
theorem dX8_confession_120 : decode cX8_confession 120 = .ok (.lload 12, 2) := by decide +kernel
theorem dX8_confession_122 : decode cX8_confession 122 = .ok (.lmul, 1) := by decide +kernel
theorem dX8_confession_123 : decode cX8_confession 123 = .ok (.lstore 19, 2) := by decide +kernel
theorem dX8_confession_125 : decode cX8_confession 125 = .ok (.lload 19, 2) := by decide +kernel
theorem dX8_confession_127 : decode cX8_confession 127 = .ok (.lload 17, 2) := by decide +kernel
theorem dX8_confession_129 : decode cX8_confession 129 = .ok (.lcmp, 1) := by decide +kernel
theorem dX8_confession_130 : decode cX8_confession 130 = .ok (.ifCond .gt 8, 3) := by decide +kernel
theorem dX8_confession_133 : decode cX8_confession 133 = .ok (.iload 16, 2) := by decide +kernel
theorem dX8_confession_135 : decode cX8_confession 135 = .ok (.i2l, 1) := by decide +kernel
theorem dX8_confession_136 : decode cX8_confession 136 = .ok (.lstore 14, 2) := by decide +kernel
theorem dX8_confession_138 : decode cX8_confession 138 = .ok (.lload 19, 2) := by decide +kernel
theorem dX8_confession_140 : decode cX8_confession 140 = .ok (.lload 17, 2) := by decide +kernel
theorem dX8_confession_142 : decode cX8_confession 142 = .ok (.invokestatic 209, 3) := by decide +kernel
theorem dX8_confession_145 : decode cX8_confession 145 = .ok (.lstore 10, 2) := by decide +kernel
theorem dX8_confession_147 : decode cX8_confession 147 = .ok (.iinc 16 (-1), 3) := by decide +kernel
theorem dX8_confession_150 : decode cX8_confession 150 = .ok (.goto (-65), 3) := by decide +kernel
theorem dX8_confession_153 : decode cX8_confession 153 = .ok (.iload 5, 2) := by decide +kernel
theorem dX8_confession_155 : decode cX8_confession 155 = .ok (.ifCond .ne 6, 3) := by decide +kernel
theorem dX8_confession_158 : decode cX8_confession 158 = .ok (.lload 14, 2) := by decide +kernel
theorem dX8_confession_160 : decode cX8_confession 160 = .ok (.lreturn, 1) := by decide +kernel
theorem dX8_confession_161 : decode cX8_confession 161 = .ok (.lload 10, 2) := by decide +kernel
theorem dX8_confession_163 : decode cX8_confession 163 = .ok (.lload 12, 2) := by decide +kernel
theorem dX8_confession_165 : decode cX8_confession 165 = .ok (.invokestatic 215, 3) := by decide +kernel
theorem dX8_confession_168 : decode cX8_confession 168 = .ok (.lstore 16, 2) := by decide +kernel
theorem dX8_confession_170 : decode cX8_confession 170 = .ok (.lload 16, 2) := by decide +kernel
theorem dX8_confession_172 : decode cX8_confession 172 = .ok (.lconst 0, 1) := by decide +kernel
theorem dX8_confession_173 : decode cX8_confession 173 = .ok (.lcmp, 1) := by decide +kernel
theorem dX8_confession_174 : decode cX8_confession 174 = .ok (.ifCond .ne 7, 3) := by decide +kernel
theorem dX8_confession_177 : decode cX8_confession 177 = .ok (.ldc2_w 201, 3) := by decide +kernel
theorem dX8_confession_180 : decode cX8_confession 180 = .ok (.lreturn, 1) := by decide +kernel
theorem dX8_confession_181 : decode cX8_confession 181 = .ok (.iload 5, 2) := by decide +kernel
theorem dX8_confession_183 : decode cX8_confession 183 = .ok (.iconst 1, 1) := by decide +kernel
theorem dX8_confession_184 : decode cX8_confession 184 = .ok (.if_icmp .ne 11, 3) := by decide +kernel
theorem dX8_confession_187 : decode cX8_confession 187 = .ok (.lload 10, 2) := by decide +kernel
theorem dX8_confession_189 : decode cX8_confession 189 = .ok (.lload 16, 2) := by decide +kernel
theorem dX8_confession_191 : decode cX8_confession 191 = .ok (.ldiv, 1) := by decide +kernel
theorem dX8_confession_192 : decode cX8_confession 192 = .ok (.goto 8, 3) := by decide +kernel
theorem dX8_confession_195 : decode cX8_confession 195 = .ok (.lload 12, 2) := by decide +kernel
theorem dX8_confession_197 : decode cX8_confession 197 = .ok (.lload 16, 2) := by decide +kernel
theorem dX8_confession_199 : decode cX8_confession 199 = .ok (.ldiv, 1) := by decide +kernel
theorem dX8_confession_200 : decode cX8_confession 200 = .ok (.lreturn, 1) := by decide +kernel
set_option maxRecDepth 20000 in
theorem ggX8_seen_X7_hasPerson : GoodIn wsX8_seen wsX7_hasPerson := goodIn_r _ [7, 8, 33, 34, 35, 36, 37, 38, 39, 40] (by decide +kernel) (by decide +kernel)
set_option maxRecDepth 20000 in
theorem gX8_seen_X7_hasPerson : GoodIn wsX8_seen (wsV RX8 117 RX7 yX7_hasPerson wsX7_hasPerson) := goodIn_app (goodIn_of _ (by decide +kernel)) ggX8_seen_X7_hasPerson
set_option maxRecDepth 20000 in
theorem ggX8_seen_X5_add : GoodIn wsX8_seen wsX5_add := goodIn_r _ [13, 14, 15, 16, 17, 41, 42, 43, 44] (by decide +kernel) (by decide +kernel)
set_option maxRecDepth 20000 in
theorem gX8_seen_X5_add : GoodIn wsX8_seen (wsV RX8 218 RX5 yX5_add wsX5_add) := goodIn_app (goodIn_of _ (by decide +kernel)) ggX8_seen_X5_add
set_option maxRecDepth 20000 in
theorem ggX8_seen_X5_size : GoodIn wsX8_seen wsX5_size := goodIn_r _ [21, 14, 41, 42, 43, 44] (by decide +kernel) (by decide +kernel)
set_option maxRecDepth 20000 in
theorem gX8_seen_X5_size : GoodIn wsX8_seen (wsV RX8 221 RX5 yX5_size wsX5_size) := goodIn_app (goodIn_of _ (by decide +kernel)) ggX8_seen_X5_size
theorem dX8_seen_0 : decode cX8_seen 0 = .ok (.aload_n 0, 1) := by decide +kernel
theorem dX8_seen_1 : decode cX8_seen 1 = .ok (.getfield 26, 3) := by decide +kernel
theorem dX8_seen_4 : decode cX8_seen 4 = .ok (.iload_n 1, 1) := by decide +kernel
theorem dX8_seen_5 : decode cX8_seen 5 = .ok (.invokevirtual 117, 3) := by decide +kernel
theorem dX8_seen_8 : decode cX8_seen 8 = .ok (.ifCond .eq 23, 3) := by decide +kernel
theorem dX8_seen_11 : decode cX8_seen 11 = .ok (.iload_n 2, 1) := by decide +kernel
theorem dX8_seen_12 : decode cX8_seen 12 = .ok (.ifCond .lt 19, 3) := by decide +kernel
theorem dX8_seen_15 : decode cX8_seen 15 = .ok (.iload_n 2, 1) := by decide +kernel
theorem dX8_seen_16 : decode cX8_seen 16 = .ok (.bipush 9, 2) := by decide +kernel
theorem dX8_seen_18 : decode cX8_seen 18 = .ok (.if_icmp .gt 13, 3) := by decide +kernel
theorem dX8_seen_21 : decode cX8_seen 21 = .ok (.iload_n 3, 1) := by decide +kernel
theorem dX8_seen_22 : decode cX8_seen 22 = .ok (.ifCond .lt 9, 3) := by decide +kernel
theorem dX8_seen_25 : decode cX8_seen 25 = .ok (.iload_n 3, 1) := by decide +kernel
theorem dX8_seen_26 : decode cX8_seen 26 = .ok (.bipush 20, 2) := by decide +kernel
theorem dX8_seen_28 : decode cX8_seen 28 = .ok (.if_icmp .le 5, 3) := by decide +kernel
theorem dX8_seen_31 : decode cX8_seen 31 = .ok (.iconst (-1), 1) := by decide +kernel
theorem dX8_seen_32 : decode cX8_seen 32 = .ok (.ireturn, 1) := by decide +kernel
theorem dX8_seen_33 : decode cX8_seen 33 = .ok (.aload_n 0, 1) := by decide +kernel
theorem dX8_seen_34 : decode cX8_seen 34 = .ok (.getfield 74, 3) := by decide +kernel
theorem dX8_seen_37 : decode cX8_seen 37 = .ok (.iload_n 1, 1) := by decide +kernel
theorem dX8_seen_38 : decode cX8_seen 38 = .ok (.iload_n 2, 1) := by decide +kernel
theorem dX8_seen_39 : decode cX8_seen 39 = .ok (.iload_n 3, 1) := by decide +kernel
theorem dX8_seen_40 : decode cX8_seen 40 = .ok (.invokevirtual 218, 3) := by decide +kernel
theorem dX8_seen_43 : decode cX8_seen 43 = .ok (.ifCond .eq 13, 3) := by decide +kernel
theorem dX8_seen_46 : decode cX8_seen 46 = .ok (.aload_n 0, 1) := by decide +kernel
theorem dX8_seen_47 : decode cX8_seen 47 = .ok (.getfield 74, 3) := by decide +kernel
theorem dX8_seen_50 : decode cX8_seen 50 = .ok (.invokevirtual 221, 3) := by decide +kernel
theorem dX8_seen_53 : decode cX8_seen 53 = .ok (.goto 5, 3) := by decide +kernel
theorem dX8_seen_56 : decode cX8_seen 56 = .ok (.bipush (-3), 2) := by decide +kernel
theorem dX8_seen_58 : decode cX8_seen 58 = .ok (.ireturn, 1) := by decide +kernel
set_option maxRecDepth 20000 in
theorem ggX8_forget_X5_size : GoodIn wsX8_forget wsX5_size := goodIn_r _ [6, 7, 23, 24, 25, 26] (by decide +kernel) (by decide +kernel)
set_option maxRecDepth 20000 in
theorem gX8_forget_X5_size : GoodIn wsX8_forget (wsV RX8 221 RX5 yX5_size wsX5_size) := goodIn_app (goodIn_of _ (by decide +kernel)) ggX8_forget_X5_size
set_option maxRecDepth 20000 in
theorem ggX8_forget_X5_clear : GoodIn wsX8_forget wsX5_clear := goodIn_r _ [11, 7, 23, 24, 25, 26] (by decide +kernel) (by decide +kernel)
set_option maxRecDepth 20000 in
theorem gX8_forget_X5_clear : GoodIn wsX8_forget (wsV RX8 113 RX5 yX5_clear wsX5_clear) := goodIn_app (goodIn_of _ (by decide +kernel)) ggX8_forget_X5_clear
theorem dX8_forget_0 : decode cX8_forget 0 = .ok (.aload_n 0, 1) := by decide +kernel
theorem dX8_forget_1 : decode cX8_forget 1 = .ok (.getfield 74, 3) := by decide +kernel
theorem dX8_forget_4 : decode cX8_forget 4 = .ok (.invokevirtual 221, 3) := by decide +kernel
theorem dX8_forget_7 : decode cX8_forget 7 = .ok (.istore_n 1, 1) := by decide +kernel
theorem dX8_forget_8 : decode cX8_forget 8 = .ok (.aload_n 0, 1) := by decide +kernel
theorem dX8_forget_9 : decode cX8_forget 9 = .ok (.getfield 74, 3) := by decide +kernel
theorem dX8_forget_12 : decode cX8_forget 12 = .ok (.invokevirtual 113, 3) := by decide +kernel
theorem dX8_forget_15 : decode cX8_forget 15 = .ok (.iload_n 1, 1) := by decide +kernel
theorem dX8_forget_16 : decode cX8_forget 16 = .ok (.ireturn, 1) := by decide +kernel
set_option maxRecDepth 20000 in
theorem ggX8_kinds_X7_hasPerson : GoodIn wsX8_kinds wsX7_hasPerson := goodIn_r _ [7, 8, 39, 40, 41, 42, 43, 44, 45, 46] (by decide +kernel) (by decide +kernel)
set_option maxRecDepth 20000 in
theorem gX8_kinds_X7_hasPerson : GoodIn wsX8_kinds (wsV RX8 117 RX7 yX7_hasPerson wsX7_hasPerson) := goodIn_app (goodIn_of _ (by decide +kernel)) ggX8_kinds_X7_hasPerson
set_option maxRecDepth 20000 in
theorem ggX8_kinds_X5_possibleKinds : GoodIn wsX8_kinds wsX5_possibleKinds := goodIn_r _ [13, 14, 15, 16, 12, 17, 18, 19, 20, 21, 22, 23, 24, 25, 26, 27, 47, 48, 49, 50] (by decide +kernel) (by decide +kernel)
set_option maxRecDepth 20000 in
theorem gX8_kinds_X5_possibleKinds : GoodIn wsX8_kinds (wsV RX8 222 RX5 yX5_possibleKinds wsX5_possibleKinds) := goodIn_app (goodIn_of _ (by decide +kernel)) ggX8_kinds_X5_possibleKinds
theorem dX8_kinds_0 : decode cX8_kinds 0 = .ok (.aload_n 0, 1) := by decide +kernel
theorem dX8_kinds_1 : decode cX8_kinds 1 = .ok (.getfield 26, 3) := by decide +kernel
theorem dX8_kinds_4 : decode cX8_kinds 4 = .ok (.iload_n 1, 1) := by decide +kernel
theorem dX8_kinds_5 : decode cX8_kinds 5 = .ok (.invokevirtual 117, 3) := by decide +kernel
theorem dX8_kinds_8 : decode cX8_kinds 8 = .ok (.ifCond .eq 14, 3) := by decide +kernel
theorem dX8_kinds_11 : decode cX8_kinds 11 = .ok (.aload_n 0, 1) := by decide +kernel
theorem dX8_kinds_12 : decode cX8_kinds 12 = .ok (.getfield 74, 3) := by decide +kernel
theorem dX8_kinds_15 : decode cX8_kinds 15 = .ok (.iload_n 1, 1) := by decide +kernel
theorem dX8_kinds_16 : decode cX8_kinds 16 = .ok (.invokevirtual 222, 3) := by decide +kernel
theorem dX8_kinds_19 : decode cX8_kinds 19 = .ok (.goto 4, 3) := by decide +kernel
theorem dX8_kinds_22 : decode cX8_kinds 22 = .ok (.iconst (-1), 1) := by decide +kernel
theorem dX8_kinds_23 : decode cX8_kinds 23 = .ok (.ireturn, 1) := by decide +kernel
set_option maxRecDepth 20000 in
theorem ggX8_out_X7_hasPerson : GoodIn wsX8_out wsX7_hasPerson := goodIn_r _ [7, 8, 91, 92, 93, 94, 95, 96, 97, 98] (by decide +kernel) (by decide +kernel)
set_option maxRecDepth 20000 in
theorem gX8_out_X7_hasPerson : GoodIn wsX8_out (wsV RX8 117 RX7 yX7_hasPerson wsX7_hasPerson) := goodIn_app (goodIn_of _ (by decide +kernel)) ggX8_out_X7_hasPerson
set_option maxRecDepth 20000 in
theorem ggX8_out_X6_isAlive : GoodIn wsX8_out wsX6_isAlive := goodIn_r _ [13, 14, 15, 16, 4, 5, 6, 7, 8, 17, 18, 19, 20, 21, 99, 100, 91, 92, 93, 94, 95, 96, 97, 98] (by decide +kernel) (by decide +kernel)
set_option maxRecDepth 20000 in
theorem gX8_out_X6_isAlive : GoodIn wsX8_out (wsV RX8 137 RX6 yX6_isAlive wsX6_isAlive) := goodIn_app (goodIn_of _ (by decide +kernel)) ggX8_out_X6_isAlive
set_option maxRecDepth 20000 in
theorem ggX8_out_X7_secretsOf : GoodIn wsX8_out wsX7_secretsOf := goodIn_r _ [25, 26, 27, 91, 92, 93, 94, 95, 96, 97, 98] (by decide +kernel) (by decide +kernel)
set_option maxRecDepth 20000 in
theorem gX8_out_X7_secretsOf : GoodIn wsX8_out (wsV RX8 134 RX7 yX7_secretsOf wsX7_secretsOf) := goodIn_app (goodIn_of _ (by decide +kernel)) ggX8_out_X7_secretsOf
set_option maxRecDepth 20000 in
theorem ggX8_out_X8_shadesOfAll : GoodIn wsX8_out wsX8_shadesOfAll := goodIn_r _ [32, 1, 2, 33, 34, 31, 35, 36, 37, 38, 6, 39, 27, 40, 41, 42, 43, 26, 44, 45, 46, 47, 48, 49, 4, 5, 7, 8, 50, 51, 52, 12, 53, 54, 10, 11, 13, 14, 15, 16, 17, 18, 19, 20, 21, 55, 56, 57, 58, 59, 60, 61, 62, 63, 64, 65, 66, 67, 68, 69, 70, 71, 72, 73, 74, 75, 76, 77, 78, 79, 80, 81, 82, 83, 84, 85, 86, 87, 88, 89, 90, 91, 92, 93, 94, 95, 96, 97, 98, 99, 100] (by decide +kernel) (by decide +kernel)
set_option maxRecDepth 20000 in
theorem gX8_out_X8_shadesOfAll : GoodIn wsX8_out (wsV RX8 225 RX8 yX8_shadesOfAll wsX8_shadesOfAll) := goodIn_app (goodIn_of _ (by decide +kernel)) ggX8_out_X8_shadesOfAll
theorem dX8_out_0 : decode cX8_out 0 = .ok (.aload_n 0, 1) := by decide +kernel
theorem dX8_out_1 : decode cX8_out 1 = .ok (.getfield 26, 3) := by decide +kernel
theorem dX8_out_4 : decode cX8_out 4 = .ok (.iload_n 1, 1) := by decide +kernel
theorem dX8_out_5 : decode cX8_out 5 = .ok (.invokevirtual 117, 3) := by decide +kernel
theorem dX8_out_8 : decode cX8_out 8 = .ok (.ifCond .eq 22, 3) := by decide +kernel
theorem dX8_out_11 : decode cX8_out 11 = .ok (.iload_n 2, 1) := by decide +kernel
theorem dX8_out_12 : decode cX8_out 12 = .ok (.ifCond .lt 18, 3) := by decide +kernel
theorem dX8_out_15 : decode cX8_out 15 = .ok (.iload_n 2, 1) := by decide +kernel
theorem dX8_out_16 : decode cX8_out 16 = .ok (.bipush 99, 2) := by decide +kernel
theorem dX8_out_18 : decode cX8_out 18 = .ok (.if_icmp .gt 12, 3) := by decide +kernel
theorem dX8_out_21 : decode cX8_out 21 = .ok (.iload_n 3, 1) := by decide +kernel
theorem dX8_out_22 : decode cX8_out 22 = .ok (.ifCond .lt 8, 3) := by decide +kernel
theorem dX8_out_25 : decode cX8_out 25 = .ok (.iload_n 3, 1) := by decide +kernel
theorem dX8_out_26 : decode cX8_out 26 = .ok (.iconst 1, 1) := by decide +kernel
theorem dX8_out_27 : decode cX8_out 27 = .ok (.if_icmp .le 5, 3) := by decide +kernel
theorem dX8_out_30 : decode cX8_out 30 = .ok (.iconst (-1), 1) := by decide +kernel
theorem dX8_out_31 : decode cX8_out 31 = .ok (.ireturn, 1) := by decide +kernel
theorem dX8_out_32 : decode cX8_out 32 = .ok (.aload_n 0, 1) := by decide +kernel
theorem dX8_out_33 : decode cX8_out 33 = .ok (.getfield 38, 3) := by decide +kernel
theorem dX8_out_36 : decode cX8_out 36 = .ok (.iload_n 1, 1) := by decide +kernel
theorem dX8_out_37 : decode cX8_out 37 = .ok (.invokevirtual 137, 3) := by decide +kernel
theorem dX8_out_40 : decode cX8_out 40 = .ok (.ifCond .ne 6, 3) := by decide +kernel
theorem dX8_out_43 : decode cX8_out 43 = .ok (.bipush (-2), 2) := by decide +kernel
theorem dX8_out_45 : decode cX8_out 45 = .ok (.ireturn, 1) := by decide +kernel
theorem dX8_out_46 : decode cX8_out 46 = .ok (.aload_n 0, 1) := by decide +kernel
theorem dX8_out_47 : decode cX8_out 47 = .ok (.getfield 26, 3) := by decide +kernel
theorem dX8_out_50 : decode cX8_out 50 = .ok (.iload_n 1, 1) := by decide +kernel
theorem dX8_out_51 : decode cX8_out 51 = .ok (.invokevirtual 134, 3) := by decide +kernel
theorem dX8_out_54 : decode cX8_out 54 = .ok (.istore 4, 2) := by decide +kernel
theorem dX8_out_56 : decode cX8_out 56 = .ok (.iconst 0, 1) := by decide +kernel
theorem dX8_out_57 : decode cX8_out 57 = .ok (.istore 5, 2) := by decide +kernel
theorem dX8_out_59 : decode cX8_out 59 = .ok (.iconst 0, 1) := by decide +kernel
theorem dX8_out_60 : decode cX8_out 60 = .ok (.istore 6, 2) := by decide +kernel
theorem dX8_out_62 : decode cX8_out 62 = .ok (.iload 6, 2) := by decide +kernel
theorem dX8_out_64 : decode cX8_out 64 = .ok (.sipush 256, 3) := by decide +kernel
theorem dX8_out_67 : decode cX8_out 67 = .ok (.if_icmp .ge 40, 3) := by decide +kernel
theorem dX8_out_70 : decode cX8_out 70 = .ok (.iload 6, 2) := by decide +kernel
theorem dX8_out_72 : decode cX8_out 72 = .ok (.iload 4, 2) := by decide +kernel
theorem dX8_out_74 : decode cX8_out 74 = .ok (.iconst (-1), 1) := by decide +kernel
theorem dX8_out_75 : decode cX8_out 75 = .ok (.ixor, 1) := by decide +kernel
theorem dX8_out_76 : decode cX8_out 76 = .ok (.iand, 1) := by decide +kernel
theorem dX8_out_77 : decode cX8_out 77 = .ok (.ifCond .ne 24, 3) := by decide +kernel
theorem dX8_out_80 : decode cX8_out 80 = .ok (.aload_n 0, 1) := by decide +kernel
theorem dX8_out_81 : decode cX8_out 81 = .ok (.iload 6, 2) := by decide +kernel
theorem dX8_out_83 : decode cX8_out 83 = .ok (.invokevirtual 225, 3) := by decide +kernel
theorem dX8_out_86 : decode cX8_out 86 = .ok (.iload_n 2, 1) := by decide +kernel
theorem dX8_out_87 : decode cX8_out 87 = .ok (.if_icmp .ne 14, 3) := by decide +kernel
theorem dX8_out_90 : decode cX8_out 90 = .ok (.iload_n 3, 1) := by decide +kernel
theorem dX8_out_91 : decode cX8_out 91 = .ok (.iconst 1, 1) := by decide +kernel
theorem dX8_out_92 : decode cX8_out 92 = .ok (.if_icmp .ne 6, 3) := by decide +kernel
theorem dX8_out_95 : decode cX8_out 95 = .ok (.iload 6, 2) := by decide +kernel
theorem dX8_out_97 : decode cX8_out 97 = .ok (.ireturn, 1) := by decide +kernel
theorem dX8_out_98 : decode cX8_out 98 = .ok (.iinc 5 1, 3) := by decide +kernel
theorem dX8_out_101 : decode cX8_out 101 = .ok (.iinc 6 1, 3) := by decide +kernel
theorem dX8_out_104 : decode cX8_out 104 = .ok (.goto (-42), 3) := by decide +kernel
theorem dX8_out_107 : decode cX8_out 107 = .ok (.iload_n 3, 1) := by decide +kernel
theorem dX8_out_108 : decode cX8_out 108 = .ok (.iconst 1, 1) := by decide +kernel
theorem dX8_out_109 : decode cX8_out 109 = .ok (.if_icmp .ne 8, 3) := by decide +kernel
theorem dX8_out_112 : decode cX8_out 112 = .ok (.bipush (-4), 2) := by decide +kernel
theorem dX8_out_114 : decode cX8_out 114 = .ok (.goto 5, 3) := by decide +kernel
theorem dX8_out_117 : decode cX8_out 117 = .ok (.iload 5, 2) := by decide +kernel
theorem dX8_out_119 : decode cX8_out 119 = .ok (.ireturn, 1) := by decide +kernel
set_option maxRecDepth 20000 in
theorem ggX8_year_X6_copy : GoodIn wsX8_year wsX6_copy := goodIn_r _ [8, 9, 10, 11, 12, 7, 13, 133, 134] (by decide +kernel) (by decide +kernel)
set_option maxRecDepth 20000 in
theorem gX8_year_X6_copy : GoodIn wsX8_year (wsV RX8 169 RX6 yX6_copy wsX6_copy) := goodIn_app (goodIn_of _ (by decide +kernel)) ggX8_year_X6_copy
set_option maxRecDepth 20000 in
theorem ggX8_year_X8_stepOfYear : GoodIn wsX8_year wsX8_stepOfYear := goodIn_r _ [18, 3, 19, 20, 21, 22, 1, 23, 24, 25, 26, 27, 28, 29, 30, 31, 32, 33, 34, 35, 36, 7, 37, 38, 9, 39, 40, 41, 42, 43, 44, 45, 46, 47, 48, 49, 50, 51, 52, 53, 54, 55, 56, 57, 58, 59, 60, 17, 61, 62, 63, 64, 65, 66, 67, 68, 69, 70, 71, 72, 73, 74, 75, 76, 77, 78, 79, 80, 81, 82, 83, 84, 85, 86, 87, 88, 89, 90, 91, 92, 93, 94, 95, 96, 97, 98, 99, 100, 101, 102, 103, 104, 105, 106, 107, 108, 109, 110, 111, 122, 123, 124, 125, 126, 127, 128, 129, 130, 131, 132, 135, 136, 137, 138, 139, 140, 141, 142, 133, 134] (by decide +kernel) (by decide +kernel)
set_option maxRecDepth 20000 in
theorem gX8_year_X8_stepOfYear : GoodIn wsX8_year (wsV RX8 228 RX8 yX8_stepOfYear wsX8_stepOfYear) := goodIn_app (goodIn_of _ (by decide +kernel)) ggX8_year_X8_stepOfYear
set_option maxRecDepth 20000 in
theorem ggX8_year_X7_people : GoodIn wsX8_year wsX7_people := goodIn_r _ [27, 28, 135, 136, 137, 138, 139, 140, 141, 142] (by decide +kernel) (by decide +kernel)
set_option maxRecDepth 20000 in
theorem gX8_year_X7_people : GoodIn wsX8_year (wsV RX8 114 RX7 yX7_people wsX7_people) := goodIn_app (goodIn_of _ (by decide +kernel)) ggX8_year_X7_people
set_option maxRecDepth 20000 in
theorem ggX8_year_X6_living : GoodIn wsX8_year wsX6_living := goodIn_r _ [76, 66, 35, 36, 7, 37, 38, 9, 39, 40, 41, 26, 42, 28, 43, 44, 45, 46, 47, 133, 134, 135, 136, 137, 138, 139, 140, 141, 142] (by decide +kernel) (by decide +kernel)
set_option maxRecDepth 20000 in
theorem gX8_year_X6_living : GoodIn wsX8_year (wsV RX8 172 RX6 yX6_living wsX6_living) := goodIn_app (goodIn_of _ (by decide +kernel)) ggX8_year_X6_living
set_option maxRecDepth 20000 in
theorem ggX8_year_J6_bitCount_0f7a4 : GoodIn wsX8_year wsJ6_bitCount_0f7a4 := goodIn_r _ [90, 91, 92, 93] (by decide +kernel) (by decide +kernel)
set_option maxRecDepth 20000 in
theorem gX8_year_J6_bitCount_0f7a4 : GoodIn wsX8_year (va_wsS RX8 232 yJ6_bitCount_0f7a4 wsJ6_bitCount_0f7a4) := goodIn_app (goodIn_of _ (by decide +kernel)) ggX8_year_J6_bitCount_0f7a4
set_option maxRecDepth 20000 in
theorem ggX8_year_X6_agesTogether : GoodIn wsX8_year wsX6_agesTogether := goodIn_r _ [117, 118, 119, 120, 7, 121, 38, 9, 39, 40, 41, 26, 42, 28, 133, 134, 135, 136, 137, 138, 139, 140, 141, 142] (by decide +kernel) (by decide +kernel)
set_option maxRecDepth 20000 in
theorem gX8_year_X6_agesTogether : GoodIn wsX8_year (wsV RX8 237 RX6 yX6_agesTogether wsX6_agesTogether) := goodIn_app (goodIn_of _ (by decide +kernel)) ggX8_year_X6_agesTogether
theorem dX8_year_0 : decode cX8_year 0 = .ok (.iload_n 1, 1) := by decide +kernel
theorem dX8_year_1 : decode cX8_year 1 = .ok (.ifCond .lt 30, 3) := by decide +kernel
theorem dX8_year_4 : decode cX8_year 4 = .ok (.iload_n 1, 1) := by decide +kernel
theorem dX8_year_5 : decode cX8_year 5 = .ok (.sipush 9999, 3) := by decide +kernel
theorem dX8_year_8 : decode cX8_year 8 = .ok (.if_icmp .gt 23, 3) := by decide +kernel
theorem dX8_year_11 : decode cX8_year 11 = .ok (.iload_n 2, 1) := by decide +kernel
theorem dX8_year_12 : decode cX8_year 12 = .ok (.iconst 1, 1) := by decide +kernel
theorem dX8_year_13 : decode cX8_year 13 = .ok (.if_icmp .lt 18, 3) := by decide +kernel
theorem dX8_year_16 : decode cX8_year 16 = .ok (.iload_n 2, 1) := by decide +kernel
theorem dX8_year_17 : decode cX8_year 17 = .ok (.bipush 60, 2) := by decide +kernel
theorem dX8_year_19 : decode cX8_year 19 = .ok (.if_icmp .gt 12, 3) := by decide +kernel
theorem dX8_year_22 : decode cX8_year 22 = .ok (.iload_n 3, 1) := by decide +kernel
theorem dX8_year_23 : decode cX8_year 23 = .ok (.ifCond .lt 8, 3) := by decide +kernel
theorem dX8_year_26 : decode cX8_year 26 = .ok (.iload_n 3, 1) := by decide +kernel
theorem dX8_year_27 : decode cX8_year 27 = .ok (.iconst 1, 1) := by decide +kernel
theorem dX8_year_28 : decode cX8_year 28 = .ok (.if_icmp .le 5, 3) := by decide +kernel
theorem dX8_year_31 : decode cX8_year 31 = .ok (.iconst (-1), 1) := by decide +kernel
theorem dX8_year_32 : decode cX8_year 32 = .ok (.ireturn, 1) := by decide +kernel
theorem dX8_year_33 : decode cX8_year 33 = .ok (.aload_n 0, 1) := by decide +kernel
theorem dX8_year_34 : decode cX8_year 34 = .ok (.getfield 42, 3) := by decide +kernel
theorem dX8_year_37 : decode cX8_year 37 = .ok (.aload_n 0, 1) := by decide +kernel
theorem dX8_year_38 : decode cX8_year 38 = .ok (.getfield 38, 3) := by decide +kernel
theorem dX8_year_41 : decode cX8_year 41 = .ok (.invokevirtual 169, 3) := by decide +kernel
theorem dX8_year_44 : decode cX8_year 44 = .ok (.iconst 0, 1) := by decide +kernel
theorem dX8_year_45 : decode cX8_year 45 = .ok (.istore 4, 2) := by decide +kernel
theorem dX8_year_47 : decode cX8_year 47 = .ok (.iload 4, 2) := by decide +kernel
theorem dX8_year_49 : decode cX8_year 49 = .ok (.iload_n 2, 1) := by decide +kernel
theorem dX8_year_50 : decode cX8_year 50 = .ok (.if_icmp .ge 16, 3) := by decide +kernel
theorem dX8_year_53 : decode cX8_year 53 = .ok (.aload_n 0, 1) := by decide +kernel
theorem dX8_year_54 : decode cX8_year 54 = .ok (.iload_n 1, 1) := by decide +kernel
theorem dX8_year_55 : decode cX8_year 55 = .ok (.iload 4, 2) := by decide +kernel
theorem dX8_year_57 : decode cX8_year 57 = .ok (.invokevirtual 228, 3) := by decide +kernel
theorem dX8_year_60 : decode cX8_year 60 = .ok (.iinc 4 1, 3) := by decide +kernel
theorem dX8_year_63 : decode cX8_year 63 = .ok (.goto (-16), 3) := by decide +kernel
theorem dX8_year_66 : decode cX8_year 66 = .ok (.iload_n 3, 1) := by decide +kernel
theorem dX8_year_67 : decode cX8_year 67 = .ok (.ifCond .ne 24, 3) := by decide +kernel
theorem dX8_year_70 : decode cX8_year 70 = .ok (.aload_n 0, 1) := by decide +kernel
theorem dX8_year_71 : decode cX8_year 71 = .ok (.getfield 26, 3) := by decide +kernel
theorem dX8_year_74 : decode cX8_year 74 = .ok (.invokevirtual 114, 3) := by decide +kernel
theorem dX8_year_77 : decode cX8_year 77 = .ok (.aload_n 0, 1) := by decide +kernel
theorem dX8_year_78 : decode cX8_year 78 = .ok (.getfield 42, 3) := by decide +kernel
theorem dX8_year_81 : decode cX8_year 81 = .ok (.invokevirtual 172, 3) := by decide +kernel
theorem dX8_year_84 : decode cX8_year 84 = .ok (.invokestatic 232, 3) := by decide +kernel
theorem dX8_year_87 : decode cX8_year 87 = .ok (.isub, 1) := by decide +kernel
theorem dX8_year_88 : decode cX8_year 88 = .ok (.goto 10, 3) := by decide +kernel
theorem dX8_year_91 : decode cX8_year 91 = .ok (.aload_n 0, 1) := by decide +kernel
theorem dX8_year_92 : decode cX8_year 92 = .ok (.getfield 42, 3) := by decide +kernel
theorem dX8_year_95 : decode cX8_year 95 = .ok (.invokevirtual 237, 3) := by decide +kernel
theorem dX8_year_98 : decode cX8_year 98 = .ok (.ireturn, 1) := by decide +kernel
set_option maxRecDepth 20000 in
theorem ggX8_keep_X4_push : GoodIn wsX8_keep wsX4_push := goodIn_r _ [7, 8, 9, 10, 11, 12, 13, 14, 15, 31, 32, 33, 34] (by decide +kernel) (by decide +kernel)
set_option maxRecDepth 20000 in
theorem gX8_keep_X4_push : GoodIn wsX8_keep (wsV RX8 240 RX4 yX4_push wsX4_push) := goodIn_app (goodIn_of _ (by decide +kernel)) ggX8_keep_X4_push
set_option maxRecDepth 20000 in
theorem ggX8_keep_X4_size : GoodIn wsX8_keep wsX4_size := goodIn_r _ [19, 8, 31, 32] (by decide +kernel) (by decide +kernel)
set_option maxRecDepth 20000 in
theorem gX8_keep_X4_size : GoodIn wsX8_keep (wsV RX8 168 RX4 yX4_size wsX4_size) := goodIn_app (goodIn_of _ (by decide +kernel)) ggX8_keep_X4_size
theorem dX8_keep_0 : decode cX8_keep 0 = .ok (.aload_n 0, 1) := by decide +kernel
theorem dX8_keep_1 : decode cX8_keep 1 = .ok (.getfield 54, 3) := by decide +kernel
theorem dX8_keep_4 : decode cX8_keep 4 = .ok (.aload_n 0, 1) := by decide +kernel
theorem dX8_keep_5 : decode cX8_keep 5 = .ok (.getfield 38, 3) := by decide +kernel
theorem dX8_keep_8 : decode cX8_keep 8 = .ok (.invokevirtual 240, 3) := by decide +kernel
theorem dX8_keep_11 : decode cX8_keep 11 = .ok (.ifCond .eq 13, 3) := by decide +kernel
theorem dX8_keep_14 : decode cX8_keep 14 = .ok (.aload_n 0, 1) := by decide +kernel
theorem dX8_keep_15 : decode cX8_keep 15 = .ok (.getfield 54, 3) := by decide +kernel
theorem dX8_keep_18 : decode cX8_keep 18 = .ok (.invokevirtual 168, 3) := by decide +kernel
theorem dX8_keep_21 : decode cX8_keep 21 = .ok (.goto 5, 3) := by decide +kernel
theorem dX8_keep_24 : decode cX8_keep 24 = .ok (.bipush (-3), 2) := by decide +kernel
theorem dX8_keep_26 : decode cX8_keep 26 = .ok (.ireturn, 1) := by decide +kernel
set_option maxRecDepth 20000 in
theorem ggX8_back_X4_pop : GoodIn wsX8_back wsX4_pop := goodIn_r _ [8, 9, 10, 11, 12, 13, 14, 15, 16, 36, 37, 38, 39] (by decide +kernel) (by decide +kernel)
set_option maxRecDepth 20000 in
theorem gX8_back_X4_pop : GoodIn wsX8_back (wsV RX8 164 RX4 yX4_pop wsX4_pop) := goodIn_app (goodIn_of _ (by decide +kernel)) ggX8_back_X4_pop
set_option maxRecDepth 20000 in
theorem ggX8_back_X4_clear : GoodIn wsX8_back wsX4_clear := goodIn_r _ [20, 9, 36, 37] (by decide +kernel) (by decide +kernel)
set_option maxRecDepth 20000 in
theorem gX8_back_X4_clear : GoodIn wsX8_back (wsV RX8 111 RX4 yX4_clear wsX4_clear) := goodIn_app (goodIn_of _ (by decide +kernel)) ggX8_back_X4_clear
set_option maxRecDepth 20000 in
theorem ggX8_back_X4_size : GoodIn wsX8_back wsX4_size := goodIn_r _ [24, 9, 36, 37] (by decide +kernel) (by decide +kernel)
set_option maxRecDepth 20000 in
theorem gX8_back_X4_size : GoodIn wsX8_back (wsV RX8 168 RX4 yX4_size wsX4_size) := goodIn_app (goodIn_of _ (by decide +kernel)) ggX8_back_X4_size
theorem dX8_back_0 : decode cX8_back 0 = .ok (.aload_n 0, 1) := by decide +kernel
theorem dX8_back_1 : decode cX8_back 1 = .ok (.getfield 54, 3) := by decide +kernel
theorem dX8_back_4 : decode cX8_back 4 = .ok (.aload_n 0, 1) := by decide +kernel
theorem dX8_back_5 : decode cX8_back 5 = .ok (.getfield 38, 3) := by decide +kernel
theorem dX8_back_8 : decode cX8_back 8 = .ok (.invokevirtual 164, 3) := by decide +kernel
theorem dX8_back_11 : decode cX8_back 11 = .ok (.ifCond .ne 6, 3) := by decide +kernel
theorem dX8_back_14 : decode cX8_back 14 = .ok (.bipush (-2), 2) := by decide +kernel
theorem dX8_back_16 : decode cX8_back 16 = .ok (.ireturn, 1) := by decide +kernel
theorem dX8_back_17 : decode cX8_back 17 = .ok (.aload_n 0, 1) := by decide +kernel
theorem dX8_back_18 : decode cX8_back 18 = .ok (.getfield 50, 3) := by decide +kernel
theorem dX8_back_21 : decode cX8_back 21 = .ok (.invokevirtual 111, 3) := by decide +kernel
theorem dX8_back_24 : decode cX8_back 24 = .ok (.aload_n 0, 1) := by decide +kernel
theorem dX8_back_25 : decode cX8_back 25 = .ok (.getfield 54, 3) := by decide +kernel
theorem dX8_back_28 : decode cX8_back 28 = .ok (.invokevirtual 168, 3) := by decide +kernel
theorem dX8_back_31 : decode cX8_back 31 = .ok (.ireturn, 1) := by decide +kernel
set_option maxRecDepth 20000 in
theorem ggX8_count_X7_people : GoodIn wsX8_count wsX7_people := goodIn_r _ [12, 13, 86, 87, 88, 89, 90, 91, 92, 93] (by decide +kernel) (by decide +kernel)
set_option maxRecDepth 20000 in
theorem gX8_count_X7_people : GoodIn wsX8_count (wsV RX8 114 RX7 yX7_people wsX7_people) := goodIn_app (goodIn_of _ (by decide +kernel)) ggX8_count_X7_people
set_option maxRecDepth 20000 in
theorem ggX8_count_X6_living : GoodIn wsX8_count wsX6_living := goodIn_r _ [18, 19, 20, 21, 17, 22, 23, 24, 25, 26, 27, 11, 28, 13, 29, 30, 31, 32, 33, 94, 95, 86, 87, 88, 89, 90, 91, 92, 93] (by decide +kernel) (by decide +kernel)
set_option maxRecDepth 20000 in
theorem gX8_count_X6_living : GoodIn wsX8_count (wsV RX8 172 RX6 yX6_living wsX6_living) := goodIn_app (goodIn_of _ (by decide +kernel)) ggX8_count_X6_living
set_option maxRecDepth 20000 in
theorem ggX8_count_J6_bitCount_0f7a4 : GoodIn wsX8_count wsJ6_bitCount_0f7a4 := goodIn_r _ [37, 38, 39, 40] (by decide +kernel) (by decide +kernel)
set_option maxRecDepth 20000 in
theorem gX8_count_J6_bitCount_0f7a4 : GoodIn wsX8_count (va_wsS RX8 232 yJ6_bitCount_0f7a4 wsJ6_bitCount_0f7a4) := goodIn_app (goodIn_of _ (by decide +kernel)) ggX8_count_J6_bitCount_0f7a4
set_option maxRecDepth 20000 in
theorem ggX8_count_X7_secrets : GoodIn wsX8_count wsX7_secrets := goodIn_r _ [44, 45, 86, 87, 88, 89, 90, 91, 92, 93] (by decide +kernel) (by decide +kernel)
set_option maxRecDepth 20000 in
theorem gX8_count_X7_secrets : GoodIn wsX8_count (wsV RX8 182 RX7 yX7_secrets wsX7_secrets) := goodIn_app (goodIn_of _ (by decide +kernel)) ggX8_count_X7_secrets
set_option maxRecDepth 20000 in
theorem ggX8_count_X7_deathAge : GoodIn wsX8_count wsX7_deathAge := goodIn_r _ [32, 33, 86, 87, 88, 89, 90, 91, 92, 93] (by decide +kernel) (by decide +kernel)
set_option maxRecDepth 20000 in
theorem gX8_count_X7_deathAge : GoodIn wsX8_count (wsV RX8 243 RX7 yX7_deathAge wsX7_deathAge) := goodIn_app (goodIn_of _ (by decide +kernel)) ggX8_count_X7_deathAge
set_option maxRecDepth 20000 in
theorem ggX8_count_X6_days : GoodIn wsX8_count wsX6_days := goodIn_r _ [50, 24, 94, 95] (by decide +kernel) (by decide +kernel)
set_option maxRecDepth 20000 in
theorem gX8_count_X6_days : GoodIn wsX8_count (wsV RX8 246 RX6 yX6_days wsX6_days) := goodIn_app (goodIn_of _ (by decide +kernel)) ggX8_count_X6_days
set_option maxRecDepth 20000 in
theorem ggX8_count_X1_size : GoodIn wsX8_count wsX1_size := goodIn_r _ [55, 56, 96, 97, 98, 99, 100] (by decide +kernel) (by decide +kernel)
set_option maxRecDepth 20000 in
theorem gX8_count_X1_size : GoodIn wsX8_count (wsV RX8 193 RX1 yX1_size wsX1_size) := goodIn_app (goodIn_of _ (by decide +kernel)) ggX8_count_X1_size
set_option maxRecDepth 20000 in
theorem ggX8_count_X5_size : GoodIn wsX8_count wsX5_size := goodIn_r _ [61, 62, 101, 102, 103, 104] (by decide +kernel) (by decide +kernel)
set_option maxRecDepth 20000 in
theorem gX8_count_X5_size : GoodIn wsX8_count (wsV RX8 221 RX5 yX5_size wsX5_size) := goodIn_app (goodIn_of _ (by decide +kernel)) ggX8_count_X5_size
set_option maxRecDepth 20000 in
theorem ggX8_count_X4_size : GoodIn wsX8_count wsX4_size := goodIn_r _ [67, 68, 105, 106] (by decide +kernel) (by decide +kernel)
set_option maxRecDepth 20000 in
theorem gX8_count_X4_size : GoodIn wsX8_count (wsV RX8 168 RX4 yX4_size wsX4_size) := goodIn_app (goodIn_of _ (by decide +kernel)) ggX8_count_X4_size
set_option maxRecDepth 20000 in
theorem ggX8_count_X3_size : GoodIn wsX8_count wsX3_size := goodIn_r _ [73, 74, 107, 108] (by decide +kernel) (by decide +kernel)
set_option maxRecDepth 20000 in
theorem gX8_count_X3_size : GoodIn wsX8_count (wsV RX8 104 RX3 yX3_size wsX3_size) := goodIn_app (goodIn_of _ (by decide +kernel)) ggX8_count_X3_size
theorem dX8_count_0 : decode cX8_count 0 = .ok (.iload_n 1, 1) := by decide +kernel
theorem dX8_count_1 : decode cX8_count 1 = .ok (.tableswitch 138 0 9 #[55, 63, 74, 82, 90, 98, 106, 114, 122, 130], 55) := by decide +kernel
theorem dX8_count_56 : decode cX8_count 56 = .ok (.aload_n 0, 1) := by decide +kernel
theorem dX8_count_57 : decode cX8_count 57 = .ok (.getfield 26, 3) := by decide +kernel
theorem dX8_count_60 : decode cX8_count 60 = .ok (.invokevirtual 114, 3) := by decide +kernel
theorem dX8_count_63 : decode cX8_count 63 = .ok (.ireturn, 1) := by decide +kernel
theorem dX8_count_64 : decode cX8_count 64 = .ok (.aload_n 0, 1) := by decide +kernel
theorem dX8_count_65 : decode cX8_count 65 = .ok (.getfield 38, 3) := by decide +kernel
theorem dX8_count_68 : decode cX8_count 68 = .ok (.invokevirtual 172, 3) := by decide +kernel
theorem dX8_count_71 : decode cX8_count 71 = .ok (.invokestatic 232, 3) := by decide +kernel
theorem dX8_count_74 : decode cX8_count 74 = .ok (.ireturn, 1) := by decide +kernel
theorem dX8_count_75 : decode cX8_count 75 = .ok (.aload_n 0, 1) := by decide +kernel
theorem dX8_count_76 : decode cX8_count 76 = .ok (.getfield 26, 3) := by decide +kernel
theorem dX8_count_79 : decode cX8_count 79 = .ok (.invokevirtual 182, 3) := by decide +kernel
theorem dX8_count_82 : decode cX8_count 82 = .ok (.ireturn, 1) := by decide +kernel
theorem dX8_count_83 : decode cX8_count 83 = .ok (.aload_n 0, 1) := by decide +kernel
theorem dX8_count_84 : decode cX8_count 84 = .ok (.getfield 26, 3) := by decide +kernel
theorem dX8_count_87 : decode cX8_count 87 = .ok (.invokevirtual 243, 3) := by decide +kernel
theorem dX8_count_90 : decode cX8_count 90 = .ok (.ireturn, 1) := by decide +kernel
theorem dX8_count_91 : decode cX8_count 91 = .ok (.aload_n 0, 1) := by decide +kernel
theorem dX8_count_92 : decode cX8_count 92 = .ok (.getfield 38, 3) := by decide +kernel
theorem dX8_count_95 : decode cX8_count 95 = .ok (.invokevirtual 246, 3) := by decide +kernel
theorem dX8_count_98 : decode cX8_count 98 = .ok (.ireturn, 1) := by decide +kernel
theorem dX8_count_99 : decode cX8_count 99 = .ok (.aload_n 0, 1) := by decide +kernel
theorem dX8_count_100 : decode cX8_count 100 = .ok (.getfield 67, 3) := by decide +kernel
theorem dX8_count_103 : decode cX8_count 103 = .ok (.invokevirtual 193, 3) := by decide +kernel
theorem dX8_count_106 : decode cX8_count 106 = .ok (.ireturn, 1) := by decide +kernel
theorem dX8_count_107 : decode cX8_count 107 = .ok (.aload_n 0, 1) := by decide +kernel
theorem dX8_count_108 : decode cX8_count 108 = .ok (.getfield 74, 3) := by decide +kernel
theorem dX8_count_111 : decode cX8_count 111 = .ok (.invokevirtual 221, 3) := by decide +kernel
theorem dX8_count_114 : decode cX8_count 114 = .ok (.ireturn, 1) := by decide +kernel
theorem dX8_count_115 : decode cX8_count 115 = .ok (.aload_n 0, 1) := by decide +kernel
theorem dX8_count_116 : decode cX8_count 116 = .ok (.getfield 50, 3) := by decide +kernel
theorem dX8_count_119 : decode cX8_count 119 = .ok (.invokevirtual 168, 3) := by decide +kernel
theorem dX8_count_122 : decode cX8_count 122 = .ok (.ireturn, 1) := by decide +kernel
theorem dX8_count_123 : decode cX8_count 123 = .ok (.aload_n 0, 1) := by decide +kernel
theorem dX8_count_124 : decode cX8_count 124 = .ok (.getfield 54, 3) := by decide +kernel
theorem dX8_count_127 : decode cX8_count 127 = .ok (.invokevirtual 168, 3) := by decide +kernel
theorem dX8_count_130 : decode cX8_count 130 = .ok (.ireturn, 1) := by decide +kernel
theorem dX8_count_131 : decode cX8_count 131 = .ok (.aload_n 0, 1) := by decide +kernel
theorem dX8_count_132 : decode cX8_count 132 = .ok (.getfield 10, 3) := by decide +kernel
theorem dX8_count_135 : decode cX8_count 135 = .ok (.invokevirtual 104, 3) := by decide +kernel
theorem dX8_count_138 : decode cX8_count 138 = .ok (.ireturn, 1) := by decide +kernel
theorem dX8_count_139 : decode cX8_count 139 = .ok (.iconst (-1), 1) := by decide +kernel
theorem dX8_count_140 : decode cX8_count 140 = .ok (.ireturn, 1) := by decide +kernel
theorem dX8_has_0 : decode cX8_has 0 = .ok (.iload_n 0, 1) := by decide +kernel
theorem dX8_has_1 : decode cX8_has 1 = .ok (.iload_n 1, 1) := by decide +kernel
theorem dX8_has_2 : decode cX8_has 2 = .ok (.ishr, 1) := by decide +kernel
theorem dX8_has_3 : decode cX8_has 3 = .ok (.iconst 1, 1) := by decide +kernel
theorem dX8_has_4 : decode cX8_has 4 = .ok (.iand, 1) := by decide +kernel
theorem dX8_has_5 : decode cX8_has 5 = .ok (.ifCond .eq 7, 3) := by decide +kernel
theorem dX8_has_8 : decode cX8_has 8 = .ok (.iconst 1, 1) := by decide +kernel
theorem dX8_has_9 : decode cX8_has 9 = .ok (.goto 4, 3) := by decide +kernel
theorem dX8_has_12 : decode cX8_has 12 = .ok (.iconst 0, 1) := by decide +kernel
theorem dX8_has_13 : decode cX8_has 13 = .ok (.ireturn, 1) := by decide +kernel
set_option maxRecDepth 20000 in
theorem ggX8_lowestOf_X8_has : GoodIn wsX8_lowestOf wsX8_has := goodIn_r _ [4] (by decide +kernel) (by decide +kernel)
set_option maxRecDepth 20000 in
theorem gX8_lowestOf_X8_has : GoodIn wsX8_lowestOf (va_wsS RX8 185 yX8_has wsX8_has) := goodIn_app (goodIn_of _ (by decide +kernel)) ggX8_lowestOf_X8_has
theorem dX8_lowestOf_0 : decode cX8_lowestOf 0 = .ok (.iconst 0, 1) := by decide +kernel
theorem dX8_lowestOf_1 : decode cX8_lowestOf 1 = .ok (.istore_n 1, 1) := by decide +kernel
theorem dX8_lowestOf_2 : decode cX8_lowestOf 2 = .ok (.iload_n 1, 1) := by decide +kernel
theorem dX8_lowestOf_3 : decode cX8_lowestOf 3 = .ok (.bipush 6, 2) := by decide +kernel
theorem dX8_lowestOf_5 : decode cX8_lowestOf 5 = .ok (.if_icmp .ge 19, 3) := by decide +kernel
theorem dX8_lowestOf_8 : decode cX8_lowestOf 8 = .ok (.iload_n 0, 1) := by decide +kernel
theorem dX8_lowestOf_9 : decode cX8_lowestOf 9 = .ok (.iload_n 1, 1) := by decide +kernel
theorem dX8_lowestOf_10 : decode cX8_lowestOf 10 = .ok (.invokestatic 185, 3) := by decide +kernel
theorem dX8_lowestOf_13 : decode cX8_lowestOf 13 = .ok (.ifCond .eq 5, 3) := by decide +kernel
theorem dX8_lowestOf_16 : decode cX8_lowestOf 16 = .ok (.iload_n 1, 1) := by decide +kernel
theorem dX8_lowestOf_17 : decode cX8_lowestOf 17 = .ok (.ireturn, 1) := by decide +kernel
theorem dX8_lowestOf_18 : decode cX8_lowestOf 18 = .ok (.iinc 1 1, 3) := by decide +kernel
theorem dX8_lowestOf_21 : decode cX8_lowestOf 21 = .ok (.goto (-19), 3) := by decide +kernel
theorem dX8_lowestOf_24 : decode cX8_lowestOf 24 = .ok (.bipush (-4), 2) := by decide +kernel
theorem dX8_lowestOf_26 : decode cX8_lowestOf 26 = .ok (.ireturn, 1) := by decide +kernel
theorem dX8_care_0 : decode cX8_care 0 = .ok (.iload_n 0, 1) := by decide +kernel
theorem dX8_care_1 : decode cX8_care 1 = .ok (.tableswitch 42 1 3 #[27, 29, 31], 27) := by decide +kernel
theorem dX8_care_28 : decode cX8_care 28 = .ok (.iconst 2, 1) := by decide +kernel
theorem dX8_care_29 : decode cX8_care 29 = .ok (.ireturn, 1) := by decide +kernel
theorem dX8_care_30 : decode cX8_care 30 = .ok (.iconst 0, 1) := by decide +kernel
theorem dX8_care_31 : decode cX8_care 31 = .ok (.ireturn, 1) := by decide +kernel
theorem dX8_care_32 : decode cX8_care 32 = .ok (.iload_n 1, 1) := by decide +kernel
theorem dX8_care_33 : decode cX8_care 33 = .ok (.iconst 2, 1) := by decide +kernel
theorem dX8_care_34 : decode cX8_care 34 = .ok (.if_icmp .lt 7, 3) := by decide +kernel
theorem dX8_care_37 : decode cX8_care 37 = .ok (.iconst 1, 1) := by decide +kernel
theorem dX8_care_38 : decode cX8_care 38 = .ok (.goto 4, 3) := by decide +kernel
theorem dX8_care_41 : decode cX8_care 41 = .ok (.iconst 0, 1) := by decide +kernel
theorem dX8_care_42 : decode cX8_care 42 = .ok (.ireturn, 1) := by decide +kernel
theorem dX8_care_43 : decode cX8_care 43 = .ok (.iconst 1, 1) := by decide +kernel
theorem dX8_care_44 : decode cX8_care 44 = .ok (.ireturn, 1) := by decide +kernel
set_option maxRecDepth 20000 in
theorem ggX8_careForMany_X8_care : GoodIn wsX8_careForMany wsX8_care := goodIn_r _ [4] (by decide +kernel) (by decide +kernel)
set_option maxRecDepth 20000 in
theorem gX8_careForMany_X8_care : GoodIn wsX8_careForMany (va_wsS RX8 249 yX8_care wsX8_care) := goodIn_app (goodIn_of _ (by decide +kernel)) ggX8_careForMany_X8_care
theorem dX8_careForMany_0 : decode cX8_careForMany 0 = .ok (.iconst 0, 1) := by decide +kernel
theorem dX8_careForMany_1 : decode cX8_careForMany 1 = .ok (.istore_n 3, 1) := by decide +kernel
theorem dX8_careForMany_2 : decode cX8_careForMany 2 = .ok (.iconst 0, 1) := by decide +kernel
theorem dX8_careForMany_3 : decode cX8_careForMany 3 = .ok (.istore 4, 2) := by decide +kernel
theorem dX8_careForMany_5 : decode cX8_careForMany 5 = .ok (.iload 4, 2) := by decide +kernel
theorem dX8_careForMany_7 : decode cX8_careForMany 7 = .ok (.iload_n 2, 1) := by decide +kernel
theorem dX8_careForMany_8 : decode cX8_careForMany 8 = .ok (.if_icmp .ge 20, 3) := by decide +kernel
theorem dX8_careForMany_11 : decode cX8_careForMany 11 = .ok (.iload_n 3, 1) := by decide +kernel
theorem dX8_careForMany_12 : decode cX8_careForMany 12 = .ok (.iload_n 0, 1) := by decide +kernel
theorem dX8_careForMany_13 : decode cX8_careForMany 13 = .ok (.iload_n 1, 1) := by decide +kernel
theorem dX8_careForMany_14 : decode cX8_careForMany 14 = .ok (.iload 4, 2) := by decide +kernel
theorem dX8_careForMany_16 : decode cX8_careForMany 16 = .ok (.iadd, 1) := by decide +kernel
theorem dX8_careForMany_17 : decode cX8_careForMany 17 = .ok (.invokestatic 249, 3) := by decide +kernel
theorem dX8_careForMany_20 : decode cX8_careForMany 20 = .ok (.iadd, 1) := by decide +kernel
theorem dX8_careForMany_21 : decode cX8_careForMany 21 = .ok (.istore_n 3, 1) := by decide +kernel
theorem dX8_careForMany_22 : decode cX8_careForMany 22 = .ok (.iinc 4 1, 3) := by decide +kernel
theorem dX8_careForMany_25 : decode cX8_careForMany 25 = .ok (.goto (-20), 3) := by decide +kernel
theorem dX8_careForMany_28 : decode cX8_careForMany 28 = .ok (.iload_n 3, 1) := by decide +kernel
theorem dX8_careForMany_29 : decode cX8_careForMany 29 = .ok (.ireturn, 1) := by decide +kernel
theorem dX8_commonDivisor_0 : decode cX8_commonDivisor 0 = .ok (.iconst 0, 1) := by decide +kernel
theorem dX8_commonDivisor_1 : decode cX8_commonDivisor 1 = .ok (.istore 4, 2) := by decide +kernel
theorem dX8_commonDivisor_3 : decode cX8_commonDivisor 3 = .ok (.iload 4, 2) := by decide +kernel
theorem dX8_commonDivisor_5 : decode cX8_commonDivisor 5 = .ok (.sipush 200, 3) := by decide +kernel
theorem dX8_commonDivisor_8 : decode cX8_commonDivisor 8 = .ok (.if_icmp .ge 25, 3) := by decide +kernel
theorem dX8_commonDivisor_11 : decode cX8_commonDivisor 11 = .ok (.lload_n 2, 1) := by decide +kernel
theorem dX8_commonDivisor_12 : decode cX8_commonDivisor 12 = .ok (.lconst 0, 1) := by decide +kernel
theorem dX8_commonDivisor_13 : decode cX8_commonDivisor 13 = .ok (.lcmp, 1) := by decide +kernel
theorem dX8_commonDivisor_14 : decode cX8_commonDivisor 14 = .ok (.ifCond .eq 19, 3) := by decide +kernel
theorem dX8_commonDivisor_17 : decode cX8_commonDivisor 17 = .ok (.lload_n 0, 1) := by decide +kernel
theorem dX8_commonDivisor_18 : decode cX8_commonDivisor 18 = .ok (.lload_n 2, 1) := by decide +kernel
theorem dX8_commonDivisor_19 : decode cX8_commonDivisor 19 = .ok (.lrem, 1) := by decide +kernel
theorem dX8_commonDivisor_20 : decode cX8_commonDivisor 20 = .ok (.lstore 5, 2) := by decide +kernel
theorem dX8_commonDivisor_22 : decode cX8_commonDivisor 22 = .ok (.lload_n 2, 1) := by decide +kernel
theorem dX8_commonDivisor_23 : decode cX8_commonDivisor 23 = .ok (.lstore_n 0, 1) := by decide +kernel
theorem dX8_commonDivisor_24 : decode cX8_commonDivisor 24 = .ok (.lload 5, 2) := by decide +kernel
theorem dX8_commonDivisor_26 : decode cX8_commonDivisor 26 = .ok (.lstore_n 2, 1) := by decide +kernel
theorem dX8_commonDivisor_27 : decode cX8_commonDivisor 27 = .ok (.iinc 4 1, 3) := by decide +kernel
theorem dX8_commonDivisor_30 : decode cX8_commonDivisor 30 = .ok (.goto (-27), 3) := by decide +kernel
theorem dX8_commonDivisor_33 : decode cX8_commonDivisor 33 = .ok (.lload_n 0, 1) := by decide +kernel
theorem dX8_commonDivisor_34 : decode cX8_commonDivisor 34 = .ok (.lreturn, 1) := by decide +kernel
set_option maxRecDepth 20000 in
theorem ggX8_fewestCut_X8_meetingsAcross : GoodIn wsX8_fewestCut wsX8_meetingsAcross := goodIn_r _ [10, 11, 12, 13, 9, 14, 15, 16, 17, 18, 19, 20, 21, 22, 23, 24, 25, 26, 27, 28, 29, 30, 31, 32, 33, 34, 35, 36, 37, 38, 39, 40, 41, 42, 43, 44, 45, 46, 47, 48, 49, 50, 51, 52, 53, 54, 55, 56, 57, 58, 59, 60, 61, 62, 63, 64, 65, 66, 67, 68, 69, 70, 71, 72, 73, 74] (by decide +kernel) (by decide +kernel)
set_option maxRecDepth 20000 in
theorem gX8_fewestCut_X8_meetingsAcross : GoodIn wsX8_fewestCut (wsV RX8 254 RX8 yX8_meetingsAcross wsX8_meetingsAcross) := goodIn_app (goodIn_of _ (by decide +kernel)) ggX8_fewestCut_X8_meetingsAcross
theorem dX8_fewestCut_0 : decode cX8_fewestCut 0 = .ok (.ldc 253, 2) := by decide +kernel
theorem dX8_fewestCut_2 : decode cX8_fewestCut 2 = .ok (.istore 4, 2) := by decide +kernel
theorem dX8_fewestCut_4 : decode cX8_fewestCut 4 = .ok (.iconst 0, 1) := by decide +kernel
theorem dX8_fewestCut_5 : decode cX8_fewestCut 5 = .ok (.istore 5, 2) := by decide +kernel
theorem dX8_fewestCut_7 : decode cX8_fewestCut 7 = .ok (.iload 5, 2) := by decide +kernel
theorem dX8_fewestCut_9 : decode cX8_fewestCut 9 = .ok (.bipush 64, 2) := by decide +kernel
theorem dX8_fewestCut_11 : decode cX8_fewestCut 11 = .ok (.if_icmp .ge 53, 3) := by decide +kernel
theorem dX8_fewestCut_14 : decode cX8_fewestCut 14 = .ok (.iload 5, 2) := by decide +kernel
theorem dX8_fewestCut_16 : decode cX8_fewestCut 16 = .ok (.iload_n 1, 1) := by decide +kernel
theorem dX8_fewestCut_17 : decode cX8_fewestCut 17 = .ok (.iconst (-1), 1) := by decide +kernel
theorem dX8_fewestCut_18 : decode cX8_fewestCut 18 = .ok (.ixor, 1) := by decide +kernel
theorem dX8_fewestCut_19 : decode cX8_fewestCut 19 = .ok (.iand, 1) := by decide +kernel
theorem dX8_fewestCut_20 : decode cX8_fewestCut 20 = .ok (.ifCond .ne 38, 3) := by decide +kernel
theorem dX8_fewestCut_23 : decode cX8_fewestCut 23 = .ok (.iload 5, 2) := by decide +kernel
theorem dX8_fewestCut_25 : decode cX8_fewestCut 25 = .ok (.iload_n 3, 1) := by decide +kernel
theorem dX8_fewestCut_26 : decode cX8_fewestCut 26 = .ok (.iand, 1) := by decide +kernel
theorem dX8_fewestCut_27 : decode cX8_fewestCut 27 = .ok (.ifCond .ne 31, 3) := by decide +kernel
theorem dX8_fewestCut_30 : decode cX8_fewestCut 30 = .ok (.iload_n 2, 1) := by decide +kernel
theorem dX8_fewestCut_31 : decode cX8_fewestCut 31 = .ok (.iload 5, 2) := by decide +kernel
theorem dX8_fewestCut_33 : decode cX8_fewestCut 33 = .ok (.iconst (-1), 1) := by decide +kernel
theorem dX8_fewestCut_34 : decode cX8_fewestCut 34 = .ok (.ixor, 1) := by decide +kernel
theorem dX8_fewestCut_35 : decode cX8_fewestCut 35 = .ok (.iand, 1) := by decide +kernel
theorem dX8_fewestCut_36 : decode cX8_fewestCut 36 = .ok (.ifCond .ne 22, 3) := by decide +kernel
theorem dX8_fewestCut_39 : decode cX8_fewestCut 39 = .ok (.iload 4, 2) := by decide +kernel
theorem dX8_fewestCut_41 : decode cX8_fewestCut 41 = .ok (.aload_n 0, 1) := by decide +kernel
theorem dX8_fewestCut_42 : decode cX8_fewestCut 42 = .ok (.iload 5, 2) := by decide +kernel
theorem dX8_fewestCut_44 : decode cX8_fewestCut 44 = .ok (.iload_n 1, 1) := by decide +kernel
theorem dX8_fewestCut_45 : decode cX8_fewestCut 45 = .ok (.iload 5, 2) := by decide +kernel
theorem dX8_fewestCut_47 : decode cX8_fewestCut 47 = .ok (.iconst (-1), 1) := by decide +kernel
theorem dX8_fewestCut_48 : decode cX8_fewestCut 48 = .ok (.ixor, 1) := by decide +kernel
theorem dX8_fewestCut_49 : decode cX8_fewestCut 49 = .ok (.iand, 1) := by decide +kernel
theorem dX8_fewestCut_50 : decode cX8_fewestCut 50 = .ok (.invokevirtual 254, 3) := by decide +kernel
theorem dX8_fewestCut_53 : decode cX8_fewestCut 53 = .ok (.invokestatic 257, 3) := by decide +kernel
theorem dX8_fewestCut_56 : decode cX8_fewestCut 56 = .ok (.istore 4, 2) := by decide +kernel
theorem dX8_fewestCut_58 : decode cX8_fewestCut 58 = .ok (.iinc 5 1, 3) := by decide +kernel
theorem dX8_fewestCut_61 : decode cX8_fewestCut 61 = .ok (.goto (-54), 3) := by decide +kernel
theorem dX8_fewestCut_64 : decode cX8_fewestCut 64 = .ok (.iload 4, 2) := by decide +kernel
theorem dX8_fewestCut_66 : decode cX8_fewestCut 66 = .ok (.ireturn, 1) := by decide +kernel
set_option maxRecDepth 20000 in
theorem ggX8_meetingsAcross_X8_has : GoodIn wsX8_meetingsAcross wsX8_has := goodIn_r _ [5] (by decide +kernel) (by decide +kernel)
set_option maxRecDepth 20000 in
theorem gX8_meetingsAcross_X8_has : GoodIn wsX8_meetingsAcross (va_wsS RX8 185 yX8_has wsX8_has) := goodIn_app (goodIn_of _ (by decide +kernel)) ggX8_meetingsAcross_X8_has
set_option maxRecDepth 20000 in
theorem ggX8_meetingsAcross_X6_meetsOf : GoodIn wsX8_meetingsAcross wsX6_meetsOf := goodIn_r _ [10, 11, 12, 13, 14, 9, 15, 16, 17, 18, 19, 20, 21, 22, 23, 24, 25, 26, 27, 28, 29, 30, 31, 32, 33, 34, 35, 36, 37, 56, 57, 58, 59, 60, 61, 62, 63, 64, 65] (by decide +kernel) (by decide +kernel)
set_option maxRecDepth 20000 in
theorem gX8_meetingsAcross_X6_meetsOf : GoodIn wsX8_meetingsAcross (wsV RX8 128 RX6 yX6_meetsOf wsX6_meetsOf) := goodIn_app (goodIn_of _ (by decide +kernel)) ggX8_meetingsAcross_X6_meetsOf
set_option maxRecDepth 20000 in
theorem ggX8_meetingsAcross_J6_bitCount_0f7a4 : GoodIn wsX8_meetingsAcross wsJ6_bitCount_0f7a4 := goodIn_r _ [41, 42, 43, 44] (by decide +kernel) (by decide +kernel)
set_option maxRecDepth 20000 in
theorem gX8_meetingsAcross_J6_bitCount_0f7a4 : GoodIn wsX8_meetingsAcross (va_wsS RX8 232 yJ6_bitCount_0f7a4 wsJ6_bitCount_0f7a4) := goodIn_app (goodIn_of _ (by decide +kernel)) ggX8_meetingsAcross_J6_bitCount_0f7a4
theorem dX8_meetingsAcross_0 : decode cX8_meetingsAcross 0 = .ok (.iconst 0, 1) := by decide +kernel
theorem dX8_meetingsAcross_1 : decode cX8_meetingsAcross 1 = .ok (.istore_n 3, 1) := by decide +kernel
theorem dX8_meetingsAcross_2 : decode cX8_meetingsAcross 2 = .ok (.iconst 0, 1) := by decide +kernel
theorem dX8_meetingsAcross_3 : decode cX8_meetingsAcross 3 = .ok (.istore 4, 2) := by decide +kernel
theorem dX8_meetingsAcross_5 : decode cX8_meetingsAcross 5 = .ok (.iload 4, 2) := by decide +kernel
theorem dX8_meetingsAcross_7 : decode cX8_meetingsAcross 7 = .ok (.bipush 6, 2) := by decide +kernel
theorem dX8_meetingsAcross_9 : decode cX8_meetingsAcross 9 = .ok (.if_icmp .ge 35, 3) := by decide +kernel
theorem dX8_meetingsAcross_12 : decode cX8_meetingsAcross 12 = .ok (.iload_n 1, 1) := by decide +kernel
theorem dX8_meetingsAcross_13 : decode cX8_meetingsAcross 13 = .ok (.iload 4, 2) := by decide +kernel
theorem dX8_meetingsAcross_15 : decode cX8_meetingsAcross 15 = .ok (.invokestatic 185, 3) := by decide +kernel
theorem dX8_meetingsAcross_18 : decode cX8_meetingsAcross 18 = .ok (.ifCond .eq 20, 3) := by decide +kernel
theorem dX8_meetingsAcross_21 : decode cX8_meetingsAcross 21 = .ok (.iload_n 3, 1) := by decide +kernel
theorem dX8_meetingsAcross_22 : decode cX8_meetingsAcross 22 = .ok (.aload_n 0, 1) := by decide +kernel
theorem dX8_meetingsAcross_23 : decode cX8_meetingsAcross 23 = .ok (.getfield 38, 3) := by decide +kernel
theorem dX8_meetingsAcross_26 : decode cX8_meetingsAcross 26 = .ok (.iload 4, 2) := by decide +kernel
theorem dX8_meetingsAcross_28 : decode cX8_meetingsAcross 28 = .ok (.invokevirtual 128, 3) := by decide +kernel
theorem dX8_meetingsAcross_31 : decode cX8_meetingsAcross 31 = .ok (.iload_n 2, 1) := by decide +kernel
theorem dX8_meetingsAcross_32 : decode cX8_meetingsAcross 32 = .ok (.iand, 1) := by decide +kernel
theorem dX8_meetingsAcross_33 : decode cX8_meetingsAcross 33 = .ok (.invokestatic 232, 3) := by decide +kernel
theorem dX8_meetingsAcross_36 : decode cX8_meetingsAcross 36 = .ok (.iadd, 1) := by decide +kernel
theorem dX8_meetingsAcross_37 : decode cX8_meetingsAcross 37 = .ok (.istore_n 3, 1) := by decide +kernel
theorem dX8_meetingsAcross_38 : decode cX8_meetingsAcross 38 = .ok (.iinc 4 1, 3) := by decide +kernel
theorem dX8_meetingsAcross_41 : decode cX8_meetingsAcross 41 = .ok (.goto (-36), 3) := by decide +kernel
theorem dX8_meetingsAcross_44 : decode cX8_meetingsAcross 44 = .ok (.iload_n 3, 1) := by decide +kernel
theorem dX8_meetingsAcross_45 : decode cX8_meetingsAcross 45 = .ok (.ireturn, 1) := by decide +kernel
set_option maxRecDepth 20000 in
theorem ggX8_shadesOfAll_X8_has : GoodIn wsX8_shadesOfAll wsX8_has := goodIn_r _ [6] (by decide +kernel) (by decide +kernel)
set_option maxRecDepth 20000 in
theorem gX8_shadesOfAll_X8_has : GoodIn wsX8_shadesOfAll (va_wsS RX8 185 yX8_has wsX8_has) := goodIn_app (goodIn_of _ (by decide +kernel)) ggX8_shadesOfAll_X8_has
set_option maxRecDepth 20000 in
theorem ggX8_shadesOfAll_X7_ownerOf : GoodIn wsX8_shadesOfAll wsX7_ownerOf := goodIn_r _ [11, 12, 13, 14, 15, 10, 16, 17, 81, 82, 83, 84, 85, 86, 87, 88] (by decide +kernel) (by decide +kernel)
set_option maxRecDepth 20000 in
theorem gX8_shadesOfAll_X7_ownerOf : GoodIn wsX8_shadesOfAll (wsV RX8 143 RX7 yX7_ownerOf wsX7_ownerOf) := goodIn_app (goodIn_of _ (by decide +kernel)) ggX8_shadesOfAll_X7_ownerOf
set_option maxRecDepth 20000 in
theorem ggX8_shadesOfAll_X7_kindOf : GoodIn wsX8_shadesOfAll wsX7_kindOf := goodIn_r _ [21, 22, 23, 24, 25, 10, 26, 27, 81, 82, 83, 84, 85, 86, 87, 88] (by decide +kernel) (by decide +kernel)
set_option maxRecDepth 20000 in
theorem gX8_shadesOfAll_X7_kindOf : GoodIn wsX8_shadesOfAll (wsV RX8 125 RX7 yX7_kindOf wsX7_kindOf) := goodIn_app (goodIn_of _ (by decide +kernel)) ggX8_shadesOfAll_X7_kindOf
set_option maxRecDepth 20000 in
theorem ggX8_shadesOfAll_X6_living : GoodIn wsX8_shadesOfAll wsX6_living := goodIn_r _ [32, 33, 34, 35, 31, 36, 37, 38, 39, 24, 25, 10, 26, 27, 40, 41, 42, 43, 44, 89, 90, 81, 82, 83, 84, 85, 86, 87, 88] (by decide +kernel) (by decide +kernel)
set_option maxRecDepth 20000 in
theorem gX8_shadesOfAll_X6_living : GoodIn wsX8_shadesOfAll (wsV RX8 172 RX6 yX6_living wsX6_living) := goodIn_app (goodIn_of _ (by decide +kernel)) ggX8_shadesOfAll_X6_living
set_option maxRecDepth 20000 in
theorem ggX8_shadesOfAll_X6_knowersOf : GoodIn wsX8_shadesOfAll wsX6_knowersOf := goodIn_r _ [48, 37, 38, 49, 14, 15, 10, 16, 17, 89, 90, 81, 82, 83, 84, 85, 86, 87, 88] (by decide +kernel) (by decide +kernel)
set_option maxRecDepth 20000 in
theorem gX8_shadesOfAll_X6_knowersOf : GoodIn wsX8_shadesOfAll (wsV RX8 146 RX6 yX6_knowersOf wsX6_knowersOf) := goodIn_app (goodIn_of _ (by decide +kernel)) ggX8_shadesOfAll_X6_knowersOf
set_option maxRecDepth 20000 in
theorem ggX8_shadesOfAll_J6_bitCount_0f7a4 : GoodIn wsX8_shadesOfAll wsJ6_bitCount_0f7a4 := goodIn_r _ [53, 54, 55, 56] (by decide +kernel) (by decide +kernel)
set_option maxRecDepth 20000 in
theorem gX8_shadesOfAll_J6_bitCount_0f7a4 : GoodIn wsX8_shadesOfAll (va_wsS RX8 232 yJ6_bitCount_0f7a4 wsJ6_bitCount_0f7a4) := goodIn_app (goodIn_of _ (by decide +kernel)) ggX8_shadesOfAll_J6_bitCount_0f7a4
set_option maxRecDepth 20000 in
theorem ggX8_shadesOfAll_X6_othersKnowing : GoodIn wsX8_shadesOfAll wsX6_othersKnowing := goodIn_r _ [60, 37, 61, 46, 47, 31, 48, 38, 49, 14, 15, 10, 16, 17, 62, 8, 9, 11, 12, 13, 63, 51, 52, 53, 54, 55, 56, 89, 90, 81, 82, 83, 84, 85, 86, 87, 88] (by decide +kernel) (by decide +kernel)
set_option maxRecDepth 20000 in
theorem gX8_shadesOfAll_X6_othersKnowing : GoodIn wsX8_shadesOfAll (wsV RX8 259 RX6 yX6_othersKnowing wsX6_othersKnowing) := goodIn_app (goodIn_of _ (by decide +kernel)) ggX8_shadesOfAll_X6_othersKnowing
set_option maxRecDepth 20000 in
theorem ggX8_shadesOfAll_X8_careForMany : GoodIn wsX8_shadesOfAll wsX8_careForMany := goodIn_r _ [66, 67, 68, 5, 69] (by decide +kernel) (by decide +kernel)
set_option maxRecDepth 20000 in
theorem gX8_shadesOfAll_X8_careForMany : GoodIn wsX8_shadesOfAll (va_wsS RX8 262 yX8_careForMany wsX8_careForMany) := goodIn_app (goodIn_of _ (by decide +kernel)) ggX8_shadesOfAll_X8_careForMany
theorem dX8_shadesOfAll_0 : decode cX8_shadesOfAll 0 = .ok (.iconst 0, 1) := by decide +kernel
theorem dX8_shadesOfAll_1 : decode cX8_shadesOfAll 1 = .ok (.istore_n 2, 1) := by decide +kernel
theorem dX8_shadesOfAll_2 : decode cX8_shadesOfAll 2 = .ok (.iconst 0, 1) := by decide +kernel
theorem dX8_shadesOfAll_3 : decode cX8_shadesOfAll 3 = .ok (.istore_n 3, 1) := by decide +kernel
theorem dX8_shadesOfAll_4 : decode cX8_shadesOfAll 4 = .ok (.iload_n 3, 1) := by decide +kernel
theorem dX8_shadesOfAll_5 : decode cX8_shadesOfAll 5 = .ok (.bipush 8, 2) := by decide +kernel
theorem dX8_shadesOfAll_7 : decode cX8_shadesOfAll 7 = .ok (.if_icmp .ge 75, 3) := by decide +kernel
theorem dX8_shadesOfAll_10 : decode cX8_shadesOfAll 10 = .ok (.iload_n 1, 1) := by decide +kernel
theorem dX8_shadesOfAll_11 : decode cX8_shadesOfAll 11 = .ok (.iload_n 3, 1) := by decide +kernel
theorem dX8_shadesOfAll_12 : decode cX8_shadesOfAll 12 = .ok (.invokestatic 185, 3) := by decide +kernel
theorem dX8_shadesOfAll_15 : decode cX8_shadesOfAll 15 = .ok (.ifCond .eq 61, 3) := by decide +kernel
theorem dX8_shadesOfAll_18 : decode cX8_shadesOfAll 18 = .ok (.aload_n 0, 1) := by decide +kernel
theorem dX8_shadesOfAll_19 : decode cX8_shadesOfAll 19 = .ok (.getfield 26, 3) := by decide +kernel
theorem dX8_shadesOfAll_22 : decode cX8_shadesOfAll 22 = .ok (.aload_n 0, 1) := by decide +kernel
theorem dX8_shadesOfAll_23 : decode cX8_shadesOfAll 23 = .ok (.getfield 26, 3) := by decide +kernel
theorem dX8_shadesOfAll_26 : decode cX8_shadesOfAll 26 = .ok (.iload_n 3, 1) := by decide +kernel
theorem dX8_shadesOfAll_27 : decode cX8_shadesOfAll 27 = .ok (.invokevirtual 143, 3) := by decide +kernel
theorem dX8_shadesOfAll_30 : decode cX8_shadesOfAll 30 = .ok (.invokevirtual 125, 3) := by decide +kernel
theorem dX8_shadesOfAll_33 : decode cX8_shadesOfAll 33 = .ok (.istore 4, 2) := by decide +kernel
theorem dX8_shadesOfAll_35 : decode cX8_shadesOfAll 35 = .ok (.aload_n 0, 1) := by decide +kernel
theorem dX8_shadesOfAll_36 : decode cX8_shadesOfAll 36 = .ok (.getfield 38, 3) := by decide +kernel
theorem dX8_shadesOfAll_39 : decode cX8_shadesOfAll 39 = .ok (.invokevirtual 172, 3) := by decide +kernel
theorem dX8_shadesOfAll_42 : decode cX8_shadesOfAll 42 = .ok (.aload_n 0, 1) := by decide +kernel
theorem dX8_shadesOfAll_43 : decode cX8_shadesOfAll 43 = .ok (.getfield 38, 3) := by decide +kernel
theorem dX8_shadesOfAll_46 : decode cX8_shadesOfAll 46 = .ok (.iload_n 3, 1) := by decide +kernel
theorem dX8_shadesOfAll_47 : decode cX8_shadesOfAll 47 = .ok (.invokevirtual 146, 3) := by decide +kernel
theorem dX8_shadesOfAll_50 : decode cX8_shadesOfAll 50 = .ok (.iconst (-1), 1) := by decide +kernel
theorem dX8_shadesOfAll_51 : decode cX8_shadesOfAll 51 = .ok (.ixor, 1) := by decide +kernel
theorem dX8_shadesOfAll_52 : decode cX8_shadesOfAll 52 = .ok (.iand, 1) := by decide +kernel
theorem dX8_shadesOfAll_53 : decode cX8_shadesOfAll 53 = .ok (.invokestatic 232, 3) := by decide +kernel
theorem dX8_shadesOfAll_56 : decode cX8_shadesOfAll 56 = .ok (.istore 5, 2) := by decide +kernel
theorem dX8_shadesOfAll_58 : decode cX8_shadesOfAll 58 = .ok (.iload_n 2, 1) := by decide +kernel
theorem dX8_shadesOfAll_59 : decode cX8_shadesOfAll 59 = .ok (.iload 4, 2) := by decide +kernel
theorem dX8_shadesOfAll_61 : decode cX8_shadesOfAll 61 = .ok (.aload_n 0, 1) := by decide +kernel
theorem dX8_shadesOfAll_62 : decode cX8_shadesOfAll 62 = .ok (.getfield 38, 3) := by decide +kernel
theorem dX8_shadesOfAll_65 : decode cX8_shadesOfAll 65 = .ok (.iload_n 3, 1) := by decide +kernel
theorem dX8_shadesOfAll_66 : decode cX8_shadesOfAll 66 = .ok (.invokevirtual 259, 3) := by decide +kernel
theorem dX8_shadesOfAll_69 : decode cX8_shadesOfAll 69 = .ok (.iload 5, 2) := by decide +kernel
theorem dX8_shadesOfAll_71 : decode cX8_shadesOfAll 71 = .ok (.invokestatic 262, 3) := by decide +kernel
theorem dX8_shadesOfAll_74 : decode cX8_shadesOfAll 74 = .ok (.iadd, 1) := by decide +kernel
theorem dX8_shadesOfAll_75 : decode cX8_shadesOfAll 75 = .ok (.istore_n 2, 1) := by decide +kernel
theorem dX8_shadesOfAll_76 : decode cX8_shadesOfAll 76 = .ok (.iinc 3 1, 3) := by decide +kernel
theorem dX8_shadesOfAll_79 : decode cX8_shadesOfAll 79 = .ok (.goto (-75), 3) := by decide +kernel
theorem dX8_shadesOfAll_82 : decode cX8_shadesOfAll 82 = .ok (.iload_n 2, 1) := by decide +kernel
theorem dX8_shadesOfAll_83 : decode cX8_shadesOfAll 83 = .ok (.ireturn, 1) := by decide +kernel
set_option maxRecDepth 20000 in
theorem ggX8_stepOfYear_X7_people : GoodIn wsX8_stepOfYear wsX7_people := goodIn_r _ [11, 12, 110, 111, 112, 113, 114, 115, 116, 117] (by decide +kernel) (by decide +kernel)
set_option maxRecDepth 20000 in
theorem gX8_stepOfYear_X7_people : GoodIn wsX8_stepOfYear (wsV RX8 114 RX7 yX7_people wsX7_people) := goodIn_app (goodIn_of _ (by decide +kernel)) ggX8_stepOfYear_X7_people
set_option maxRecDepth 20000 in
theorem ggX8_stepOfYear_X7_secrets : GoodIn wsX8_stepOfYear wsX7_secrets := goodIn_r _ [16, 17, 110, 111, 112, 113, 114, 115, 116, 117] (by decide +kernel) (by decide +kernel)
set_option maxRecDepth 20000 in
theorem gX8_stepOfYear_X7_secrets : GoodIn wsX8_stepOfYear (wsV RX8 182 RX7 yX7_secrets wsX7_secrets) := goodIn_app (goodIn_of _ (by decide +kernel)) ggX8_stepOfYear_X7_secrets
set_option maxRecDepth 20000 in
theorem ggX8_stepOfYear_X6_isAlive : GoodIn wsX8_stepOfYear wsX6_isAlive := goodIn_r _ [22, 23, 24, 25, 26, 27, 10, 28, 12, 29, 30, 31, 32, 33, 118, 119, 110, 111, 112, 113, 114, 115, 116, 117] (by decide +kernel) (by decide +kernel)
set_option maxRecDepth 20000 in
theorem gX8_stepOfYear_X6_isAlive : GoodIn wsX8_stepOfYear (wsV RX8 137 RX6 yX6_isAlive wsX6_isAlive) := goodIn_app (goodIn_of _ (by decide +kernel)) ggX8_stepOfYear_X6_isAlive
set_option maxRecDepth 20000 in
theorem ggX8_stepOfYear_X6_knows : GoodIn wsX8_stepOfYear wsX6_knows := goodIn_r _ [37, 23, 25, 26, 27, 10, 28, 12, 38, 39, 40, 21, 41, 24, 42, 43, 44, 45, 17, 46, 47, 48, 118, 119, 110, 111, 112, 113, 114, 115, 116, 117] (by decide +kernel) (by decide +kernel)
set_option maxRecDepth 20000 in
theorem gX8_stepOfYear_X6_knows : GoodIn wsX8_stepOfYear (wsV RX8 149 RX6 yX6_knows wsX6_knows) := goodIn_app (goodIn_of _ (by decide +kernel)) ggX8_stepOfYear_X6_knows
set_option maxRecDepth 20000 in
theorem ggX8_stepOfYear_X6_meetsOf : GoodIn wsX8_stepOfYear wsX6_meetsOf := goodIn_r _ [52, 23, 53, 19, 20, 21, 22, 24, 25, 26, 27, 10, 28, 12, 29, 30, 31, 32, 33, 54, 55, 56, 57, 58, 59, 60, 61, 62, 63, 118, 119, 110, 111, 112, 113, 114, 115, 116, 117] (by decide +kernel) (by decide +kernel)
set_option maxRecDepth 20000 in
theorem gX8_stepOfYear_X6_meetsOf : GoodIn wsX8_stepOfYear (wsV RX8 128 RX6 yX6_meetsOf wsX6_meetsOf) := goodIn_app (goodIn_of _ (by decide +kernel)) ggX8_stepOfYear_X6_meetsOf
set_option maxRecDepth 20000 in
theorem ggX8_stepOfYear_X6_speak : GoodIn wsX8_stepOfYear wsX6_speak := goodIn_r _ [67, 23, 24, 42, 43, 44, 10, 45, 17, 68, 69, 70, 71, 72, 73, 60, 61, 62, 21, 63, 53, 19, 20, 22, 25, 26, 27, 28, 12, 29, 30, 31, 32, 33, 38, 39, 40, 41, 74, 75, 76, 77, 78, 79, 80, 81, 82, 83, 84, 85, 59, 86, 87, 88, 89, 90, 47, 91, 92, 93, 94, 95, 96, 97, 98, 46, 48, 118, 119, 110, 111, 112, 113, 114, 115, 116, 117] (by decide +kernel) (by decide +kernel)
set_option maxRecDepth 20000 in
theorem gX8_stepOfYear_X6_speak : GoodIn wsX8_stepOfYear (wsV RX8 157 RX6 yX6_speak wsX6_speak) := goodIn_app (goodIn_of _ (by decide +kernel)) ggX8_stepOfYear_X6_speak
theorem dX8_stepOfYear_0 : decode cX8_stepOfYear 0 = .ok (.aload_n 0, 1) := by decide +kernel
theorem dX8_stepOfYear_1 : decode cX8_stepOfYear 1 = .ok (.getfield 26, 3) := by decide +kernel
theorem dX8_stepOfYear_4 : decode cX8_stepOfYear 4 = .ok (.invokevirtual 114, 3) := by decide +kernel
theorem dX8_stepOfYear_7 : decode cX8_stepOfYear 7 = .ok (.istore_n 3, 1) := by decide +kernel
theorem dX8_stepOfYear_8 : decode cX8_stepOfYear 8 = .ok (.aload_n 0, 1) := by decide +kernel
theorem dX8_stepOfYear_9 : decode cX8_stepOfYear 9 = .ok (.getfield 26, 3) := by decide +kernel
theorem dX8_stepOfYear_12 : decode cX8_stepOfYear 12 = .ok (.invokevirtual 182, 3) := by decide +kernel
theorem dX8_stepOfYear_15 : decode cX8_stepOfYear 15 = .ok (.istore 4, 2) := by decide +kernel
theorem dX8_stepOfYear_17 : decode cX8_stepOfYear 17 = .ok (.iload_n 3, 1) := by decide +kernel
theorem dX8_stepOfYear_18 : decode cX8_stepOfYear 18 = .ok (.ifCond .le 8, 3) := by decide +kernel
theorem dX8_stepOfYear_21 : decode cX8_stepOfYear 21 = .ok (.iload 4, 2) := by decide +kernel
theorem dX8_stepOfYear_23 : decode cX8_stepOfYear 23 = .ok (.ifCond .gt 4, 3) := by decide +kernel
theorem dX8_stepOfYear_26 : decode cX8_stepOfYear 26 = .ok (.return_, 1) := by decide +kernel
theorem dX8_stepOfYear_27 : decode cX8_stepOfYear 27 = .ok (.ldc2_w 265, 3) := by decide +kernel
theorem dX8_stepOfYear_30 : decode cX8_stepOfYear 30 = .ok (.iload_n 1, 1) := by decide +kernel
theorem dX8_stepOfYear_31 : decode cX8_stepOfYear 31 = .ok (.i2l, 1) := by decide +kernel
theorem dX8_stepOfYear_32 : decode cX8_stepOfYear 32 = .ok (.lmul, 1) := by decide +kernel
theorem dX8_stepOfYear_33 : decode cX8_stepOfYear 33 = .ok (.ldc2_w 267, 3) := by decide +kernel
theorem dX8_stepOfYear_36 : decode cX8_stepOfYear 36 = .ok (.iload_n 2, 1) := by decide +kernel
theorem dX8_stepOfYear_37 : decode cX8_stepOfYear 37 = .ok (.i2l, 1) := by decide +kernel
theorem dX8_stepOfYear_38 : decode cX8_stepOfYear 38 = .ok (.lmul, 1) := by decide +kernel
theorem dX8_stepOfYear_39 : decode cX8_stepOfYear 39 = .ok (.ladd, 1) := by decide +kernel
theorem dX8_stepOfYear_40 : decode cX8_stepOfYear 40 = .ok (.lconst 1, 1) := by decide +kernel
theorem dX8_stepOfYear_41 : decode cX8_stepOfYear 41 = .ok (.ladd, 1) := by decide +kernel
theorem dX8_stepOfYear_42 : decode cX8_stepOfYear 42 = .ok (.lstore 5, 2) := by decide +kernel
theorem dX8_stepOfYear_44 : decode cX8_stepOfYear 44 = .ok (.lload 5, 2) := by decide +kernel
theorem dX8_stepOfYear_46 : decode cX8_stepOfYear 46 = .ok (.lload 5, 2) := by decide +kernel
theorem dX8_stepOfYear_48 : decode cX8_stepOfYear 48 = .ok (.lmul, 1) := by decide +kernel
theorem dX8_stepOfYear_49 : decode cX8_stepOfYear 49 = .ok (.ldc2_w 269, 3) := by decide +kernel
theorem dX8_stepOfYear_52 : decode cX8_stepOfYear 52 = .ok (.lrem, 1) := by decide +kernel
theorem dX8_stepOfYear_53 : decode cX8_stepOfYear 53 = .ok (.ldc2_w 271, 3) := by decide +kernel
theorem dX8_stepOfYear_56 : decode cX8_stepOfYear 56 = .ok (.ldiv, 1) := by decide +kernel
theorem dX8_stepOfYear_57 : decode cX8_stepOfYear 57 = .ok (.l2i, 1) := by decide +kernel
theorem dX8_stepOfYear_58 : decode cX8_stepOfYear 58 = .ok (.istore 7, 2) := by decide +kernel
theorem dX8_stepOfYear_60 : decode cX8_stepOfYear 60 = .ok (.iload 7, 2) := by decide +kernel
theorem dX8_stepOfYear_62 : decode cX8_stepOfYear 62 = .ok (.iload_n 3, 1) := by decide +kernel
theorem dX8_stepOfYear_63 : decode cX8_stepOfYear 63 = .ok (.irem, 1) := by decide +kernel
theorem dX8_stepOfYear_64 : decode cX8_stepOfYear 64 = .ok (.istore 8, 2) := by decide +kernel
theorem dX8_stepOfYear_66 : decode cX8_stepOfYear 66 = .ok (.iload 7, 2) := by decide +kernel
theorem dX8_stepOfYear_68 : decode cX8_stepOfYear 68 = .ok (.bipush 6, 2) := by decide +kernel
theorem dX8_stepOfYear_70 : decode cX8_stepOfYear 70 = .ok (.idiv, 1) := by decide +kernel
theorem dX8_stepOfYear_71 : decode cX8_stepOfYear 71 = .ok (.iload 4, 2) := by decide +kernel
theorem dX8_stepOfYear_73 : decode cX8_stepOfYear 73 = .ok (.irem, 1) := by decide +kernel
theorem dX8_stepOfYear_74 : decode cX8_stepOfYear 74 = .ok (.istore 9, 2) := by decide +kernel
theorem dX8_stepOfYear_76 : decode cX8_stepOfYear 76 = .ok (.aload_n 0, 1) := by decide +kernel
theorem dX8_stepOfYear_77 : decode cX8_stepOfYear 77 = .ok (.getfield 42, 3) := by decide +kernel
theorem dX8_stepOfYear_80 : decode cX8_stepOfYear 80 = .ok (.iload 8, 2) := by decide +kernel
theorem dX8_stepOfYear_82 : decode cX8_stepOfYear 82 = .ok (.invokevirtual 137, 3) := by decide +kernel
theorem dX8_stepOfYear_85 : decode cX8_stepOfYear 85 = .ok (.ifCond .eq 38, 3) := by decide +kernel
theorem dX8_stepOfYear_88 : decode cX8_stepOfYear 88 = .ok (.aload_n 0, 1) := by decide +kernel
theorem dX8_stepOfYear_89 : decode cX8_stepOfYear 89 = .ok (.getfield 42, 3) := by decide +kernel
theorem dX8_stepOfYear_92 : decode cX8_stepOfYear 92 = .ok (.iload 8, 2) := by decide +kernel
theorem dX8_stepOfYear_94 : decode cX8_stepOfYear 94 = .ok (.iload 9, 2) := by decide +kernel
theorem dX8_stepOfYear_96 : decode cX8_stepOfYear 96 = .ok (.invokevirtual 149, 3) := by decide +kernel
theorem dX8_stepOfYear_99 : decode cX8_stepOfYear 99 = .ok (.ifCond .eq 24, 3) := by decide +kernel
theorem dX8_stepOfYear_102 : decode cX8_stepOfYear 102 = .ok (.aload_n 0, 1) := by decide +kernel
theorem dX8_stepOfYear_103 : decode cX8_stepOfYear 103 = .ok (.getfield 42, 3) := by decide +kernel
theorem dX8_stepOfYear_106 : decode cX8_stepOfYear 106 = .ok (.iload 8, 2) := by decide +kernel
theorem dX8_stepOfYear_108 : decode cX8_stepOfYear 108 = .ok (.iload 9, 2) := by decide +kernel
theorem dX8_stepOfYear_110 : decode cX8_stepOfYear 110 = .ok (.aload_n 0, 1) := by decide +kernel
theorem dX8_stepOfYear_111 : decode cX8_stepOfYear 111 = .ok (.getfield 42, 3) := by decide +kernel
theorem dX8_stepOfYear_114 : decode cX8_stepOfYear 114 = .ok (.iload 8, 2) := by decide +kernel
theorem dX8_stepOfYear_116 : decode cX8_stepOfYear 116 = .ok (.invokevirtual 128, 3) := by decide +kernel
theorem dX8_stepOfYear_119 : decode cX8_stepOfYear 119 = .ok (.invokevirtual 157, 3) := by decide +kernel
theorem dX8_stepOfYear_122 : decode cX8_stepOfYear 122 = .ok (.pop, 1) := by decide +kernel
theorem dX8_stepOfYear_123 : decode cX8_stepOfYear 123 = .ok (.return_, 1) := by decide +kernel
set_option maxRecDepth 20000 in
theorem ggX9_init_X9_begins : GoodIn wsX9_init wsX9_begins := goodIn_r _ [21, 7, 42, 43, 44, 45, 46, 47, 48, 49, 50, 51, 52, 53, 54, 55, 56, 57, 58, 59, 60, 61] (by decide +kernel) (by decide +kernel)
set_option maxRecDepth 20000 in
theorem gX9_init_X9_begins : GoodIn wsX9_init (wsV RX9 46 RX9 yX9_begins wsX9_begins) := goodIn_app (goodIn_of _ (by decide +kernel)) ggX9_init_X9_begins
set_option maxRecDepth 20000 in
theorem ggX9_init_X9_adds : GoodIn wsX9_init wsX9_adds := goodIn_r _ [25, 7, 42, 43, 44, 45, 46, 47, 48, 49, 50, 51, 52, 53, 54, 55, 56, 57, 58, 59, 60, 61] (by decide +kernel) (by decide +kernel)
set_option maxRecDepth 20000 in
theorem gX9_init_X9_adds : GoodIn wsX9_init (wsV RX9 49 RX9 yX9_adds wsX9_adds) := goodIn_app (goodIn_of _ (by decide +kernel)) ggX9_init_X9_adds
set_option maxRecDepth 20000 in
theorem ggX9_init_X9_meets : GoodIn wsX9_init wsX9_meets := goodIn_r _ [29, 7, 42, 43, 44, 45, 46, 47, 48, 49, 50, 51, 52, 53, 54, 55, 56, 57, 58, 59, 60, 61] (by decide +kernel) (by decide +kernel)
set_option maxRecDepth 20000 in
theorem gX9_init_X9_meets : GoodIn wsX9_init (wsV RX9 53 RX9 yX9_meets wsX9_meets) := goodIn_app (goodIn_of _ (by decide +kernel)) ggX9_init_X9_meets
set_option maxRecDepth 20000 in
theorem ggX9_init_X9_secretOf : GoodIn wsX9_init wsX9_secretOf := goodIn_r _ [33, 7, 42, 43, 44, 45, 46, 47, 48, 49, 50, 51, 52, 53, 54, 55, 56, 57, 58, 59, 60, 61] (by decide +kernel) (by decide +kernel)
set_option maxRecDepth 20000 in
theorem gX9_init_X9_secretOf : GoodIn wsX9_init (wsV RX9 56 RX9 yX9_secretOf wsX9_secretOf) := goodIn_app (goodIn_of _ (by decide +kernel)) ggX9_init_X9_secretOf
set_option maxRecDepth 20000 in
theorem ggX9_init_X9_lays : GoodIn wsX9_init wsX9_lays := goodIn_r _ [37, 6, 7, 8, 38, 39, 40, 41, 42, 43, 44, 45, 46, 47, 48, 49, 50, 51, 52, 53, 54, 55, 56, 57, 58, 59, 60, 61] (by decide +kernel) (by decide +kernel)
set_option maxRecDepth 20000 in
theorem gX9_init_X9_lays : GoodIn wsX9_init (wsV RX9 59 RX9 yX9_lays wsX9_lays) := goodIn_app (goodIn_of _ (by decide +kernel)) ggX9_init_X9_lays
theorem dX9_init_0 : decode cX9_init 0 = .ok (.aload_n 0, 1) := by decide +kernel
theorem dX9_init_1 : decode cX9_init 1 = .ok (.invokespecial 1, 3) := by decide +kernel
theorem dX9_init_4 : decode cX9_init 4 = .ok (.aload_n 0, 1) := by decide +kernel
theorem dX9_init_5 : decode cX9_init 5 = .ok (.sipush 200, 3) := by decide +kernel
theorem dX9_init_8 : decode cX9_init 8 = .ok (.newarray .int, 2) := by decide +kernel
theorem dX9_init_10 : decode cX9_init 10 = .ok (.putfield 7, 3) := by decide +kernel
theorem dX9_init_13 : decode cX9_init 13 = .ok (.aload_n 0, 1) := by decide +kernel
theorem dX9_init_14 : decode cX9_init 14 = .ok (.bipush 37, 2) := by decide +kernel
theorem dX9_init_16 : decode cX9_init 16 = .ok (.newarray .int, 2) := by decide +kernel
theorem dX9_init_18 : decode cX9_init 18 = .ok (.putfield 13, 3) := by decide +kernel
theorem dX9_init_21 : decode cX9_init 21 = .ok (.aload_n 0, 1) := by decide +kernel
theorem dX9_init_22 : decode cX9_init 22 = .ok (.bipush 37, 2) := by decide +kernel
theorem dX9_init_24 : decode cX9_init 24 = .ok (.newarray .int, 2) := by decide +kernel
theorem dX9_init_26 : decode cX9_init 26 = .ok (.putfield 16, 3) := by decide +kernel
theorem dX9_init_29 : decode cX9_init 29 = .ok (.aload_n 0, 1) := by decide +kernel
theorem dX9_init_30 : decode cX9_init 30 = .ok (.bipush 15, 2) := by decide +kernel
theorem dX9_init_32 : decode cX9_init 32 = .ok (.newarray .int, 2) := by decide +kernel
theorem dX9_init_34 : decode cX9_init 34 = .ok (.putfield 19, 3) := by decide +kernel
theorem dX9_init_37 : decode cX9_init 37 = .ok (.aload_n 0, 1) := by decide +kernel
theorem dX9_init_38 : decode cX9_init 38 = .ok (.bipush 120, 2) := by decide +kernel
theorem dX9_init_40 : decode cX9_init 40 = .ok (.newarray .int, 2) := by decide +kernel
theorem dX9_init_42 : decode cX9_init 42 = .ok (.putfield 22, 3) := by decide +kernel
theorem dX9_init_45 : decode cX9_init 45 = .ok (.aload_n 0, 1) := by decide +kernel
theorem dX9_init_46 : decode cX9_init 46 = .ok (.bipush 30, 2) := by decide +kernel
theorem dX9_init_48 : decode cX9_init 48 = .ok (.newarray .int, 2) := by decide +kernel
theorem dX9_init_50 : decode cX9_init 50 = .ok (.putfield 25, 3) := by decide +kernel
theorem dX9_init_53 : decode cX9_init 53 = .ok (.aload_n 0, 1) := by decide +kernel
theorem dX9_init_54 : decode cX9_init 54 = .ok (.iconst 5, 1) := by decide +kernel
theorem dX9_init_55 : decode cX9_init 55 = .ok (.newarray .int, 2) := by decide +kernel
theorem dX9_init_57 : decode cX9_init 57 = .ok (.putfield 28, 3) := by decide +kernel
theorem dX9_init_60 : decode cX9_init 60 = .ok (.aload_n 0, 1) := by decide +kernel
theorem dX9_init_61 : decode cX9_init 61 = .ok (.bipush 6, 2) := by decide +kernel
theorem dX9_init_63 : decode cX9_init 63 = .ok (.newarray .int, 2) := by decide +kernel
theorem dX9_init_65 : decode cX9_init 65 = .ok (.putfield 31, 3) := by decide +kernel
theorem dX9_init_68 : decode cX9_init 68 = .ok (.aload_n 0, 1) := by decide +kernel
theorem dX9_init_69 : decode cX9_init 69 = .ok (.bipush 15, 2) := by decide +kernel
theorem dX9_init_71 : decode cX9_init 71 = .ok (.newarray .int, 2) := by decide +kernel
theorem dX9_init_73 : decode cX9_init 73 = .ok (.putfield 34, 3) := by decide +kernel
theorem dX9_init_76 : decode cX9_init 76 = .ok (.aload_n 0, 1) := by decide +kernel
theorem dX9_init_77 : decode cX9_init 77 = .ok (.sipush 384, 3) := by decide +kernel
theorem dX9_init_80 : decode cX9_init 80 = .ok (.newarray .int, 2) := by decide +kernel
theorem dX9_init_82 : decode cX9_init 82 = .ok (.putfield 37, 3) := by decide +kernel
theorem dX9_init_85 : decode cX9_init 85 = .ok (.aload_n 0, 1) := by decide +kernel
theorem dX9_init_86 : decode cX9_init 86 = .ok (.iconst 5, 1) := by decide +kernel
theorem dX9_init_87 : decode cX9_init 87 = .ok (.newarray .int, 2) := by decide +kernel
theorem dX9_init_89 : decode cX9_init 89 = .ok (.putfield 40, 3) := by decide +kernel
theorem dX9_init_92 : decode cX9_init 92 = .ok (.aload_n 0, 1) := by decide +kernel
theorem dX9_init_93 : decode cX9_init 93 = .ok (.iconst 5, 1) := by decide +kernel
theorem dX9_init_94 : decode cX9_init 94 = .ok (.newarray .int, 2) := by decide +kernel
theorem dX9_init_96 : decode cX9_init 96 = .ok (.putfield 43, 3) := by decide +kernel
theorem dX9_init_99 : decode cX9_init 99 = .ok (.aload_n 0, 1) := by decide +kernel
theorem dX9_init_100 : decode cX9_init 100 = .ok (.invokevirtual 46, 3) := by decide +kernel
theorem dX9_init_103 : decode cX9_init 103 = .ok (.aload_n 0, 1) := by decide +kernel
theorem dX9_init_104 : decode cX9_init 104 = .ok (.bipush 20, 2) := by decide +kernel
theorem dX9_init_106 : decode cX9_init 106 = .ok (.iconst 0, 1) := by decide +kernel
theorem dX9_init_107 : decode cX9_init 107 = .ok (.invokevirtual 49, 3) := by decide +kernel
theorem dX9_init_110 : decode cX9_init 110 = .ok (.aload_n 0, 1) := by decide +kernel
theorem dX9_init_111 : decode cX9_init 111 = .ok (.iconst 5, 1) := by decide +kernel
theorem dX9_init_112 : decode cX9_init 112 = .ok (.iconst 1, 1) := by decide +kernel
theorem dX9_init_113 : decode cX9_init 113 = .ok (.invokevirtual 49, 3) := by decide +kernel
theorem dX9_init_116 : decode cX9_init 116 = .ok (.aload_n 0, 1) := by decide +kernel
theorem dX9_init_117 : decode cX9_init 117 = .ok (.bipush 30, 2) := by decide +kernel
theorem dX9_init_119 : decode cX9_init 119 = .ok (.iconst 2, 1) := by decide +kernel
theorem dX9_init_120 : decode cX9_init 120 = .ok (.invokevirtual 49, 3) := by decide +kernel
theorem dX9_init_123 : decode cX9_init 123 = .ok (.aload_n 0, 1) := by decide +kernel
theorem dX9_init_124 : decode cX9_init 124 = .ok (.bipush 8, 2) := by decide +kernel
theorem dX9_init_126 : decode cX9_init 126 = .ok (.iconst 4, 1) := by decide +kernel
theorem dX9_init_127 : decode cX9_init 127 = .ok (.invokevirtual 49, 3) := by decide +kernel
theorem dX9_init_130 : decode cX9_init 130 = .ok (.aload_n 0, 1) := by decide +kernel
theorem dX9_init_131 : decode cX9_init 131 = .ok (.bipush 12, 2) := by decide +kernel
theorem dX9_init_133 : decode cX9_init 133 = .ok (.iconst 3, 1) := by decide +kernel
theorem dX9_init_134 : decode cX9_init 134 = .ok (.invokevirtual 49, 3) := by decide +kernel
theorem dX9_init_137 : decode cX9_init 137 = .ok (.aload_n 0, 1) := by decide +kernel
theorem dX9_init_138 : decode cX9_init 138 = .ok (.iconst 0, 1) := by decide +kernel
theorem dX9_init_139 : decode cX9_init 139 = .ok (.iconst 1, 1) := by decide +kernel
theorem dX9_init_140 : decode cX9_init 140 = .ok (.invokevirtual 53, 3) := by decide +kernel
theorem dX9_init_143 : decode cX9_init 143 = .ok (.aload_n 0, 1) := by decide +kernel
theorem dX9_init_144 : decode cX9_init 144 = .ok (.iconst 1, 1) := by decide +kernel
theorem dX9_init_145 : decode cX9_init 145 = .ok (.iconst 2, 1) := by decide +kernel
theorem dX9_init_146 : decode cX9_init 146 = .ok (.invokevirtual 53, 3) := by decide +kernel
theorem dX9_init_149 : decode cX9_init 149 = .ok (.aload_n 0, 1) := by decide +kernel
theorem dX9_init_150 : decode cX9_init 150 = .ok (.iconst 2, 1) := by decide +kernel
theorem dX9_init_151 : decode cX9_init 151 = .ok (.iconst 3, 1) := by decide +kernel
theorem dX9_init_152 : decode cX9_init 152 = .ok (.invokevirtual 53, 3) := by decide +kernel
theorem dX9_init_155 : decode cX9_init 155 = .ok (.aload_n 0, 1) := by decide +kernel
theorem dX9_init_156 : decode cX9_init 156 = .ok (.iconst 0, 1) := by decide +kernel
theorem dX9_init_157 : decode cX9_init 157 = .ok (.iconst 3, 1) := by decide +kernel
theorem dX9_init_158 : decode cX9_init 158 = .ok (.invokevirtual 53, 3) := by decide +kernel
theorem dX9_init_161 : decode cX9_init 161 = .ok (.aload_n 0, 1) := by decide +kernel
theorem dX9_init_162 : decode cX9_init 162 = .ok (.iconst 3, 1) := by decide +kernel
theorem dX9_init_163 : decode cX9_init 163 = .ok (.iconst 4, 1) := by decide +kernel
theorem dX9_init_164 : decode cX9_init 164 = .ok (.invokevirtual 53, 3) := by decide +kernel
theorem dX9_init_167 : decode cX9_init 167 = .ok (.aload_n 0, 1) := by decide +kernel
theorem dX9_init_168 : decode cX9_init 168 = .ok (.iconst 0, 1) := by decide +kernel
theorem dX9_init_169 : decode cX9_init 169 = .ok (.iconst 0, 1) := by decide +kernel
theorem dX9_init_170 : decode cX9_init 170 = .ok (.invokevirtual 56, 3) := by decide +kernel
theorem dX9_init_173 : decode cX9_init 173 = .ok (.aload_n 0, 1) := by decide +kernel
theorem dX9_init_174 : decode cX9_init 174 = .ok (.iconst 1, 1) := by decide +kernel
theorem dX9_init_175 : decode cX9_init 175 = .ok (.iconst 1, 1) := by decide +kernel
theorem dX9_init_176 : decode cX9_init 176 = .ok (.invokevirtual 56, 3) := by decide +kernel
theorem dX9_init_179 : decode cX9_init 179 = .ok (.aload_n 0, 1) := by decide +kernel
theorem dX9_init_180 : decode cX9_init 180 = .ok (.iconst 2, 1) := by decide +kernel
theorem dX9_init_181 : decode cX9_init 181 = .ok (.iconst 0, 1) := by decide +kernel
theorem dX9_init_182 : decode cX9_init 182 = .ok (.invokevirtual 56, 3) := by decide +kernel
theorem dX9_init_185 : decode cX9_init 185 = .ok (.aload_n 0, 1) := by decide +kernel
theorem dX9_init_186 : decode cX9_init 186 = .ok (.iconst 4, 1) := by decide +kernel
theorem dX9_init_187 : decode cX9_init 187 = .ok (.bipush 8, 2) := by decide +kernel
theorem dX9_init_189 : decode cX9_init 189 = .ok (.invokevirtual 56, 3) := by decide +kernel
theorem dX9_init_192 : decode cX9_init 192 = .ok (.aload_n 0, 1) := by decide +kernel
theorem dX9_init_193 : decode cX9_init 193 = .ok (.iconst 0, 1) := by decide +kernel
theorem dX9_init_194 : decode cX9_init 194 = .ok (.bipush 16, 2) := by decide +kernel
theorem dX9_init_196 : decode cX9_init 196 = .ok (.invokevirtual 56, 3) := by decide +kernel
theorem dX9_init_199 : decode cX9_init 199 = .ok (.aload_n 0, 1) := by decide +kernel
theorem dX9_init_200 : decode cX9_init 200 = .ok (.invokevirtual 59, 3) := by decide +kernel
theorem dX9_init_203 : decode cX9_init 203 = .ok (.return_, 1) := by decide +kernel
theorem dX9_in_0 : decode cX9_in 0 = .ok (.iload_n 0, 1) := by decide +kernel
theorem dX9_in_1 : decode cX9_in 1 = .ok (.iload_n 1, 1) := by decide +kernel
theorem dX9_in_2 : decode cX9_in 2 = .ok (.if_icmp .lt 12, 3) := by decide +kernel
theorem dX9_in_5 : decode cX9_in 5 = .ok (.iload_n 0, 1) := by decide +kernel
theorem dX9_in_6 : decode cX9_in 6 = .ok (.iload_n 2, 1) := by decide +kernel
theorem dX9_in_7 : decode cX9_in 7 = .ok (.if_icmp .gt 7, 3) := by decide +kernel
theorem dX9_in_10 : decode cX9_in 10 = .ok (.iconst 1, 1) := by decide +kernel
theorem dX9_in_11 : decode cX9_in 11 = .ok (.goto 4, 3) := by decide +kernel
theorem dX9_in_14 : decode cX9_in 14 = .ok (.iconst 0, 1) := by decide +kernel
theorem dX9_in_15 : decode cX9_in 15 = .ok (.ireturn, 1) := by decide +kernel
set_option maxRecDepth 20000 in
theorem ggX9_isPerson_X9_in : GoodIn wsX9_isPerson wsX9_in := goodIn_r _ [5] (by decide +kernel) (by decide +kernel)
set_option maxRecDepth 20000 in
theorem gX9_isPerson_X9_in : GoodIn wsX9_isPerson (va_wsS RX9 62 yX9_in wsX9_in) := goodIn_app (goodIn_of _ (by decide +kernel)) ggX9_isPerson_X9_in
theorem dX9_isPerson_0 : decode cX9_isPerson 0 = .ok (.iload_n 1, 1) := by decide +kernel
theorem dX9_isPerson_1 : decode cX9_isPerson 1 = .ok (.iconst 0, 1) := by decide +kernel
theorem dX9_isPerson_2 : decode cX9_isPerson 2 = .ok (.aload_n 0, 1) := by decide +kernel
theorem dX9_isPerson_3 : decode cX9_isPerson 3 = .ok (.getfield 13, 3) := by decide +kernel
theorem dX9_isPerson_6 : decode cX9_isPerson 6 = .ok (.iconst 0, 1) := by decide +kernel
theorem dX9_isPerson_7 : decode cX9_isPerson 7 = .ok (.iaload, 1) := by decide +kernel
theorem dX9_isPerson_8 : decode cX9_isPerson 8 = .ok (.iconst 1, 1) := by decide +kernel
theorem dX9_isPerson_9 : decode cX9_isPerson 9 = .ok (.isub, 1) := by decide +kernel
theorem dX9_isPerson_10 : decode cX9_isPerson 10 = .ok (.invokestatic 62, 3) := by decide +kernel
theorem dX9_isPerson_13 : decode cX9_isPerson 13 = .ok (.ireturn, 1) := by decide +kernel
set_option maxRecDepth 20000 in
theorem ggX9_isSecret_X9_in : GoodIn wsX9_isSecret wsX9_in := goodIn_r _ [5] (by decide +kernel) (by decide +kernel)
set_option maxRecDepth 20000 in
theorem gX9_isSecret_X9_in : GoodIn wsX9_isSecret (va_wsS RX9 62 yX9_in wsX9_in) := goodIn_app (goodIn_of _ (by decide +kernel)) ggX9_isSecret_X9_in
theorem dX9_isSecret_0 : decode cX9_isSecret 0 = .ok (.iload_n 1, 1) := by decide +kernel
theorem dX9_isSecret_1 : decode cX9_isSecret 1 = .ok (.iconst 0, 1) := by decide +kernel
theorem dX9_isSecret_2 : decode cX9_isSecret 2 = .ok (.aload_n 0, 1) := by decide +kernel
theorem dX9_isSecret_3 : decode cX9_isSecret 3 = .ok (.getfield 13, 3) := by decide +kernel
theorem dX9_isSecret_6 : decode cX9_isSecret 6 = .ok (.iconst 1, 1) := by decide +kernel
theorem dX9_isSecret_7 : decode cX9_isSecret 7 = .ok (.iaload, 1) := by decide +kernel
theorem dX9_isSecret_8 : decode cX9_isSecret 8 = .ok (.iconst 1, 1) := by decide +kernel
theorem dX9_isSecret_9 : decode cX9_isSecret 9 = .ok (.isub, 1) := by decide +kernel
theorem dX9_isSecret_10 : decode cX9_isSecret 10 = .ok (.invokestatic 62, 3) := by decide +kernel
theorem dX9_isSecret_13 : decode cX9_isSecret 13 = .ok (.ireturn, 1) := by decide +kernel
theorem dX9_ones_0 : decode cX9_ones 0 = .ok (.iconst 0, 1) := by decide +kernel
theorem dX9_ones_1 : decode cX9_ones 1 = .ok (.istore_n 1, 1) := by decide +kernel
theorem dX9_ones_2 : decode cX9_ones 2 = .ok (.iconst 0, 1) := by decide +kernel
theorem dX9_ones_3 : decode cX9_ones 3 = .ok (.istore_n 2, 1) := by decide +kernel
theorem dX9_ones_4 : decode cX9_ones 4 = .ok (.iload_n 2, 1) := by decide +kernel

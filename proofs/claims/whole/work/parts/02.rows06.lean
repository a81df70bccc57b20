theorem dX9_apart_100 : decode cX9_apart 100 = .ok (.iload_n 2, 1) := by decide +kernel
theorem dX9_apart_101 : decode cX9_apart 101 = .ok (.ishr, 1) := by decide +kernel
theorem dX9_apart_102 : decode cX9_apart 102 = .ok (.iconst 1, 1) := by decide +kernel
theorem dX9_apart_103 : decode cX9_apart 103 = .ok (.iand, 1) := by decide +kernel
theorem dX9_apart_104 : decode cX9_apart 104 = .ok (.ifCond .ne 83, 3) := by decide +kernel
theorem dX9_apart_107 : decode cX9_apart 107 = .ok (.iconst 0, 1) := by decide +kernel
theorem dX9_apart_108 : decode cX9_apart 108 = .ok (.istore 7, 2) := by decide +kernel
theorem dX9_apart_110 : decode cX9_apart 110 = .ok (.iconst 0, 1) := by decide +kernel
theorem dX9_apart_111 : decode cX9_apart 111 = .ok (.istore 8, 2) := by decide +kernel
theorem dX9_apart_113 : decode cX9_apart 113 = .ok (.iload 8, 2) := by decide +kernel
theorem dX9_apart_115 : decode cX9_apart 115 = .ok (.aload_n 0, 1) := by decide +kernel
theorem dX9_apart_116 : decode cX9_apart 116 = .ok (.getfield 13, 3) := by decide +kernel
theorem dX9_apart_119 : decode cX9_apart 119 = .ok (.iconst 0, 1) := by decide +kernel
theorem dX9_apart_120 : decode cX9_apart 120 = .ok (.iaload, 1) := by decide +kernel
theorem dX9_apart_121 : decode cX9_apart 121 = .ok (.if_icmp .ge 43, 3) := by decide +kernel
theorem dX9_apart_124 : decode cX9_apart 124 = .ok (.iload 7, 2) := by decide +kernel
theorem dX9_apart_126 : decode cX9_apart 126 = .ok (.iload 6, 2) := by decide +kernel
theorem dX9_apart_128 : decode cX9_apart 128 = .ok (.iload 8, 2) := by decide +kernel
theorem dX9_apart_130 : decode cX9_apart 130 = .ok (.ishr, 1) := by decide +kernel
theorem dX9_apart_131 : decode cX9_apart 131 = .ok (.iconst 1, 1) := by decide +kernel
theorem dX9_apart_132 : decode cX9_apart 132 = .ok (.iand, 1) := by decide +kernel
theorem dX9_apart_133 : decode cX9_apart 133 = .ok (.iconst 1, 1) := by decide +kernel
theorem dX9_apart_134 : decode cX9_apart 134 = .ok (.if_icmp .ne 20, 3) := by decide +kernel
theorem dX9_apart_137 : decode cX9_apart 137 = .ok (.aload_n 0, 1) := by decide +kernel
theorem dX9_apart_138 : decode cX9_apart 138 = .ok (.iload 8, 2) := by decide +kernel
theorem dX9_apart_140 : decode cX9_apart 140 = .ok (.invokevirtual 129, 3) := by decide +kernel
theorem dX9_apart_143 : decode cX9_apart 143 = .ok (.iload 6, 2) := by decide +kernel
theorem dX9_apart_145 : decode cX9_apart 145 = .ok (.iconst (-1), 1) := by decide +kernel
theorem dX9_apart_146 : decode cX9_apart 146 = .ok (.ixor, 1) := by decide +kernel
theorem dX9_apart_147 : decode cX9_apart 147 = .ok (.iand, 1) := by decide +kernel
theorem dX9_apart_148 : decode cX9_apart 148 = .ok (.invokestatic 141, 3) := by decide +kernel
theorem dX9_apart_151 : decode cX9_apart 151 = .ok (.goto 4, 3) := by decide +kernel
theorem dX9_apart_154 : decode cX9_apart 154 = .ok (.iconst 0, 1) := by decide +kernel
theorem dX9_apart_155 : decode cX9_apart 155 = .ok (.iadd, 1) := by decide +kernel
theorem dX9_apart_156 : decode cX9_apart 156 = .ok (.istore 7, 2) := by decide +kernel
theorem dX9_apart_158 : decode cX9_apart 158 = .ok (.iinc 8 1, 3) := by decide +kernel
theorem dX9_apart_161 : decode cX9_apart 161 = .ok (.goto (-48), 3) := by decide +kernel
theorem dX9_apart_164 : decode cX9_apart 164 = .ok (.iload 5, 2) := by decide +kernel
theorem dX9_apart_166 : decode cX9_apart 166 = .ok (.bipush (-4), 2) := by decide +kernel
theorem dX9_apart_168 : decode cX9_apart 168 = .ok (.if_icmp .eq 10, 3) := by decide +kernel
theorem dX9_apart_171 : decode cX9_apart 171 = .ok (.iload 7, 2) := by decide +kernel
theorem dX9_apart_173 : decode cX9_apart 173 = .ok (.iload 5, 2) := by decide +kernel
theorem dX9_apart_175 : decode cX9_apart 175 = .ok (.if_icmp .ge 8, 3) := by decide +kernel
theorem dX9_apart_178 : decode cX9_apart 178 = .ok (.iload 7, 2) := by decide +kernel
theorem dX9_apart_180 : decode cX9_apart 180 = .ok (.goto 5, 3) := by decide +kernel
theorem dX9_apart_183 : decode cX9_apart 183 = .ok (.iload 5, 2) := by decide +kernel
theorem dX9_apart_185 : decode cX9_apart 185 = .ok (.istore 5, 2) := by decide +kernel
theorem dX9_apart_187 : decode cX9_apart 187 = .ok (.iinc 6 1, 3) := by decide +kernel
theorem dX9_apart_190 : decode cX9_apart 190 = .ok (.goto (-124), 3) := by decide +kernel
theorem dX9_apart_193 : decode cX9_apart 193 = .ok (.iload 5, 2) := by decide +kernel
theorem dX9_apart_195 : decode cX9_apart 195 = .ok (.ireturn, 1) := by decide +kernel
set_option maxRecDepth 20000 in
theorem ggX9_worth_X9_isPerson : GoodIn wsX9_worth wsX9_isPerson := goodIn_r _ [6, 1, 7, 8, 5, 9, 45, 46, 47, 48, 49, 50, 51, 52, 53, 54, 55, 56, 57, 58, 59, 60, 61, 62, 63, 64] (by decide +kernel) (by decide +kernel)
set_option maxRecDepth 20000 in
theorem gX9_worth_X9_isPerson : GoodIn wsX9_worth (wsV RX9 126 RX9 yX9_isPerson wsX9_isPerson) := goodIn_app (goodIn_of _ (by decide +kernel)) ggX9_worth_X9_isPerson
set_option maxRecDepth 20000 in
theorem ggX9_worth_X9_isSecret : GoodIn wsX9_worth wsX9_isSecret := goodIn_r _ [13, 1, 7, 8, 5, 9, 45, 46, 47, 48, 49, 50, 51, 52, 53, 54, 55, 56, 57, 58, 59, 60, 61, 62, 63, 64] (by decide +kernel) (by decide +kernel)
set_option maxRecDepth 20000 in
theorem gX9_worth_X9_isSecret : GoodIn wsX9_worth (wsV RX9 138 RX9 yX9_isSecret wsX9_isSecret) := goodIn_app (goodIn_of _ (by decide +kernel)) ggX9_worth_X9_isSecret
set_option maxRecDepth 20000 in
theorem ggX9_worth_X9_isAlive : GoodIn wsX9_worth wsX9_isAlive := goodIn_r _ [17, 18, 1, 45, 46, 47, 48, 49, 50, 51, 52, 53, 54, 55, 56, 57, 58, 59, 60, 61, 62, 63, 64] (by decide +kernel) (by decide +kernel)
set_option maxRecDepth 20000 in
theorem gX9_worth_X9_isAlive : GoodIn wsX9_worth (wsV RX9 116 RX9 yX9_isAlive wsX9_isAlive) := goodIn_app (goodIn_of _ (by decide +kernel)) ggX9_worth_X9_isAlive
set_option maxRecDepth 20000 in
theorem ggX9_worth_X9_knows : GoodIn wsX9_worth wsX9_knows := goodIn_r _ [22, 18, 45, 46, 47, 48, 49, 50, 51, 52, 53, 54, 55, 56, 57, 58, 59, 60, 61, 62, 63, 64] (by decide +kernel) (by decide +kernel)
set_option maxRecDepth 20000 in
theorem gX9_worth_X9_knows : GoodIn wsX9_worth (wsV RX9 122 RX9 yX9_knows wsX9_knows) := goodIn_app (goodIn_of _ (by decide +kernel)) ggX9_worth_X9_knows
set_option maxRecDepth 20000 in
theorem ggX9_worth_X9_met : GoodIn wsX9_worth wsX9_met := goodIn_r _ [26, 1, 14, 15, 16, 5, 17, 18, 27, 28, 29, 30, 45, 46, 47, 48, 49, 50, 51, 52, 53, 54, 55, 56, 57, 58, 59, 60, 61, 62, 63, 64] (by decide +kernel) (by decide +kernel)
set_option maxRecDepth 20000 in
theorem gX9_worth_X9_met : GoodIn wsX9_worth (wsV RX9 129 RX9 yX9_met wsX9_met) := goodIn_app (goodIn_of _ (by decide +kernel)) ggX9_worth_X9_met
set_option maxRecDepth 20000 in
theorem ggX9_worth_X9_shades : GoodIn wsX9_worth wsX9_shades := goodIn_r _ [34, 1, 35, 36, 37, 5, 38, 18, 39, 40, 41, 19, 20, 21, 22, 42, 43, 44, 14, 15, 16, 17, 45, 46, 47, 48, 49, 50, 51, 52, 53, 54, 55, 56, 57, 58, 59, 60, 61, 62, 63, 64] (by decide +kernel) (by decide +kernel)
set_option maxRecDepth 20000 in
theorem gX9_worth_X9_shades : GoodIn wsX9_worth (wsV RX9 151 RX9 yX9_shades wsX9_shades) := goodIn_app (goodIn_of _ (by decide +kernel)) ggX9_worth_X9_shades
theorem dX9_worth_0 : decode cX9_worth 0 = .ok (.aload_n 0, 1) := by decide +kernel
theorem dX9_worth_1 : decode cX9_worth 1 = .ok (.iload_n 1, 1) := by decide +kernel
theorem dX9_worth_2 : decode cX9_worth 2 = .ok (.invokevirtual 126, 3) := by decide +kernel
theorem dX9_worth_5 : decode cX9_worth 5 = .ok (.ifCond .eq 11, 3) := by decide +kernel
theorem dX9_worth_8 : decode cX9_worth 8 = .ok (.aload_n 0, 1) := by decide +kernel
theorem dX9_worth_9 : decode cX9_worth 9 = .ok (.iload_n 2, 1) := by decide +kernel
theorem dX9_worth_10 : decode cX9_worth 10 = .ok (.invokevirtual 138, 3) := by decide +kernel
theorem dX9_worth_13 : decode cX9_worth 13 = .ok (.ifCond .ne 5, 3) := by decide +kernel
theorem dX9_worth_16 : decode cX9_worth 16 = .ok (.iconst (-1), 1) := by decide +kernel
theorem dX9_worth_17 : decode cX9_worth 17 = .ok (.ireturn, 1) := by decide +kernel
theorem dX9_worth_18 : decode cX9_worth 18 = .ok (.aload_n 0, 1) := by decide +kernel
theorem dX9_worth_19 : decode cX9_worth 19 = .ok (.iload_n 1, 1) := by decide +kernel
theorem dX9_worth_20 : decode cX9_worth 20 = .ok (.invokevirtual 116, 3) := by decide +kernel
theorem dX9_worth_23 : decode cX9_worth 23 = .ok (.ifCond .eq 12, 3) := by decide +kernel
theorem dX9_worth_26 : decode cX9_worth 26 = .ok (.aload_n 0, 1) := by decide +kernel
theorem dX9_worth_27 : decode cX9_worth 27 = .ok (.iload_n 1, 1) := by decide +kernel
theorem dX9_worth_28 : decode cX9_worth 28 = .ok (.iload_n 2, 1) := by decide +kernel
theorem dX9_worth_29 : decode cX9_worth 29 = .ok (.invokevirtual 122, 3) := by decide +kernel
theorem dX9_worth_32 : decode cX9_worth 32 = .ok (.ifCond .ne 6, 3) := by decide +kernel
theorem dX9_worth_35 : decode cX9_worth 35 = .ok (.bipush (-2), 2) := by decide +kernel
theorem dX9_worth_37 : decode cX9_worth 37 = .ok (.ireturn, 1) := by decide +kernel
theorem dX9_worth_38 : decode cX9_worth 38 = .ok (.aload_n 0, 1) := by decide +kernel
theorem dX9_worth_39 : decode cX9_worth 39 = .ok (.iload_n 2, 1) := by decide +kernel
theorem dX9_worth_40 : decode cX9_worth 40 = .ok (.aload_n 0, 1) := by decide +kernel
theorem dX9_worth_41 : decode cX9_worth 41 = .ok (.iload_n 1, 1) := by decide +kernel
theorem dX9_worth_42 : decode cX9_worth 42 = .ok (.invokevirtual 129, 3) := by decide +kernel
theorem dX9_worth_45 : decode cX9_worth 45 = .ok (.invokevirtual 151, 3) := by decide +kernel
theorem dX9_worth_48 : decode cX9_worth 48 = .ok (.istore_n 3, 1) := by decide +kernel
theorem dX9_worth_49 : decode cX9_worth 49 = .ok (.aload_n 0, 1) := by decide +kernel
theorem dX9_worth_50 : decode cX9_worth 50 = .ok (.getfield 13, 3) := by decide +kernel
theorem dX9_worth_53 : decode cX9_worth 53 = .ok (.bipush 21, 2) := by decide +kernel
theorem dX9_worth_55 : decode cX9_worth 55 = .ok (.iload_n 2, 1) := by decide +kernel
theorem dX9_worth_56 : decode cX9_worth 56 = .ok (.iadd, 1) := by decide +kernel
theorem dX9_worth_57 : decode cX9_worth 57 = .ok (.iaload, 1) := by decide +kernel
theorem dX9_worth_58 : decode cX9_worth 58 = .ok (.iload_n 1, 1) := by decide +kernel
theorem dX9_worth_59 : decode cX9_worth 59 = .ok (.if_icmp .ne 9, 3) := by decide +kernel
theorem dX9_worth_62 : decode cX9_worth 62 = .ok (.iload_n 3, 1) := by decide +kernel
theorem dX9_worth_63 : decode cX9_worth 63 = .ok (.iconst 2, 1) := by decide +kernel
theorem dX9_worth_64 : decode cX9_worth 64 = .ok (.idiv, 1) := by decide +kernel
theorem dX9_worth_65 : decode cX9_worth 65 = .ok (.goto 4, 3) := by decide +kernel
theorem dX9_worth_68 : decode cX9_worth 68 = .ok (.iload_n 3, 1) := by decide +kernel
theorem dX9_worth_69 : decode cX9_worth 69 = .ok (.ireturn, 1) := by decide +kernel
set_option maxRecDepth 20000 in
theorem ggX9_witness_X9_isPerson : GoodIn wsX9_witness wsX9_isPerson := goodIn_r _ [7, 8, 9, 10, 6, 11, 16, 17, 18, 19, 20, 21, 22, 23, 24, 25, 26, 27, 28, 29, 30, 31, 32, 33, 34, 35] (by decide +kernel) (by decide +kernel)
set_option maxRecDepth 20000 in
theorem gX9_witness_X9_isPerson : GoodIn wsX9_witness (wsV RX9 126 RX9 yX9_isPerson wsX9_isPerson) := goodIn_app (goodIn_of _ (by decide +kernel)) ggX9_witness_X9_isPerson
set_option maxRecDepth 20000 in
theorem ggX9_witness_X9_isSecret : GoodIn wsX9_witness wsX9_isSecret := goodIn_r _ [15, 8, 9, 10, 6, 11, 16, 17, 18, 19, 20, 21, 22, 23, 24, 25, 26, 27, 28, 29, 30, 31, 32, 33, 34, 35] (by decide +kernel) (by decide +kernel)
set_option maxRecDepth 20000 in
theorem gX9_witness_X9_isSecret : GoodIn wsX9_witness (wsV RX9 138 RX9 yX9_isSecret wsX9_isSecret) := goodIn_app (goodIn_of _ (by decide +kernel)) ggX9_witness_X9_isSecret
theorem dX9_witness_0 : decode cX9_witness 0 = .ok (.aload_n 0, 1) := by decide +kernel
theorem dX9_witness_1 : decode cX9_witness 1 = .ok (.iload_n 1, 1) := by decide +kernel
theorem dX9_witness_2 : decode cX9_witness 2 = .ok (.invokevirtual 126, 3) := by decide +kernel
theorem dX9_witness_5 : decode cX9_witness 5 = .ok (.ifCond .eq 11, 3) := by decide +kernel
theorem dX9_witness_8 : decode cX9_witness 8 = .ok (.aload_n 0, 1) := by decide +kernel
theorem dX9_witness_9 : decode cX9_witness 9 = .ok (.iload_n 2, 1) := by decide +kernel
theorem dX9_witness_10 : decode cX9_witness 10 = .ok (.invokevirtual 138, 3) := by decide +kernel
theorem dX9_witness_13 : decode cX9_witness 13 = .ok (.ifCond .ne 5, 3) := by decide +kernel
theorem dX9_witness_16 : decode cX9_witness 16 = .ok (.iconst (-1), 1) := by decide +kernel
theorem dX9_witness_17 : decode cX9_witness 17 = .ok (.ireturn, 1) := by decide +kernel
theorem dX9_witness_18 : decode cX9_witness 18 = .ok (.aload_n 0, 1) := by decide +kernel
theorem dX9_witness_19 : decode cX9_witness 19 = .ok (.getfield 110, 3) := by decide +kernel
theorem dX9_witness_22 : decode cX9_witness 22 = .ok (.iconst 5, 1) := by decide +kernel
theorem dX9_witness_23 : decode cX9_witness 23 = .ok (.if_icmp .ne 6, 3) := by decide +kernel
theorem dX9_witness_26 : decode cX9_witness 26 = .ok (.bipush (-3), 2) := by decide +kernel
theorem dX9_witness_28 : decode cX9_witness 28 = .ok (.ireturn, 1) := by decide +kernel
theorem dX9_witness_29 : decode cX9_witness 29 = .ok (.aload_n 0, 1) := by decide +kernel
theorem dX9_witness_30 : decode cX9_witness 30 = .ok (.getfield 28, 3) := by decide +kernel
theorem dX9_witness_33 : decode cX9_witness 33 = .ok (.aload_n 0, 1) := by decide +kernel
theorem dX9_witness_34 : decode cX9_witness 34 = .ok (.getfield 110, 3) := by decide +kernel
theorem dX9_witness_37 : decode cX9_witness 37 = .ok (.bipush 8, 2) := by decide +kernel
theorem dX9_witness_39 : decode cX9_witness 39 = .ok (.iload_n 1, 1) := by decide +kernel
theorem dX9_witness_40 : decode cX9_witness 40 = .ok (.imul, 1) := by decide +kernel
theorem dX9_witness_41 : decode cX9_witness 41 = .ok (.iload_n 2, 1) := by decide +kernel
theorem dX9_witness_42 : decode cX9_witness 42 = .ok (.iadd, 1) := by decide +kernel
theorem dX9_witness_43 : decode cX9_witness 43 = .ok (.iastore, 1) := by decide +kernel
theorem dX9_witness_44 : decode cX9_witness 44 = .ok (.aload_n 0, 1) := by decide +kernel
theorem dX9_witness_45 : decode cX9_witness 45 = .ok (.dup, 1) := by decide +kernel
theorem dX9_witness_46 : decode cX9_witness 46 = .ok (.getfield 110, 3) := by decide +kernel
theorem dX9_witness_49 : decode cX9_witness 49 = .ok (.iconst 1, 1) := by decide +kernel
theorem dX9_witness_50 : decode cX9_witness 50 = .ok (.iadd, 1) := by decide +kernel
theorem dX9_witness_51 : decode cX9_witness 51 = .ok (.putfield 110, 3) := by decide +kernel
theorem dX9_witness_54 : decode cX9_witness 54 = .ok (.aload_n 0, 1) := by decide +kernel
theorem dX9_witness_55 : decode cX9_witness 55 = .ok (.getfield 110, 3) := by decide +kernel
theorem dX9_witness_58 : decode cX9_witness 58 = .ok (.ireturn, 1) := by decide +kernel
theorem dX9_dismiss_0 : decode cX9_dismiss 0 = .ok (.aload_n 0, 1) := by decide +kernel
theorem dX9_dismiss_1 : decode cX9_dismiss 1 = .ok (.getfield 110, 3) := by decide +kernel
theorem dX9_dismiss_4 : decode cX9_dismiss 4 = .ok (.istore_n 1, 1) := by decide +kernel
theorem dX9_dismiss_5 : decode cX9_dismiss 5 = .ok (.aload_n 0, 1) := by decide +kernel
theorem dX9_dismiss_6 : decode cX9_dismiss 6 = .ok (.iconst 0, 1) := by decide +kernel
theorem dX9_dismiss_7 : decode cX9_dismiss 7 = .ok (.putfield 110, 3) := by decide +kernel
theorem dX9_dismiss_10 : decode cX9_dismiss 10 = .ok (.iload_n 1, 1) := by decide +kernel
theorem dX9_dismiss_11 : decode cX9_dismiss 11 = .ok (.ireturn, 1) := by decide +kernel
theorem dX9_rows_0 : decode cX9_rows 0 = .ok (.iload_n 1, 1) := by decide +kernel
theorem dX9_rows_1 : decode cX9_rows 1 = .ok (.istore_n 2, 1) := by decide +kernel
theorem dX9_rows_2 : decode cX9_rows 2 = .ok (.iconst 0, 1) := by decide +kernel
theorem dX9_rows_3 : decode cX9_rows 3 = .ok (.istore_n 3, 1) := by decide +kernel
theorem dX9_rows_4 : decode cX9_rows 4 = .ok (.aload_n 0, 1) := by decide +kernel
theorem dX9_rows_5 : decode cX9_rows 5 = .ok (.getfield 110, 3) := by decide +kernel
theorem dX9_rows_8 : decode cX9_rows 8 = .ok (.iconst 1, 1) := by decide +kernel
theorem dX9_rows_9 : decode cX9_rows 9 = .ok (.isub, 1) := by decide +kernel
theorem dX9_rows_10 : decode cX9_rows 10 = .ok (.istore 4, 2) := by decide +kernel
theorem dX9_rows_12 : decode cX9_rows 12 = .ok (.iload 4, 2) := by decide +kernel
theorem dX9_rows_14 : decode cX9_rows 14 = .ok (.ifCond .lt 31, 3) := by decide +kernel
theorem dX9_rows_17 : decode cX9_rows 17 = .ok (.aload_n 0, 1) := by decide +kernel
theorem dX9_rows_18 : decode cX9_rows 18 = .ok (.getfield 40, 3) := by decide +kernel
theorem dX9_rows_21 : decode cX9_rows 21 = .ok (.iload 4, 2) := by decide +kernel
theorem dX9_rows_23 : decode cX9_rows 23 = .ok (.iload_n 2, 1) := by decide +kernel
theorem dX9_rows_24 : decode cX9_rows 24 = .ok (.iconst 5, 1) := by decide +kernel
theorem dX9_rows_25 : decode cX9_rows 25 = .ok (.irem, 1) := by decide +kernel
theorem dX9_rows_26 : decode cX9_rows 26 = .ok (.iastore, 1) := by decide +kernel
theorem dX9_rows_27 : decode cX9_rows 27 = .ok (.iload_n 3, 1) := by decide +kernel
theorem dX9_rows_28 : decode cX9_rows 28 = .ok (.iconst 1, 1) := by decide +kernel
theorem dX9_rows_29 : decode cX9_rows 29 = .ok (.iload_n 2, 1) := by decide +kernel
theorem dX9_rows_30 : decode cX9_rows 30 = .ok (.iconst 5, 1) := by decide +kernel
theorem dX9_rows_31 : decode cX9_rows 31 = .ok (.irem, 1) := by decide +kernel
theorem dX9_rows_32 : decode cX9_rows 32 = .ok (.ishl, 1) := by decide +kernel
theorem dX9_rows_33 : decode cX9_rows 33 = .ok (.ior, 1) := by decide +kernel
theorem dX9_rows_34 : decode cX9_rows 34 = .ok (.istore_n 3, 1) := by decide +kernel
theorem dX9_rows_35 : decode cX9_rows 35 = .ok (.iload_n 2, 1) := by decide +kernel
theorem dX9_rows_36 : decode cX9_rows 36 = .ok (.iconst 5, 1) := by decide +kernel
theorem dX9_rows_37 : decode cX9_rows 37 = .ok (.idiv, 1) := by decide +kernel
theorem dX9_rows_38 : decode cX9_rows 38 = .ok (.istore_n 2, 1) := by decide +kernel
theorem dX9_rows_39 : decode cX9_rows 39 = .ok (.iinc 4 (-1), 3) := by decide +kernel
theorem dX9_rows_42 : decode cX9_rows 42 = .ok (.goto (-30), 3) := by decide +kernel
theorem dX9_rows_45 : decode cX9_rows 45 = .ok (.iload_n 3, 1) := by decide +kernel
theorem dX9_rows_46 : decode cX9_rows 46 = .ok (.iconst 1, 1) := by decide +kernel
theorem dX9_rows_47 : decode cX9_rows 47 = .ok (.aload_n 0, 1) := by decide +kernel
theorem dX9_rows_48 : decode cX9_rows 48 = .ok (.getfield 110, 3) := by decide +kernel
theorem dX9_rows_51 : decode cX9_rows 51 = .ok (.ishl, 1) := by decide +kernel
theorem dX9_rows_52 : decode cX9_rows 52 = .ok (.iconst 1, 1) := by decide +kernel
theorem dX9_rows_53 : decode cX9_rows 53 = .ok (.isub, 1) := by decide +kernel
theorem dX9_rows_54 : decode cX9_rows 54 = .ok (.if_icmp .ne 7, 3) := by decide +kernel
theorem dX9_rows_57 : decode cX9_rows 57 = .ok (.iconst 1, 1) := by decide +kernel
theorem dX9_rows_58 : decode cX9_rows 58 = .ok (.goto 4, 3) := by decide +kernel
theorem dX9_rows_61 : decode cX9_rows 61 = .ok (.iconst 0, 1) := by decide +kernel
theorem dX9_rows_62 : decode cX9_rows 62 = .ok (.ireturn, 1) := by decide +kernel
set_option maxRecDepth 20000 in
theorem ggX9_growsBy_X9_holds : GoodIn wsX9_growsBy wsX9_holds := goodIn_r _ [11, 6, 5, 46, 47, 48, 49, 50, 51, 52, 53, 54, 55, 56, 57, 58, 59, 60, 61, 62, 63, 64, 65] (by decide +kernel) (by decide +kernel)
set_option maxRecDepth 20000 in
theorem gX9_growsBy_X9_holds : GoodIn wsX9_growsBy (wsV RX9 164 RX9 yX9_holds wsX9_holds) := goodIn_app (goodIn_of _ (by decide +kernel)) ggX9_growsBy_X9_holds
set_option maxRecDepth 20000 in
theorem ggX9_growsBy_X9_alive : GoodIn wsX9_growsBy wsX9_alive := goodIn_r _ [15, 4, 16, 17, 18, 10, 19, 5, 46, 47, 48, 49, 50, 51, 52, 53, 54, 55, 56, 57, 58, 59, 60, 61, 62, 63, 64, 65] (by decide +kernel) (by decide +kernel)
set_option maxRecDepth 20000 in
theorem gX9_growsBy_X9_alive : GoodIn wsX9_growsBy (wsV RX9 119 RX9 yX9_alive wsX9_alive) := goodIn_app (goodIn_of _ (by decide +kernel)) ggX9_growsBy_X9_alive
set_option maxRecDepth 20000 in
theorem ggX9_growsBy_X9_isAlive : GoodIn wsX9_growsBy wsX9_isAlive := goodIn_r _ [19, 5, 4, 46, 47, 48, 49, 50, 51, 52, 53, 54, 55, 56, 57, 58, 59, 60, 61, 62, 63, 64, 65] (by decide +kernel) (by decide +kernel)
set_option maxRecDepth 20000 in
theorem gX9_growsBy_X9_isAlive : GoodIn wsX9_growsBy (wsV RX9 116 RX9 yX9_isAlive wsX9_isAlive) := goodIn_app (goodIn_of _ (by decide +kernel)) ggX9_growsBy_X9_isAlive
set_option maxRecDepth 20000 in
theorem ggX9_growsBy_X9_knows : GoodIn wsX9_growsBy wsX9_knows := goodIn_r _ [23, 5, 46, 47, 48, 49, 50, 51, 52, 53, 54, 55, 56, 57, 58, 59, 60, 61, 62, 63, 64, 65] (by decide +kernel) (by decide +kernel)
set_option maxRecDepth 20000 in
theorem gX9_growsBy_X9_knows : GoodIn wsX9_growsBy (wsV RX9 122 RX9 yX9_knows wsX9_knows) := goodIn_app (goodIn_of _ (by decide +kernel)) ggX9_growsBy_X9_knows
set_option maxRecDepth 20000 in
theorem ggX9_growsBy_X9_tells : GoodIn wsX9_growsBy wsX9_tells := goodIn_r _ [27, 4, 5, 28, 29, 30, 10, 31, 32, 33, 34, 35, 36, 37, 38, 20, 21, 22, 23, 39, 40, 41, 16, 17, 18, 19, 46, 47, 48, 49, 50, 51, 52, 53, 54, 55, 56, 57, 58, 59, 60, 61, 62, 63, 64, 65] (by decide +kernel) (by decide +kernel)
set_option maxRecDepth 20000 in
theorem gX9_growsBy_X9_tells : GoodIn wsX9_growsBy (wsV RX9 157 RX9 yX9_tells wsX9_tells) := goodIn_app (goodIn_of _ (by decide +kernel)) ggX9_growsBy_X9_tells
set_option maxRecDepth 20000 in
theorem ggX9_growsBy_X9_lets : GoodIn wsX9_growsBy wsX9_lets := goodIn_r _ [45, 5, 6, 46, 47, 48, 49, 50, 51, 52, 53, 54, 55, 56, 57, 58, 59, 60, 61, 62, 63, 64, 65] (by decide +kernel) (by decide +kernel)
set_option maxRecDepth 20000 in
theorem gX9_growsBy_X9_lets : GoodIn wsX9_growsBy (wsV RX9 167 RX9 yX9_lets wsX9_lets) := goodIn_app (goodIn_of _ (by decide +kernel)) ggX9_growsBy_X9_lets
theorem dX9_growsBy_0 : decode cX9_growsBy 0 = .ok (.aload_n 0, 1) := by decide +kernel
theorem dX9_growsBy_1 : decode cX9_growsBy 1 = .ok (.invokevirtual 164, 3) := by decide +kernel
theorem dX9_growsBy_4 : decode cX9_growsBy 4 = .ok (.iconst 0, 1) := by decide +kernel
theorem dX9_growsBy_5 : decode cX9_growsBy 5 = .ok (.istore_n 1, 1) := by decide +kernel
theorem dX9_growsBy_6 : decode cX9_growsBy 6 = .ok (.iload_n 1, 1) := by decide +kernel
theorem dX9_growsBy_7 : decode cX9_growsBy 7 = .ok (.aload_n 0, 1) := by decide +kernel
theorem dX9_growsBy_8 : decode cX9_growsBy 8 = .ok (.getfield 110, 3) := by decide +kernel
theorem dX9_growsBy_11 : decode cX9_growsBy 11 = .ok (.if_icmp .ge 125, 3) := by decide +kernel
theorem dX9_growsBy_14 : decode cX9_growsBy 14 = .ok (.aload_n 0, 1) := by decide +kernel
theorem dX9_growsBy_15 : decode cX9_growsBy 15 = .ok (.getfield 28, 3) := by decide +kernel
theorem dX9_growsBy_18 : decode cX9_growsBy 18 = .ok (.aload_n 0, 1) := by decide +kernel
theorem dX9_growsBy_19 : decode cX9_growsBy 19 = .ok (.getfield 40, 3) := by decide +kernel
theorem dX9_growsBy_22 : decode cX9_growsBy 22 = .ok (.iload_n 1, 1) := by decide +kernel
theorem dX9_growsBy_23 : decode cX9_growsBy 23 = .ok (.iaload, 1) := by decide +kernel
theorem dX9_growsBy_24 : decode cX9_growsBy 24 = .ok (.iaload, 1) := by decide +kernel
theorem dX9_growsBy_25 : decode cX9_growsBy 25 = .ok (.bipush 8, 2) := by decide +kernel
theorem dX9_growsBy_27 : decode cX9_growsBy 27 = .ok (.idiv, 1) := by decide +kernel
theorem dX9_growsBy_28 : decode cX9_growsBy 28 = .ok (.istore_n 2, 1) := by decide +kernel
theorem dX9_growsBy_29 : decode cX9_growsBy 29 = .ok (.aload_n 0, 1) := by decide +kernel
theorem dX9_growsBy_30 : decode cX9_growsBy 30 = .ok (.getfield 28, 3) := by decide +kernel
theorem dX9_growsBy_33 : decode cX9_growsBy 33 = .ok (.aload_n 0, 1) := by decide +kernel
theorem dX9_growsBy_34 : decode cX9_growsBy 34 = .ok (.getfield 40, 3) := by decide +kernel
theorem dX9_growsBy_37 : decode cX9_growsBy 37 = .ok (.iload_n 1, 1) := by decide +kernel
theorem dX9_growsBy_38 : decode cX9_growsBy 38 = .ok (.iaload, 1) := by decide +kernel
theorem dX9_growsBy_39 : decode cX9_growsBy 39 = .ok (.iaload, 1) := by decide +kernel
theorem dX9_growsBy_40 : decode cX9_growsBy 40 = .ok (.bipush 8, 2) := by decide +kernel
theorem dX9_growsBy_42 : decode cX9_growsBy 42 = .ok (.irem, 1) := by decide +kernel
theorem dX9_growsBy_43 : decode cX9_growsBy 43 = .ok (.istore_n 3, 1) := by decide +kernel
theorem dX9_growsBy_44 : decode cX9_growsBy 44 = .ok (.iconst 0, 1) := by decide +kernel
theorem dX9_growsBy_45 : decode cX9_growsBy 45 = .ok (.istore 4, 2) := by decide +kernel
theorem dX9_growsBy_47 : decode cX9_growsBy 47 = .ok (.iload_n 1, 1) := by decide +kernel
theorem dX9_growsBy_48 : decode cX9_growsBy 48 = .ok (.iconst 1, 1) := by decide +kernel
theorem dX9_growsBy_49 : decode cX9_growsBy 49 = .ok (.iadd, 1) := by decide +kernel
theorem dX9_growsBy_50 : decode cX9_growsBy 50 = .ok (.istore 5, 2) := by decide +kernel
theorem dX9_growsBy_52 : decode cX9_growsBy 52 = .ok (.iload 5, 2) := by decide +kernel
theorem dX9_growsBy_54 : decode cX9_growsBy 54 = .ok (.aload_n 0, 1) := by decide +kernel
theorem dX9_growsBy_55 : decode cX9_growsBy 55 = .ok (.getfield 110, 3) := by decide +kernel
theorem dX9_growsBy_58 : decode cX9_growsBy 58 = .ok (.if_icmp .ge 31, 3) := by decide +kernel
theorem dX9_growsBy_61 : decode cX9_growsBy 61 = .ok (.iload 4, 2) := by decide +kernel
theorem dX9_growsBy_63 : decode cX9_growsBy 63 = .ok (.iconst 1, 1) := by decide +kernel
theorem dX9_growsBy_64 : decode cX9_growsBy 64 = .ok (.aload_n 0, 1) := by decide +kernel
theorem dX9_growsBy_65 : decode cX9_growsBy 65 = .ok (.getfield 28, 3) := by decide +kernel
theorem dX9_growsBy_68 : decode cX9_growsBy 68 = .ok (.aload_n 0, 1) := by decide +kernel
theorem dX9_growsBy_69 : decode cX9_growsBy 69 = .ok (.getfield 40, 3) := by decide +kernel
theorem dX9_growsBy_72 : decode cX9_growsBy 72 = .ok (.iload 5, 2) := by decide +kernel
theorem dX9_growsBy_74 : decode cX9_growsBy 74 = .ok (.iaload, 1) := by decide +kernel
theorem dX9_growsBy_75 : decode cX9_growsBy 75 = .ok (.iaload, 1) := by decide +kernel
theorem dX9_growsBy_76 : decode cX9_growsBy 76 = .ok (.bipush 8, 2) := by decide +kernel
theorem dX9_growsBy_78 : decode cX9_growsBy 78 = .ok (.idiv, 1) := by decide +kernel
theorem dX9_growsBy_79 : decode cX9_growsBy 79 = .ok (.ishl, 1) := by decide +kernel
theorem dX9_growsBy_80 : decode cX9_growsBy 80 = .ok (.ior, 1) := by decide +kernel
theorem dX9_growsBy_81 : decode cX9_growsBy 81 = .ok (.istore 4, 2) := by decide +kernel
theorem dX9_growsBy_83 : decode cX9_growsBy 83 = .ok (.iinc 5 1, 3) := by decide +kernel
theorem dX9_growsBy_86 : decode cX9_growsBy 86 = .ok (.goto (-34), 3) := by decide +kernel
theorem dX9_growsBy_89 : decode cX9_growsBy 89 = .ok (.iload 4, 2) := by decide +kernel
theorem dX9_growsBy_91 : decode cX9_growsBy 91 = .ok (.aload_n 0, 1) := by decide +kernel
theorem dX9_growsBy_92 : decode cX9_growsBy 92 = .ok (.invokevirtual 119, 3) := by decide +kernel
theorem dX9_growsBy_95 : decode cX9_growsBy 95 = .ok (.iand, 1) := by decide +kernel
theorem dX9_growsBy_96 : decode cX9_growsBy 96 = .ok (.iconst 1, 1) := by decide +kernel
theorem dX9_growsBy_97 : decode cX9_growsBy 97 = .ok (.iload_n 2, 1) := by decide +kernel
theorem dX9_growsBy_98 : decode cX9_growsBy 98 = .ok (.ishl, 1) := by decide +kernel
theorem dX9_growsBy_99 : decode cX9_growsBy 99 = .ok (.iconst (-1), 1) := by decide +kernel
theorem dX9_growsBy_100 : decode cX9_growsBy 100 = .ok (.ixor, 1) := by decide +kernel
theorem dX9_growsBy_101 : decode cX9_growsBy 101 = .ok (.iand, 1) := by decide +kernel
theorem dX9_growsBy_102 : decode cX9_growsBy 102 = .ok (.istore 4, 2) := by decide +kernel
theorem dX9_growsBy_104 : decode cX9_growsBy 104 = .ok (.aload_n 0, 1) := by decide +kernel
theorem dX9_growsBy_105 : decode cX9_growsBy 105 = .ok (.iload_n 2, 1) := by decide +kernel
theorem dX9_growsBy_106 : decode cX9_growsBy 106 = .ok (.invokevirtual 116, 3) := by decide +kernel
theorem dX9_growsBy_109 : decode cX9_growsBy 109 = .ok (.ifCond .eq 21, 3) := by decide +kernel
theorem dX9_growsBy_112 : decode cX9_growsBy 112 = .ok (.aload_n 0, 1) := by decide +kernel
theorem dX9_growsBy_113 : decode cX9_growsBy 113 = .ok (.iload_n 2, 1) := by decide +kernel
theorem dX9_growsBy_114 : decode cX9_growsBy 114 = .ok (.iload_n 3, 1) := by decide +kernel
theorem dX9_growsBy_115 : decode cX9_growsBy 115 = .ok (.invokevirtual 122, 3) := by decide +kernel
theorem dX9_growsBy_118 : decode cX9_growsBy 118 = .ok (.ifCond .eq 12, 3) := by decide +kernel
theorem dX9_growsBy_121 : decode cX9_growsBy 121 = .ok (.aload_n 0, 1) := by decide +kernel
theorem dX9_growsBy_122 : decode cX9_growsBy 122 = .ok (.iload_n 2, 1) := by decide +kernel
theorem dX9_growsBy_123 : decode cX9_growsBy 123 = .ok (.iload_n 3, 1) := by decide +kernel
theorem dX9_growsBy_124 : decode cX9_growsBy 124 = .ok (.iload 4, 2) := by decide +kernel
theorem dX9_growsBy_126 : decode cX9_growsBy 126 = .ok (.invokevirtual 157, 3) := by decide +kernel
theorem dX9_growsBy_129 : decode cX9_growsBy 129 = .ok (.pop, 1) := by decide +kernel
theorem dX9_growsBy_130 : decode cX9_growsBy 130 = .ok (.iinc 1 1, 3) := by decide +kernel
theorem dX9_growsBy_133 : decode cX9_growsBy 133 = .ok (.goto (-127), 3) := by decide +kernel
theorem dX9_growsBy_136 : decode cX9_growsBy 136 = .ok (.iconst 0, 1) := by decide +kernel
theorem dX9_growsBy_137 : decode cX9_growsBy 137 = .ok (.istore_n 1, 1) := by decide +kernel
theorem dX9_growsBy_138 : decode cX9_growsBy 138 = .ok (.iconst 0, 1) := by decide +kernel
theorem dX9_growsBy_139 : decode cX9_growsBy 139 = .ok (.istore_n 2, 1) := by decide +kernel
theorem dX9_growsBy_140 : decode cX9_growsBy 140 = .ok (.iload_n 2, 1) := by decide +kernel
theorem dX9_growsBy_141 : decode cX9_growsBy 141 = .ok (.aload_n 0, 1) := by decide +kernel
theorem dX9_growsBy_142 : decode cX9_growsBy 142 = .ok (.getfield 13, 3) := by decide +kernel
theorem dX9_growsBy_145 : decode cX9_growsBy 145 = .ok (.iconst 0, 1) := by decide +kernel
theorem dX9_growsBy_146 : decode cX9_growsBy 146 = .ok (.iaload, 1) := by decide +kernel
theorem dX9_growsBy_147 : decode cX9_growsBy 147 = .ok (.if_icmp .ge 25, 3) := by decide +kernel
theorem dX9_growsBy_150 : decode cX9_growsBy 150 = .ok (.iload_n 1, 1) := by decide +kernel
theorem dX9_growsBy_151 : decode cX9_growsBy 151 = .ok (.aload_n 0, 1) := by decide +kernel
theorem dX9_growsBy_152 : decode cX9_growsBy 152 = .ok (.getfield 19, 3) := by decide +kernel
theorem dX9_growsBy_155 : decode cX9_growsBy 155 = .ok (.iload_n 2, 1) := by decide +kernel
theorem dX9_growsBy_156 : decode cX9_growsBy 156 = .ok (.iaload, 1) := by decide +kernel
theorem dX9_growsBy_157 : decode cX9_growsBy 157 = .ok (.aload_n 0, 1) := by decide +kernel
theorem dX9_growsBy_158 : decode cX9_growsBy 158 = .ok (.getfield 34, 3) := by decide +kernel
theorem dX9_growsBy_161 : decode cX9_growsBy 161 = .ok (.iload_n 2, 1) := by decide +kernel
theorem dX9_growsBy_162 : decode cX9_growsBy 162 = .ok (.iaload, 1) := by decide +kernel
theorem dX9_growsBy_163 : decode cX9_growsBy 163 = .ok (.isub, 1) := by decide +kernel
theorem dX9_growsBy_164 : decode cX9_growsBy 164 = .ok (.iadd, 1) := by decide +kernel
theorem dX9_growsBy_165 : decode cX9_growsBy 165 = .ok (.istore_n 1, 1) := by decide +kernel
theorem dX9_growsBy_166 : decode cX9_growsBy 166 = .ok (.iinc 2 1, 3) := by decide +kernel
theorem dX9_growsBy_169 : decode cX9_growsBy 169 = .ok (.goto (-29), 3) := by decide +kernel
theorem dX9_growsBy_172 : decode cX9_growsBy 172 = .ok (.aload_n 0, 1) := by decide +kernel
theorem dX9_growsBy_173 : decode cX9_growsBy 173 = .ok (.invokevirtual 167, 3) := by decide +kernel
theorem dX9_growsBy_176 : decode cX9_growsBy 176 = .ok (.iload_n 1, 1) := by decide +kernel
theorem dX9_growsBy_177 : decode cX9_growsBy 177 = .ok (.ireturn, 1) := by decide +kernel
set_option maxRecDepth 20000 in
theorem ggX9_order_X9_in : GoodIn wsX9_order wsX9_in := goodIn_r _ [7] (by decide +kernel) (by decide +kernel)
set_option maxRecDepth 20000 in
theorem gX9_order_X9_in : GoodIn wsX9_order (va_wsS RX9 62 yX9_in wsX9_in) := goodIn_app (goodIn_of _ (by decide +kernel)) ggX9_order_X9_in
set_option maxRecDepth 20000 in
theorem ggX9_order_X9_rows : GoodIn wsX9_order wsX9_rows := goodIn_r _ [11, 1, 3, 58, 59, 60, 61, 62, 63, 64, 65, 66, 67, 68, 69, 70, 71, 72, 73, 74, 75, 76, 77] (by decide +kernel) (by decide +kernel)
set_option maxRecDepth 20000 in
theorem gX9_order_X9_rows : GoodIn wsX9_order (wsV RX9 173 RX9 yX9_rows wsX9_rows) := goodIn_app (goodIn_of _ (by decide +kernel)) ggX9_order_X9_rows
set_option maxRecDepth 20000 in
theorem ggX9_order_X9_growsBy : GoodIn wsX9_order wsX9_growsBy := goodIn_r _ [15, 1, 16, 3, 17, 18, 19, 20, 21, 22, 6, 23, 24, 25, 26, 27, 28, 29, 30, 31, 32, 33, 34, 35, 36, 37, 38, 39, 40, 41, 42, 43, 44, 45, 46, 47, 48, 49, 50, 51, 52, 53, 54, 55, 56, 57, 58, 59, 60, 61, 62, 63, 64, 65, 66, 67, 68, 69, 70, 71, 72, 73, 74, 75, 76, 77] (by decide +kernel) (by decide +kernel)
set_option maxRecDepth 20000 in
theorem gX9_order_X9_growsBy : GoodIn wsX9_order (wsV RX9 176 RX9 yX9_growsBy wsX9_growsBy) := goodIn_app (goodIn_of _ (by decide +kernel)) ggX9_order_X9_growsBy
theorem dX9_order_0 : decode cX9_order 0 = .ok (.iload_n 1, 1) := by decide +kernel
theorem dX9_order_1 : decode cX9_order 1 = .ok (.iconst (-1), 1) := by decide +kernel
theorem dX9_order_2 : decode cX9_order 2 = .ok (.aload_n 0, 1) := by decide +kernel
theorem dX9_order_3 : decode cX9_order 3 = .ok (.getfield 110, 3) := by decide +kernel
theorem dX9_order_6 : decode cX9_order 6 = .ok (.iconst 1, 1) := by decide +kernel
theorem dX9_order_7 : decode cX9_order 7 = .ok (.isub, 1) := by decide +kernel
theorem dX9_order_8 : decode cX9_order 8 = .ok (.invokestatic 62, 3) := by decide +kernel
theorem dX9_order_11 : decode cX9_order 11 = .ok (.ifCond .ne 5, 3) := by decide +kernel
theorem dX9_order_14 : decode cX9_order 14 = .ok (.iconst (-1), 1) := by decide +kernel
theorem dX9_order_15 : decode cX9_order 15 = .ok (.ireturn, 1) := by decide +kernel
theorem dX9_order_16 : decode cX9_order 16 = .ok (.iconst 1, 1) := by decide +kernel
theorem dX9_order_17 : decode cX9_order 17 = .ok (.istore_n 2, 1) := by decide +kernel
theorem dX9_order_18 : decode cX9_order 18 = .ok (.iconst 0, 1) := by decide +kernel
theorem dX9_order_19 : decode cX9_order 19 = .ok (.istore_n 3, 1) := by decide +kernel
theorem dX9_order_20 : decode cX9_order 20 = .ok (.iload_n 3, 1) := by decide +kernel
theorem dX9_order_21 : decode cX9_order 21 = .ok (.aload_n 0, 1) := by decide +kernel
theorem dX9_order_22 : decode cX9_order 22 = .ok (.getfield 110, 3) := by decide +kernel
theorem dX9_order_25 : decode cX9_order 25 = .ok (.if_icmp .ge 13, 3) := by decide +kernel
theorem dX9_order_28 : decode cX9_order 28 = .ok (.iload_n 2, 1) := by decide +kernel
theorem dX9_order_29 : decode cX9_order 29 = .ok (.iconst 5, 1) := by decide +kernel
theorem dX9_order_30 : decode cX9_order 30 = .ok (.imul, 1) := by decide +kernel
theorem dX9_order_31 : decode cX9_order 31 = .ok (.istore_n 2, 1) := by decide +kernel
theorem dX9_order_32 : decode cX9_order 32 = .ok (.iinc 3 1, 3) := by decide +kernel
theorem dX9_order_35 : decode cX9_order 35 = .ok (.goto (-15), 3) := by decide +kernel
theorem dX9_order_38 : decode cX9_order 38 = .ok (.iconst (-1), 1) := by decide +kernel
theorem dX9_order_39 : decode cX9_order 39 = .ok (.istore_n 3, 1) := by decide +kernel
theorem dX9_order_40 : decode cX9_order 40 = .ok (.iconst 0, 1) := by decide +kernel
theorem dX9_order_41 : decode cX9_order 41 = .ok (.istore 4, 2) := by decide +kernel
theorem dX9_order_43 : decode cX9_order 43 = .ok (.iload 4, 2) := by decide +kernel
theorem dX9_order_45 : decode cX9_order 45 = .ok (.iload_n 2, 1) := by decide +kernel
theorem dX9_order_46 : decode cX9_order 46 = .ok (.if_icmp .ge 78, 3) := by decide +kernel
theorem dX9_order_49 : decode cX9_order 49 = .ok (.aload_n 0, 1) := by decide +kernel
theorem dX9_order_50 : decode cX9_order 50 = .ok (.iload 4, 2) := by decide +kernel
theorem dX9_order_52 : decode cX9_order 52 = .ok (.invokevirtual 173, 3) := by decide +kernel
theorem dX9_order_55 : decode cX9_order 55 = .ok (.ifCond .eq 10, 3) := by decide +kernel
theorem dX9_order_58 : decode cX9_order 58 = .ok (.aload_n 0, 1) := by decide +kernel
theorem dX9_order_59 : decode cX9_order 59 = .ok (.invokevirtual 176, 3) := by decide +kernel
theorem dX9_order_62 : decode cX9_order 62 = .ok (.goto 4, 3) := by decide +kernel
theorem dX9_order_65 : decode cX9_order 65 = .ok (.iconst (-1), 1) := by decide +kernel
theorem dX9_order_66 : decode cX9_order 66 = .ok (.istore 5, 2) := by decide +kernel
theorem dX9_order_68 : decode cX9_order 68 = .ok (.iload 5, 2) := by decide +kernel
theorem dX9_order_70 : decode cX9_order 70 = .ok (.ifCond .lt 48, 3) := by decide +kernel
theorem dX9_order_73 : decode cX9_order 73 = .ok (.iload_n 3, 1) := by decide +kernel
theorem dX9_order_74 : decode cX9_order 74 = .ok (.ifCond .lt 9, 3) := by decide +kernel
theorem dX9_order_77 : decode cX9_order 77 = .ok (.iload 5, 2) := by decide +kernel
theorem dX9_order_79 : decode cX9_order 79 = .ok (.iload_n 3, 1) := by decide +kernel
theorem dX9_order_80 : decode cX9_order 80 = .ok (.if_icmp .ge 38, 3) := by decide +kernel
theorem dX9_order_83 : decode cX9_order 83 = .ok (.iload 5, 2) := by decide +kernel
theorem dX9_order_85 : decode cX9_order 85 = .ok (.istore_n 3, 1) := by decide +kernel
theorem dX9_order_86 : decode cX9_order 86 = .ok (.iconst 0, 1) := by decide +kernel
theorem dX9_order_87 : decode cX9_order 87 = .ok (.istore 6, 2) := by decide +kernel
theorem dX9_order_89 : decode cX9_order 89 = .ok (.iload 6, 2) := by decide +kernel
theorem dX9_order_91 : decode cX9_order 91 = .ok (.aload_n 0, 1) := by decide +kernel
theorem dX9_order_92 : decode cX9_order 92 = .ok (.getfield 110, 3) := by decide +kernel
theorem dX9_order_95 : decode cX9_order 95 = .ok (.if_icmp .ge 23, 3) := by decide +kernel
theorem dX9_order_98 : decode cX9_order 98 = .ok (.aload_n 0, 1) := by decide +kernel
theorem dX9_order_99 : decode cX9_order 99 = .ok (.getfield 43, 3) := by decide +kernel
theorem dX9_order_102 : decode cX9_order 102 = .ok (.iload 6, 2) := by decide +kernel
theorem dX9_order_104 : decode cX9_order 104 = .ok (.aload_n 0, 1) := by decide +kernel
theorem dX9_order_105 : decode cX9_order 105 = .ok (.getfield 40, 3) := by decide +kernel
theorem dX9_order_108 : decode cX9_order 108 = .ok (.iload 6, 2) := by decide +kernel
theorem dX9_order_110 : decode cX9_order 110 = .ok (.iaload, 1) := by decide +kernel
theorem dX9_order_111 : decode cX9_order 111 = .ok (.iastore, 1) := by decide +kernel
theorem dX9_order_112 : decode cX9_order 112 = .ok (.iinc 6 1, 3) := by decide +kernel
theorem dX9_order_115 : decode cX9_order 115 = .ok (.goto (-26), 3) := by decide +kernel
theorem dX9_order_118 : decode cX9_order 118 = .ok (.iinc 4 1, 3) := by decide +kernel
theorem dX9_order_121 : decode cX9_order 121 = .ok (.goto (-78), 3) := by decide +kernel
theorem dX9_order_124 : decode cX9_order 124 = .ok (.iload_n 1, 1) := by decide +kernel
theorem dX9_order_125 : decode cX9_order 125 = .ok (.iconst (-1), 1) := by decide +kernel
theorem dX9_order_126 : decode cX9_order 126 = .ok (.if_icmp .ne 7, 3) := by decide +kernel
theorem dX9_order_129 : decode cX9_order 129 = .ok (.iload_n 3, 1) := by decide +kernel
theorem dX9_order_130 : decode cX9_order 130 = .ok (.goto 9, 3) := by decide +kernel
theorem dX9_order_133 : decode cX9_order 133 = .ok (.aload_n 0, 1) := by decide +kernel
theorem dX9_order_134 : decode cX9_order 134 = .ok (.getfield 43, 3) := by decide +kernel
theorem dX9_order_137 : decode cX9_order 137 = .ok (.iload_n 1, 1) := by decide +kernel
theorem dX9_order_138 : decode cX9_order 138 = .ok (.iaload, 1) := by decide +kernel
theorem dX9_order_139 : decode cX9_order 139 = .ok (.ireturn, 1) := by decide +kernel
set_option maxRecDepth 20000 in
theorem ggX9_confession_X9_in : GoodIn wsX9_confession wsX9_in := goodIn_r _ [7] (by decide +kernel) (by decide +kernel)
set_option maxRecDepth 20000 in
theorem gX9_confession_X9_in : GoodIn wsX9_confession (va_wsS RX9 62 yX9_in wsX9_in) := goodIn_app (goodIn_of _ (by decide +kernel)) ggX9_confession_X9_in
theorem dX9_confession_0 : decode cX9_confession 0 = .ok (.iload_n 1, 1) := by decide +kernel
theorem dX9_confession_1 : decode cX9_confession 1 = .ok (.iconst 0, 1) := by decide +kernel
theorem dX9_confession_2 : decode cX9_confession 2 = .ok (.bipush 9, 2) := by decide +kernel
theorem dX9_confession_4 : decode cX9_confession 4 = .ok (.invokestatic 62, 3) := by decide +kernel
theorem dX9_confession_7 : decode cX9_confession 7 = .ok (.ifCond .eq 43, 3) := by decide +kernel
theorem dX9_confession_10 : decode cX9_confession 10 = .ok (.iload_n 2, 1) := by decide +kernel
theorem dX9_confession_11 : decode cX9_confession 11 = .ok (.iconst 0, 1) := by decide +kernel
theorem dX9_confession_12 : decode cX9_confession 12 = .ok (.iconst 2, 1) := by decide +kernel
theorem dX9_confession_13 : decode cX9_confession 13 = .ok (.invokestatic 62, 3) := by decide +kernel
theorem dX9_confession_16 : decode cX9_confession 16 = .ok (.ifCond .eq 34, 3) := by decide +kernel
theorem dX9_confession_19 : decode cX9_confession 19 = .ok (.iload_n 3, 1) := by decide +kernel
theorem dX9_confession_20 : decode cX9_confession 20 = .ok (.iconst 0, 1) := by decide +kernel
theorem dX9_confession_21 : decode cX9_confession 21 = .ok (.bipush 10, 2) := by decide +kernel
theorem dX9_confession_23 : decode cX9_confession 23 = .ok (.invokestatic 62, 3) := by decide +kernel
theorem dX9_confession_26 : decode cX9_confession 26 = .ok (.ifCond .eq 24, 3) := by decide +kernel
theorem dX9_confession_29 : decode cX9_confession 29 = .ok (.iload 4, 2) := by decide +kernel
theorem dX9_confession_31 : decode cX9_confession 31 = .ok (.iconst 0, 1) := by decide +kernel
theorem dX9_confession_32 : decode cX9_confession 32 = .ok (.bipush 12, 2) := by decide +kernel
theorem dX9_confession_34 : decode cX9_confession 34 = .ok (.invokestatic 62, 3) := by decide +kernel
theorem dX9_confession_37 : decode cX9_confession 37 = .ok (.ifCond .eq 13, 3) := by decide +kernel
theorem dX9_confession_40 : decode cX9_confession 40 = .ok (.iload 5, 2) := by decide +kernel
theorem dX9_confession_42 : decode cX9_confession 42 = .ok (.iconst 0, 1) := by decide +kernel
theorem dX9_confession_43 : decode cX9_confession 43 = .ok (.iconst 2, 1) := by decide +kernel
theorem dX9_confession_44 : decode cX9_confession 44 = .ok (.invokestatic 62, 3) := by decide +kernel
theorem dX9_confession_47 : decode cX9_confession 47 = .ok (.ifCond .ne 7, 3) := by decide +kernel
theorem dX9_confession_50 : decode cX9_confession 50 = .ok (.ldc2_w 179, 3) := by decide +kernel
theorem dX9_confession_53 : decode cX9_confession 53 = .ok (.lreturn, 1) := by decide +kernel
theorem dX9_confession_54 : decode cX9_confession 54 = .ok (.lconst 0, 1) := by decide +kernel
theorem dX9_confession_55 : decode cX9_confession 55 = .ok (.lstore 6, 2) := by decide +kernel
theorem dX9_confession_57 : decode cX9_confession 57 = .ok (.lconst 1, 1) := by decide +kernel
theorem dX9_confession_58 : decode cX9_confession 58 = .ok (.lstore 8, 2) := by decide +kernel
theorem dX9_confession_60 : decode cX9_confession 60 = .ok (.ldc2_w 181, 3) := by decide +kernel
theorem dX9_confession_63 : decode cX9_confession 63 = .ok (.lstore 10, 2) := by decide +kernel
theorem dX9_confession_65 : decode cX9_confession 65 = .ok (.iload 4, 2) := by decide +kernel
theorem dX9_confession_67 : decode cX9_confession 67 = .ok (.istore 12, 2) := by decide +kernel
theorem dX9_confession_69 : decode cX9_confession 69 = .ok (.iload 12, 2) := by decide +kernel
theorem dX9_confession_71 : decode cX9_confession 71 = .ok (.ifCond .le 85, 3) := by decide +kernel
theorem dX9_confession_74 : decode cX9_confession 74 = .ok (.iload_n 3, 1) := by decide +kernel
theorem dX9_confession_75 : decode cX9_confession 75 = .ok (.i2l, 1) := by decide +kernel
theorem dX9_confession_76 : decode cX9_confession 76 = .ok (.iload_n 1, 1) := by decide +kernel
theorem dX9_confession_77 : decode cX9_confession 77 = .ok (.i2l, 1) := by decide +kernel
theorem dX9_confession_78 : decode cX9_confession 78 = .ok (.lmul, 1) := by decide +kernel
theorem dX9_confession_79 : decode cX9_confession 79 = .ok (.iload_n 2, 1) := by decide +kernel
theorem dX9_confession_80 : decode cX9_confession 80 = .ok (.i2l, 1) := by decide +kernel
theorem dX9_confession_81 : decode cX9_confession 81 = .ok (.lmul, 1) := by decide +kernel
theorem dX9_confession_82 : decode cX9_confession 82 = .ok (.lload 8, 2) := by decide +kernel
theorem dX9_confession_84 : decode cX9_confession 84 = .ok (.lmul, 1) := by decide +kernel
theorem dX9_confession_85 : decode cX9_confession 85 = .ok (.bipush 10, 2) := by decide +kernel
theorem dX9_confession_87 : decode cX9_confession 87 = .ok (.iload_n 3, 1) := by decide +kernel
theorem dX9_confession_88 : decode cX9_confession 88 = .ok (.isub, 1) := by decide +kernel
theorem dX9_confession_89 : decode cX9_confession 89 = .ok (.i2l, 1) := by decide +kernel
theorem dX9_confession_90 : decode cX9_confession 90 = .ok (.lload 6, 2) := by decide +kernel
theorem dX9_confession_92 : decode cX9_confession 92 = .ok (.lmul, 1) := by decide +kernel
theorem dX9_confession_93 : decode cX9_confession 93 = .ok (.ladd, 1) := by decide +kernel
theorem dX9_confession_94 : decode cX9_confession 94 = .ok (.lstore 13, 2) := by decide +kernel
theorem dX9_confession_96 : decode cX9_confession 96 = .ok (.lload 8, 2) := by decide +kernel
theorem dX9_confession_98 : decode cX9_confession 98 = .ok (.ldc2_w 183, 3) := by decide +kernel
theorem dX9_confession_101 : decode cX9_confession 101 = .ok (.lmul, 1) := by decide +kernel
theorem dX9_confession_102 : decode cX9_confession 102 = .ok (.lstore 8, 2) := by decide +kernel
theorem dX9_confession_104 : decode cX9_confession 104 = .ok (.iload_n 1, 1) := by decide +kernel
theorem dX9_confession_105 : decode cX9_confession 105 = .ok (.iload_n 2, 1) := by decide +kernel
theorem dX9_confession_106 : decode cX9_confession 106 = .ok (.imul, 1) := by decide +kernel
theorem dX9_confession_107 : decode cX9_confession 107 = .ok (.iconst 2, 1) := by decide +kernel
theorem dX9_confession_108 : decode cX9_confession 108 = .ok (.idiv, 1) := by decide +kernel
theorem dX9_confession_109 : decode cX9_confession 109 = .ok (.i2l, 1) := by decide +kernel
theorem dX9_confession_110 : decode cX9_confession 110 = .ok (.lload 8, 2) := by decide +kernel
theorem dX9_confession_112 : decode cX9_confession 112 = .ok (.lmul, 1) := by decide +kernel
theorem dX9_confession_113 : decode cX9_confession 113 = .ok (.lstore 15, 2) := by decide +kernel
theorem dX9_confession_115 : decode cX9_confession 115 = .ok (.lload 15, 2) := by decide +kernel
theorem dX9_confession_117 : decode cX9_confession 117 = .ok (.lload 13, 2) := by decide +kernel
theorem dX9_confession_119 : decode cX9_confession 119 = .ok (.lcmp, 1) := by decide +kernel
theorem dX9_confession_120 : decode cX9_confession 120 = .ok (.ifCond .gt 9, 3) := by decide +kernel
theorem dX9_confession_123 : decode cX9_confession 123 = .ok (.iload 12, 2) := by decide +kernel
theorem dX9_confession_125 : decode cX9_confession 125 = .ok (.i2l, 1) := by decide +kernel
theorem dX9_confession_126 : decode cX9_confession 126 = .ok (.goto 5, 3) := by decide +kernel
theorem dX9_confession_129 : decode cX9_confession 129 = .ok (.lload 10, 2) := by decide +kernel
theorem dX9_confession_131 : decode cX9_confession 131 = .ok (.lstore 10, 2) := by decide +kernel
theorem dX9_confession_133 : decode cX9_confession 133 = .ok (.lload 15, 2) := by decide +kernel
theorem dX9_confession_135 : decode cX9_confession 135 = .ok (.lload 13, 2) := by decide +kernel
theorem dX9_confession_137 : decode cX9_confession 137 = .ok (.lcmp, 1) := by decide +kernel
theorem dX9_confession_138 : decode cX9_confession 138 = .ok (.ifCond .gt 8, 3) := by decide +kernel
theorem dX9_confession_141 : decode cX9_confession 141 = .ok (.lload 15, 2) := by decide +kernel
theorem dX9_confession_143 : decode cX9_confession 143 = .ok (.goto 5, 3) := by decide +kernel
theorem dX9_confession_146 : decode cX9_confession 146 = .ok (.lload 13, 2) := by decide +kernel
theorem dX9_confession_148 : decode cX9_confession 148 = .ok (.lstore 6, 2) := by decide +kernel
theorem dX9_confession_150 : decode cX9_confession 150 = .ok (.iinc 12 (-1), 3) := by decide +kernel
theorem dX9_confession_153 : decode cX9_confession 153 = .ok (.goto (-84), 3) := by decide +kernel
theorem dX9_confession_156 : decode cX9_confession 156 = .ok (.lload 6, 2) := by decide +kernel
theorem dX9_confession_158 : decode cX9_confession 158 = .ok (.lstore 12, 2) := by decide +kernel
theorem dX9_confession_160 : decode cX9_confession 160 = .ok (.lload 8, 2) := by decide +kernel
theorem dX9_confession_162 : decode cX9_confession 162 = .ok (.lstore 14, 2) := by decide +kernel
theorem dX9_confession_164 : decode cX9_confession 164 = .ok (.lload 14, 2) := by decide +kernel
theorem dX9_confession_166 : decode cX9_confession 166 = .ok (.lconst 0, 1) := by decide +kernel
theorem dX9_confession_167 : decode cX9_confession 167 = .ok (.lcmp, 1) := by decide +kernel
theorem dX9_confession_168 : decode cX9_confession 168 = .ok (.ifCond .le 21, 3) := by decide +kernel
theorem dX9_confession_171 : decode cX9_confession 171 = .ok (.lload 12, 2) := by decide +kernel
theorem dX9_confession_173 : decode cX9_confession 173 = .ok (.lload 14, 2) := by decide +kernel
theorem dX9_confession_175 : decode cX9_confession 175 = .ok (.lrem, 1) := by decide +kernel
theorem dX9_confession_176 : decode cX9_confession 176 = .ok (.lstore 16, 2) := by decide +kernel
theorem dX9_confession_178 : decode cX9_confession 178 = .ok (.lload 14, 2) := by decide +kernel
theorem dX9_confession_180 : decode cX9_confession 180 = .ok (.lstore 12, 2) := by decide +kernel
theorem dX9_confession_182 : decode cX9_confession 182 = .ok (.lload 16, 2) := by decide +kernel
theorem dX9_confession_184 : decode cX9_confession 184 = .ok (.lstore 14, 2) := by decide +kernel
theorem dX9_confession_186 : decode cX9_confession 186 = .ok (.goto (-22), 3) := by decide +kernel
theorem dX9_confession_189 : decode cX9_confession 189 = .ok (.iload 5, 2) := by decide +kernel
theorem dX9_confession_191 : decode cX9_confession 191 = .ok (.ifCond .ne 8, 3) := by decide +kernel
theorem dX9_confession_194 : decode cX9_confession 194 = .ok (.lload 10, 2) := by decide +kernel
theorem dX9_confession_196 : decode cX9_confession 196 = .ok (.goto 22, 3) := by decide +kernel
theorem dX9_confession_199 : decode cX9_confession 199 = .ok (.iload 5, 2) := by decide +kernel
theorem dX9_confession_201 : decode cX9_confession 201 = .ok (.iconst 1, 1) := by decide +kernel
theorem dX9_confession_202 : decode cX9_confession 202 = .ok (.if_icmp .ne 11, 3) := by decide +kernel
theorem dX9_confession_205 : decode cX9_confession 205 = .ok (.lload 6, 2) := by decide +kernel
theorem dX9_confession_207 : decode cX9_confession 207 = .ok (.lload 12, 2) := by decide +kernel
theorem dX9_confession_209 : decode cX9_confession 209 = .ok (.ldiv, 1) := by decide +kernel
theorem dX9_confession_210 : decode cX9_confession 210 = .ok (.goto 8, 3) := by decide +kernel
theorem dX9_confession_213 : decode cX9_confession 213 = .ok (.lload 8, 2) := by decide +kernel
theorem dX9_confession_215 : decode cX9_confession 215 = .ok (.lload 12, 2) := by decide +kernel
theorem dX9_confession_217 : decode cX9_confession 217 = .ok (.ldiv, 1) := by decide +kernel
theorem dX9_confession_218 : decode cX9_confession 218 = .ok (.lreturn, 1) := by decide +kernel
set_option maxRecDepth 20000 in
theorem ggX9_seen_X9_isPerson : GoodIn wsX9_seen wsX9_isPerson := goodIn_r _ [7, 8, 9, 10, 6, 11, 12, 13, 14, 15, 16, 17, 18, 19, 20, 21, 22, 23, 24, 25, 26, 27, 28, 29, 30, 31] (by decide +kernel) (by decide +kernel)
set_option maxRecDepth 20000 in
theorem gX9_seen_X9_isPerson : GoodIn wsX9_seen (wsV RX9 126 RX9 yX9_isPerson wsX9_isPerson) := goodIn_app (goodIn_of _ (by decide +kernel)) ggX9_seen_X9_isPerson
set_option maxRecDepth 20000 in
theorem ggX9_seen_X9_in : GoodIn wsX9_seen wsX9_in := goodIn_r _ [11] (by decide +kernel) (by decide +kernel)
set_option maxRecDepth 20000 in
theorem gX9_seen_X9_in : GoodIn wsX9_seen (va_wsS RX9 62 yX9_in wsX9_in) := goodIn_app (goodIn_of _ (by decide +kernel)) ggX9_seen_X9_in
theorem dX9_seen_0 : decode cX9_seen 0 = .ok (.aload_n 0, 1) := by decide +kernel
theorem dX9_seen_1 : decode cX9_seen 1 = .ok (.iload_n 1, 1) := by decide +kernel
theorem dX9_seen_2 : decode cX9_seen 2 = .ok (.invokevirtual 126, 3) := by decide +kernel
theorem dX9_seen_5 : decode cX9_seen 5 = .ok (.ifCond .eq 23, 3) := by decide +kernel
theorem dX9_seen_8 : decode cX9_seen 8 = .ok (.iload_n 2, 1) := by decide +kernel
theorem dX9_seen_9 : decode cX9_seen 9 = .ok (.iconst 0, 1) := by decide +kernel
theorem dX9_seen_10 : decode cX9_seen 10 = .ok (.bipush 9, 2) := by decide +kernel
theorem dX9_seen_12 : decode cX9_seen 12 = .ok (.invokestatic 62, 3) := by decide +kernel
theorem dX9_seen_15 : decode cX9_seen 15 = .ok (.ifCond .eq 13, 3) := by decide +kernel
theorem dX9_seen_18 : decode cX9_seen 18 = .ok (.iload_n 3, 1) := by decide +kernel
theorem dX9_seen_19 : decode cX9_seen 19 = .ok (.iconst 0, 1) := by decide +kernel
theorem dX9_seen_20 : decode cX9_seen 20 = .ok (.bipush 20, 2) := by decide +kernel
theorem dX9_seen_22 : decode cX9_seen 22 = .ok (.invokestatic 62, 3) := by decide +kernel
theorem dX9_seen_25 : decode cX9_seen 25 = .ok (.ifCond .ne 5, 3) := by decide +kernel
theorem dX9_seen_28 : decode cX9_seen 28 = .ok (.iconst (-1), 1) := by decide +kernel
theorem dX9_seen_29 : decode cX9_seen 29 = .ok (.ireturn, 1) := by decide +kernel
theorem dX9_seen_30 : decode cX9_seen 30 = .ok (.aload_n 0, 1) := by decide +kernel
theorem dX9_seen_31 : decode cX9_seen 31 = .ok (.getfield 113, 3) := by decide +kernel
theorem dX9_seen_34 : decode cX9_seen 34 = .ok (.bipush 6, 2) := by decide +kernel
theorem dX9_seen_36 : decode cX9_seen 36 = .ok (.if_icmp .ne 6, 3) := by decide +kernel
theorem dX9_seen_39 : decode cX9_seen 39 = .ok (.bipush (-3), 2) := by decide +kernel
theorem dX9_seen_41 : decode cX9_seen 41 = .ok (.ireturn, 1) := by decide +kernel
theorem dX9_seen_42 : decode cX9_seen 42 = .ok (.aload_n 0, 1) := by decide +kernel
theorem dX9_seen_43 : decode cX9_seen 43 = .ok (.getfield 31, 3) := by decide +kernel
theorem dX9_seen_46 : decode cX9_seen 46 = .ok (.aload_n 0, 1) := by decide +kernel
theorem dX9_seen_47 : decode cX9_seen 47 = .ok (.getfield 113, 3) := by decide +kernel
theorem dX9_seen_50 : decode cX9_seen 50 = .ok (.sipush 1000, 3) := by decide +kernel
theorem dX9_seen_53 : decode cX9_seen 53 = .ok (.iload_n 1, 1) := by decide +kernel
theorem dX9_seen_54 : decode cX9_seen 54 = .ok (.imul, 1) := by decide +kernel
theorem dX9_seen_55 : decode cX9_seen 55 = .ok (.bipush 100, 2) := by decide +kernel
theorem dX9_seen_57 : decode cX9_seen 57 = .ok (.iload_n 2, 1) := by decide +kernel
theorem dX9_seen_58 : decode cX9_seen 58 = .ok (.imul, 1) := by decide +kernel
theorem dX9_seen_59 : decode cX9_seen 59 = .ok (.iadd, 1) := by decide +kernel
theorem dX9_seen_60 : decode cX9_seen 60 = .ok (.iload_n 3, 1) := by decide +kernel
theorem dX9_seen_61 : decode cX9_seen 61 = .ok (.iadd, 1) := by decide +kernel
theorem dX9_seen_62 : decode cX9_seen 62 = .ok (.iastore, 1) := by decide +kernel
theorem dX9_seen_63 : decode cX9_seen 63 = .ok (.aload_n 0, 1) := by decide +kernel
theorem dX9_seen_64 : decode cX9_seen 64 = .ok (.dup, 1) := by decide +kernel
theorem dX9_seen_65 : decode cX9_seen 65 = .ok (.getfield 113, 3) := by decide +kernel
theorem dX9_seen_68 : decode cX9_seen 68 = .ok (.iconst 1, 1) := by decide +kernel
theorem dX9_seen_69 : decode cX9_seen 69 = .ok (.iadd, 1) := by decide +kernel
theorem dX9_seen_70 : decode cX9_seen 70 = .ok (.putfield 113, 3) := by decide +kernel
theorem dX9_seen_73 : decode cX9_seen 73 = .ok (.aload_n 0, 1) := by decide +kernel
theorem dX9_seen_74 : decode cX9_seen 74 = .ok (.getfield 113, 3) := by decide +kernel
theorem dX9_seen_77 : decode cX9_seen 77 = .ok (.ireturn, 1) := by decide +kernel
theorem dX9_forget_0 : decode cX9_forget 0 = .ok (.aload_n 0, 1) := by decide +kernel
theorem dX9_forget_1 : decode cX9_forget 1 = .ok (.getfield 113, 3) := by decide +kernel
theorem dX9_forget_4 : decode cX9_forget 4 = .ok (.istore_n 1, 1) := by decide +kernel
theorem dX9_forget_5 : decode cX9_forget 5 = .ok (.aload_n 0, 1) := by decide +kernel
theorem dX9_forget_6 : decode cX9_forget 6 = .ok (.iconst 0, 1) := by decide +kernel
theorem dX9_forget_7 : decode cX9_forget 7 = .ok (.putfield 113, 3) := by decide +kernel
theorem dX9_forget_10 : decode cX9_forget 10 = .ok (.iload_n 1, 1) := by decide +kernel
theorem dX9_forget_11 : decode cX9_forget 11 = .ok (.ireturn, 1) := by decide +kernel
set_option maxRecDepth 20000 in
theorem ggX9_kinds_X9_isPerson : GoodIn wsX9_kinds wsX9_isPerson := goodIn_r _ [7, 8, 9, 10, 6, 11, 15, 16, 17, 18, 19, 20, 21, 22, 23, 24, 25, 26, 27, 28, 29, 30, 31, 32, 33, 34] (by decide +kernel) (by decide +kernel)
set_option maxRecDepth 20000 in
theorem gX9_kinds_X9_isPerson : GoodIn wsX9_kinds (wsV RX9 126 RX9 yX9_isPerson wsX9_isPerson) := goodIn_app (goodIn_of _ (by decide +kernel)) ggX9_kinds_X9_isPerson
set_option maxRecDepth 20000 in
theorem ggX9_kinds_X9_care : GoodIn wsX9_kinds wsX9_care := goodIn_r _ [14] (by decide +kernel) (by decide +kernel)
set_option maxRecDepth 20000 in
theorem gX9_kinds_X9_care : GoodIn wsX9_kinds (va_wsS RX9 147 yX9_care wsX9_care) := goodIn_app (goodIn_of _ (by decide +kernel)) ggX9_kinds_X9_care
theorem dX9_kinds_0 : decode cX9_kinds 0 = .ok (.aload_n 0, 1) := by decide +kernel
theorem dX9_kinds_1 : decode cX9_kinds 1 = .ok (.iload_n 1, 1) := by decide +kernel
theorem dX9_kinds_2 : decode cX9_kinds 2 = .ok (.invokevirtual 126, 3) := by decide +kernel
theorem dX9_kinds_5 : decode cX9_kinds 5 = .ok (.ifCond .ne 5, 3) := by decide +kernel
theorem dX9_kinds_8 : decode cX9_kinds 8 = .ok (.iconst (-1), 1) := by decide +kernel
theorem dX9_kinds_9 : decode cX9_kinds 9 = .ok (.ireturn, 1) := by decide +kernel
theorem dX9_kinds_10 : decode cX9_kinds 10 = .ok (.bipush 31, 2) := by decide +kernel
theorem dX9_kinds_12 : decode cX9_kinds 12 = .ok (.istore_n 2, 1) := by decide +kernel
theorem dX9_kinds_13 : decode cX9_kinds 13 = .ok (.iconst 0, 1) := by decide +kernel
theorem dX9_kinds_14 : decode cX9_kinds 14 = .ok (.istore_n 3, 1) := by decide +kernel
theorem dX9_kinds_15 : decode cX9_kinds 15 = .ok (.iload_n 3, 1) := by decide +kernel
theorem dX9_kinds_16 : decode cX9_kinds 16 = .ok (.aload_n 0, 1) := by decide +kernel
theorem dX9_kinds_17 : decode cX9_kinds 17 = .ok (.getfield 113, 3) := by decide +kernel
theorem dX9_kinds_20 : decode cX9_kinds 20 = .ok (.if_icmp .ge 107, 3) := by decide +kernel
theorem dX9_kinds_23 : decode cX9_kinds 23 = .ok (.iconst 0, 1) := by decide +kernel
theorem dX9_kinds_24 : decode cX9_kinds 24 = .ok (.istore 4, 2) := by decide +kernel
theorem dX9_kinds_26 : decode cX9_kinds 26 = .ok (.iload 4, 2) := by decide +kernel
theorem dX9_kinds_28 : decode cX9_kinds 28 = .ok (.iconst 5, 1) := by decide +kernel
theorem dX9_kinds_29 : decode cX9_kinds 29 = .ok (.if_icmp .ge 92, 3) := by decide +kernel
theorem dX9_kinds_32 : decode cX9_kinds 32 = .ok (.iconst 0, 1) := by decide +kernel
theorem dX9_kinds_33 : decode cX9_kinds 33 = .ok (.istore 5, 2) := by decide +kernel
theorem dX9_kinds_35 : decode cX9_kinds 35 = .ok (.iconst 0, 1) := by decide +kernel
theorem dX9_kinds_36 : decode cX9_kinds 36 = .ok (.istore 6, 2) := by decide +kernel
theorem dX9_kinds_38 : decode cX9_kinds 38 = .ok (.iload 6, 2) := by decide +kernel
theorem dX9_kinds_40 : decode cX9_kinds 40 = .ok (.aload_n 0, 1) := by decide +kernel
theorem dX9_kinds_41 : decode cX9_kinds 41 = .ok (.getfield 31, 3) := by decide +kernel
theorem dX9_kinds_44 : decode cX9_kinds 44 = .ok (.iload_n 3, 1) := by decide +kernel
theorem dX9_kinds_45 : decode cX9_kinds 45 = .ok (.iaload, 1) := by decide +kernel
theorem dX9_kinds_46 : decode cX9_kinds 46 = .ok (.bipush 100, 2) := by decide +kernel
theorem dX9_kinds_48 : decode cX9_kinds 48 = .ok (.idiv, 1) := by decide +kernel
theorem dX9_kinds_49 : decode cX9_kinds 49 = .ok (.bipush 10, 2) := by decide +kernel
theorem dX9_kinds_51 : decode cX9_kinds 51 = .ok (.irem, 1) := by decide +kernel
theorem dX9_kinds_52 : decode cX9_kinds 52 = .ok (.if_icmp .ge 21, 3) := by decide +kernel
theorem dX9_kinds_55 : decode cX9_kinds 55 = .ok (.iload 5, 2) := by decide +kernel
theorem dX9_kinds_57 : decode cX9_kinds 57 = .ok (.iload 4, 2) := by decide +kernel
theorem dX9_kinds_59 : decode cX9_kinds 59 = .ok (.iload 6, 2) := by decide +kernel
theorem dX9_kinds_61 : decode cX9_kinds 61 = .ok (.invokestatic 147, 3) := by decide +kernel
theorem dX9_kinds_64 : decode cX9_kinds 64 = .ok (.iadd, 1) := by decide +kernel
theorem dX9_kinds_65 : decode cX9_kinds 65 = .ok (.istore 5, 2) := by decide +kernel
theorem dX9_kinds_67 : decode cX9_kinds 67 = .ok (.iinc 6 1, 3) := by decide +kernel
theorem dX9_kinds_70 : decode cX9_kinds 70 = .ok (.goto (-32), 3) := by decide +kernel
theorem dX9_kinds_73 : decode cX9_kinds 73 = .ok (.iload_n 2, 1) := by decide +kernel
theorem dX9_kinds_74 : decode cX9_kinds 74 = .ok (.aload_n 0, 1) := by decide +kernel
theorem dX9_kinds_75 : decode cX9_kinds 75 = .ok (.getfield 31, 3) := by decide +kernel
theorem dX9_kinds_78 : decode cX9_kinds 78 = .ok (.iload_n 3, 1) := by decide +kernel
theorem dX9_kinds_79 : decode cX9_kinds 79 = .ok (.iaload, 1) := by decide +kernel
theorem dX9_kinds_80 : decode cX9_kinds 80 = .ok (.sipush 1000, 3) := by decide +kernel
theorem dX9_kinds_83 : decode cX9_kinds 83 = .ok (.idiv, 1) := by decide +kernel
theorem dX9_kinds_84 : decode cX9_kinds 84 = .ok (.iload_n 1, 1) := by decide +kernel
theorem dX9_kinds_85 : decode cX9_kinds 85 = .ok (.if_icmp .ne 26, 3) := by decide +kernel
theorem dX9_kinds_88 : decode cX9_kinds 88 = .ok (.iload 5, 2) := by decide +kernel
theorem dX9_kinds_90 : decode cX9_kinds 90 = .ok (.aload_n 0, 1) := by decide +kernel
theorem dX9_kinds_91 : decode cX9_kinds 91 = .ok (.getfield 31, 3) := by decide +kernel
theorem dX9_kinds_94 : decode cX9_kinds 94 = .ok (.iload_n 3, 1) := by decide +kernel
theorem dX9_kinds_95 : decode cX9_kinds 95 = .ok (.iaload, 1) := by decide +kernel
theorem dX9_kinds_96 : decode cX9_kinds 96 = .ok (.bipush 100, 2) := by decide +kernel
theorem dX9_kinds_98 : decode cX9_kinds 98 = .ok (.irem, 1) := by decide +kernel
theorem dX9_kinds_99 : decode cX9_kinds 99 = .ok (.if_icmp .eq 12, 3) := by decide +kernel
theorem dX9_kinds_102 : decode cX9_kinds 102 = .ok (.iconst 1, 1) := by decide +kernel
theorem dX9_kinds_103 : decode cX9_kinds 103 = .ok (.iload 4, 2) := by decide +kernel
theorem dX9_kinds_105 : decode cX9_kinds 105 = .ok (.ishl, 1) := by decide +kernel
theorem dX9_kinds_106 : decode cX9_kinds 106 = .ok (.iconst (-1), 1) := by decide +kernel
theorem dX9_kinds_107 : decode cX9_kinds 107 = .ok (.ixor, 1) := by decide +kernel
theorem dX9_kinds_108 : decode cX9_kinds 108 = .ok (.goto 5, 3) := by decide +kernel
theorem dX9_kinds_111 : decode cX9_kinds 111 = .ok (.bipush 31, 2) := by decide +kernel
theorem dX9_kinds_113 : decode cX9_kinds 113 = .ok (.iand, 1) := by decide +kernel
theorem dX9_kinds_114 : decode cX9_kinds 114 = .ok (.istore_n 2, 1) := by decide +kernel
theorem dX9_kinds_115 : decode cX9_kinds 115 = .ok (.iinc 4 1, 3) := by decide +kernel
theorem dX9_kinds_118 : decode cX9_kinds 118 = .ok (.goto (-92), 3) := by decide +kernel
theorem dX9_kinds_121 : decode cX9_kinds 121 = .ok (.iinc 3 1, 3) := by decide +kernel
theorem dX9_kinds_124 : decode cX9_kinds 124 = .ok (.goto (-109), 3) := by decide +kernel
theorem dX9_kinds_127 : decode cX9_kinds 127 = .ok (.iload_n 2, 1) := by decide +kernel
theorem dX9_kinds_128 : decode cX9_kinds 128 = .ok (.ireturn, 1) := by decide +kernel
set_option maxRecDepth 20000 in
theorem ggX9_out_X9_isPerson : GoodIn wsX9_out wsX9_isPerson := goodIn_r _ [6, 1, 7, 8, 5, 9, 41, 42, 43, 44, 45, 46, 47, 48, 49, 50, 51, 52, 53, 54, 55, 56, 57, 58, 59, 60] (by decide +kernel) (by decide +kernel)
set_option maxRecDepth 20000 in
theorem gX9_out_X9_isPerson : GoodIn wsX9_out (wsV RX9 126 RX9 yX9_isPerson wsX9_isPerson) := goodIn_app (goodIn_of _ (by decide +kernel)) ggX9_out_X9_isPerson
set_option maxRecDepth 20000 in
theorem ggX9_out_X9_in : GoodIn wsX9_out wsX9_in := goodIn_r _ [9] (by decide +kernel) (by decide +kernel)
set_option maxRecDepth 20000 in
theorem gX9_out_X9_in : GoodIn wsX9_out (va_wsS RX9 62 yX9_in wsX9_in) := goodIn_app (goodIn_of _ (by decide +kernel)) ggX9_out_X9_in
set_option maxRecDepth 20000 in
theorem ggX9_out_X9_isAlive : GoodIn wsX9_out wsX9_isAlive := goodIn_r _ [13, 14, 1, 41, 42, 43, 44, 45, 46, 47, 48, 49, 50, 51, 52, 53, 54, 55, 56, 57, 58, 59, 60] (by decide +kernel) (by decide +kernel)
set_option maxRecDepth 20000 in
theorem gX9_out_X9_isAlive : GoodIn wsX9_out (wsV RX9 116 RX9 yX9_isAlive wsX9_isAlive) := goodIn_app (goodIn_of _ (by decide +kernel)) ggX9_out_X9_isAlive
set_option maxRecDepth 20000 in
theorem ggX9_out_X9_ownOf : GoodIn wsX9_out wsX9_ownOf := goodIn_r _ [18, 1, 41, 42, 43, 44, 45, 46, 47, 48, 49, 50, 51, 52, 53, 54, 55, 56, 57, 58, 59, 60] (by decide +kernel) (by decide +kernel)
set_option maxRecDepth 20000 in
theorem gX9_out_X9_ownOf : GoodIn wsX9_out (wsV RX9 135 RX9 yX9_ownOf wsX9_ownOf) := goodIn_app (goodIn_of _ (by decide +kernel)) ggX9_out_X9_ownOf
set_option maxRecDepth 20000 in
theorem ggX9_out_X9_alive : GoodIn wsX9_out wsX9_alive := goodIn_r _ [22, 1, 10, 11, 12, 5, 13, 14, 41, 42, 43, 44, 45, 46, 47, 48, 49, 50, 51, 52, 53, 54, 55, 56, 57, 58, 59, 60] (by decide +kernel) (by decide +kernel)
set_option maxRecDepth 20000 in
theorem gX9_out_X9_alive : GoodIn wsX9_out (wsV RX9 119 RX9 yX9_alive wsX9_alive) := goodIn_app (goodIn_of _ (by decide +kernel)) ggX9_out_X9_alive
set_option maxRecDepth 20000 in
theorem ggX9_out_X9_shades : GoodIn wsX9_out wsX9_shades := goodIn_r _ [26, 1, 27, 28, 29, 5, 30, 14, 31, 32, 33, 34, 35, 36, 37, 38, 39, 40, 10, 11, 12, 13, 41, 42, 43, 44, 45, 46, 47, 48, 49, 50, 51, 52, 53, 54, 55, 56, 57, 58, 59, 60] (by decide +kernel) (by decide +kernel)
set_option maxRecDepth 20000 in
theorem gX9_out_X9_shades : GoodIn wsX9_out (wsV RX9 151 RX9 yX9_shades wsX9_shades) := goodIn_app (goodIn_of _ (by decide +kernel)) ggX9_out_X9_shades
theorem dX9_out_0 : decode cX9_out 0 = .ok (.aload_n 0, 1) := by decide +kernel
theorem dX9_out_1 : decode cX9_out 1 = .ok (.iload_n 1, 1) := by decide +kernel
theorem dX9_out_2 : decode cX9_out 2 = .ok (.invokevirtual 126, 3) := by decide +kernel
theorem dX9_out_5 : decode cX9_out 5 = .ok (.ifCond .eq 22, 3) := by decide +kernel
theorem dX9_out_8 : decode cX9_out 8 = .ok (.iload_n 2, 1) := by decide +kernel
theorem dX9_out_9 : decode cX9_out 9 = .ok (.iconst 0, 1) := by decide +kernel
theorem dX9_out_10 : decode cX9_out 10 = .ok (.bipush 99, 2) := by decide +kernel
theorem dX9_out_12 : decode cX9_out 12 = .ok (.invokestatic 62, 3) := by decide +kernel
theorem dX9_out_15 : decode cX9_out 15 = .ok (.ifCond .eq 12, 3) := by decide +kernel
theorem dX9_out_18 : decode cX9_out 18 = .ok (.iload_n 3, 1) := by decide +kernel
theorem dX9_out_19 : decode cX9_out 19 = .ok (.iconst 0, 1) := by decide +kernel
theorem dX9_out_20 : decode cX9_out 20 = .ok (.iconst 1, 1) := by decide +kernel
theorem dX9_out_21 : decode cX9_out 21 = .ok (.invokestatic 62, 3) := by decide +kernel
theorem dX9_out_24 : decode cX9_out 24 = .ok (.ifCond .ne 5, 3) := by decide +kernel
theorem dX9_out_27 : decode cX9_out 27 = .ok (.iconst (-1), 1) := by decide +kernel
theorem dX9_out_28 : decode cX9_out 28 = .ok (.ireturn, 1) := by decide +kernel
theorem dX9_out_29 : decode cX9_out 29 = .ok (.aload_n 0, 1) := by decide +kernel
theorem dX9_out_30 : decode cX9_out 30 = .ok (.iload_n 1, 1) := by decide +kernel
theorem dX9_out_31 : decode cX9_out 31 = .ok (.invokevirtual 116, 3) := by decide +kernel
theorem dX9_out_34 : decode cX9_out 34 = .ok (.ifCond .ne 6, 3) := by decide +kernel
theorem dX9_out_37 : decode cX9_out 37 = .ok (.bipush (-2), 2) := by decide +kernel
theorem dX9_out_39 : decode cX9_out 39 = .ok (.ireturn, 1) := by decide +kernel
theorem dX9_out_40 : decode cX9_out 40 = .ok (.aload_n 0, 1) := by decide +kernel
theorem dX9_out_41 : decode cX9_out 41 = .ok (.iload_n 1, 1) := by decide +kernel
theorem dX9_out_42 : decode cX9_out 42 = .ok (.invokevirtual 135, 3) := by decide +kernel
theorem dX9_out_45 : decode cX9_out 45 = .ok (.istore 4, 2) := by decide +kernel
theorem dX9_out_47 : decode cX9_out 47 = .ok (.iconst 0, 1) := by decide +kernel
theorem dX9_out_48 : decode cX9_out 48 = .ok (.istore 5, 2) := by decide +kernel
theorem dX9_out_50 : decode cX9_out 50 = .ok (.bipush (-4), 2) := by decide +kernel
theorem dX9_out_52 : decode cX9_out 52 = .ok (.istore 6, 2) := by decide +kernel
theorem dX9_out_54 : decode cX9_out 54 = .ok (.sipush 255, 3) := by decide +kernel
theorem dX9_out_57 : decode cX9_out 57 = .ok (.istore 7, 2) := by decide +kernel
theorem dX9_out_59 : decode cX9_out 59 = .ok (.iload 7, 2) := by decide +kernel
theorem dX9_out_61 : decode cX9_out 61 = .ok (.ifCond .lt 103, 3) := by decide +kernel
theorem dX9_out_64 : decode cX9_out 64 = .ok (.iload 7, 2) := by decide +kernel
theorem dX9_out_66 : decode cX9_out 66 = .ok (.iload 4, 2) := by decide +kernel
theorem dX9_out_68 : decode cX9_out 68 = .ok (.iconst (-1), 1) := by decide +kernel
theorem dX9_out_69 : decode cX9_out 69 = .ok (.ixor, 1) := by decide +kernel
theorem dX9_out_70 : decode cX9_out 70 = .ok (.iand, 1) := by decide +kernel
theorem dX9_out_71 : decode cX9_out 71 = .ok (.ifCond .ne 87, 3) := by decide +kernel
theorem dX9_out_74 : decode cX9_out 74 = .ok (.iconst 0, 1) := by decide +kernel
theorem dX9_out_75 : decode cX9_out 75 = .ok (.istore 8, 2) := by decide +kernel
theorem dX9_out_77 : decode cX9_out 77 = .ok (.iconst 0, 1) := by decide +kernel
theorem dX9_out_78 : decode cX9_out 78 = .ok (.istore 9, 2) := by decide +kernel
theorem dX9_out_80 : decode cX9_out 80 = .ok (.iload 9, 2) := by decide +kernel
theorem dX9_out_82 : decode cX9_out 82 = .ok (.aload_n 0, 1) := by decide +kernel
theorem dX9_out_83 : decode cX9_out 83 = .ok (.getfield 13, 3) := by decide +kernel
theorem dX9_out_86 : decode cX9_out 86 = .ok (.iconst 1, 1) := by decide +kernel
theorem dX9_out_87 : decode cX9_out 87 = .ok (.iaload, 1) := by decide +kernel
theorem dX9_out_88 : decode cX9_out 88 = .ok (.if_icmp .ge 39, 3) := by decide +kernel
theorem dX9_out_91 : decode cX9_out 91 = .ok (.iload 8, 2) := by decide +kernel
theorem dX9_out_93 : decode cX9_out 93 = .ok (.iload 7, 2) := by decide +kernel
theorem dX9_out_95 : decode cX9_out 95 = .ok (.iload 9, 2) := by decide +kernel
theorem dX9_out_97 : decode cX9_out 97 = .ok (.ishr, 1) := by decide +kernel
theorem dX9_out_98 : decode cX9_out 98 = .ok (.iconst 1, 1) := by decide +kernel
theorem dX9_out_99 : decode cX9_out 99 = .ok (.iand, 1) := by decide +kernel
theorem dX9_out_100 : decode cX9_out 100 = .ok (.iconst 1, 1) := by decide +kernel
theorem dX9_out_101 : decode cX9_out 101 = .ok (.if_icmp .ne 16, 3) := by decide +kernel
theorem dX9_out_104 : decode cX9_out 104 = .ok (.aload_n 0, 1) := by decide +kernel
theorem dX9_out_105 : decode cX9_out 105 = .ok (.iload 9, 2) := by decide +kernel
theorem dX9_out_107 : decode cX9_out 107 = .ok (.aload_n 0, 1) := by decide +kernel
theorem dX9_out_108 : decode cX9_out 108 = .ok (.invokevirtual 119, 3) := by decide +kernel
theorem dX9_out_111 : decode cX9_out 111 = .ok (.invokevirtual 151, 3) := by decide +kernel
theorem dX9_out_114 : decode cX9_out 114 = .ok (.goto 4, 3) := by decide +kernel
theorem dX9_out_117 : decode cX9_out 117 = .ok (.iconst 0, 1) := by decide +kernel
theorem dX9_out_118 : decode cX9_out 118 = .ok (.iadd, 1) := by decide +kernel
theorem dX9_out_119 : decode cX9_out 119 = .ok (.istore 8, 2) := by decide +kernel
theorem dX9_out_121 : decode cX9_out 121 = .ok (.iinc 9 1, 3) := by decide +kernel
theorem dX9_out_124 : decode cX9_out 124 = .ok (.goto (-44), 3) := by decide +kernel
theorem dX9_out_127 : decode cX9_out 127 = .ok (.iload 5, 2) := by decide +kernel
theorem dX9_out_129 : decode cX9_out 129 = .ok (.iload 8, 2) := by decide +kernel
theorem dX9_out_131 : decode cX9_out 131 = .ok (.iload_n 2, 1) := by decide +kernel
theorem dX9_out_132 : decode cX9_out 132 = .ok (.if_icmp .ne 7, 3) := by decide +kernel
theorem dX9_out_135 : decode cX9_out 135 = .ok (.iconst 1, 1) := by decide +kernel
theorem dX9_out_136 : decode cX9_out 136 = .ok (.goto 4, 3) := by decide +kernel
theorem dX9_out_139 : decode cX9_out 139 = .ok (.iconst 0, 1) := by decide +kernel
theorem dX9_out_140 : decode cX9_out 140 = .ok (.iadd, 1) := by decide +kernel
theorem dX9_out_141 : decode cX9_out 141 = .ok (.istore 5, 2) := by decide +kernel
theorem dX9_out_143 : decode cX9_out 143 = .ok (.iload 8, 2) := by decide +kernel
theorem dX9_out_145 : decode cX9_out 145 = .ok (.iload_n 2, 1) := by decide +kernel
theorem dX9_out_146 : decode cX9_out 146 = .ok (.if_icmp .ne 8, 3) := by decide +kernel
theorem dX9_out_149 : decode cX9_out 149 = .ok (.iload 7, 2) := by decide +kernel
theorem dX9_out_151 : decode cX9_out 151 = .ok (.goto 5, 3) := by decide +kernel
theorem dX9_out_154 : decode cX9_out 154 = .ok (.iload 6, 2) := by decide +kernel
theorem dX9_out_156 : decode cX9_out 156 = .ok (.istore 6, 2) := by decide +kernel
theorem dX9_out_158 : decode cX9_out 158 = .ok (.iinc 7 (-1), 3) := by decide +kernel
theorem dX9_out_161 : decode cX9_out 161 = .ok (.goto (-102), 3) := by decide +kernel
theorem dX9_out_164 : decode cX9_out 164 = .ok (.iload_n 3, 1) := by decide +kernel
theorem dX9_out_165 : decode cX9_out 165 = .ok (.ifCond .ne 8, 3) := by decide +kernel
theorem dX9_out_168 : decode cX9_out 168 = .ok (.iload 5, 2) := by decide +kernel
theorem dX9_out_170 : decode cX9_out 170 = .ok (.goto 5, 3) := by decide +kernel
theorem dX9_out_173 : decode cX9_out 173 = .ok (.iload 6, 2) := by decide +kernel
theorem dX9_out_175 : decode cX9_out 175 = .ok (.ireturn, 1) := by decide +kernel
set_option maxRecDepth 20000 in
theorem ggX9_year_X9_in : GoodIn wsX9_year wsX9_in := goodIn_r _ [9] (by decide +kernel) (by decide +kernel)
set_option maxRecDepth 20000 in
theorem gX9_year_X9_in : GoodIn wsX9_year (va_wsS RX9 62 yX9_in wsX9_in) := goodIn_app (goodIn_of _ (by decide +kernel)) ggX9_year_X9_in
set_option maxRecDepth 20000 in
theorem ggX9_year_X9_holds : GoodIn wsX9_year wsX9_holds := goodIn_r _ [13, 14, 5, 53, 54, 55, 56, 57, 58, 59, 60, 61, 62, 63, 64, 65, 66, 67, 68, 69, 70, 71, 72] (by decide +kernel) (by decide +kernel)
set_option maxRecDepth 20000 in
theorem gX9_year_X9_holds : GoodIn wsX9_year (wsV RX9 164 RX9 yX9_holds wsX9_holds) := goodIn_app (goodIn_of _ (by decide +kernel)) ggX9_year_X9_holds
set_option maxRecDepth 20000 in
theorem ggX9_year_X9_isAlive : GoodIn wsX9_year wsX9_isAlive := goodIn_r _ [18, 5, 1, 53, 54, 55, 56, 57, 58, 59, 60, 61, 62, 63, 64, 65, 66, 67, 68, 69, 70, 71, 72] (by decide +kernel) (by decide +kernel)
set_option maxRecDepth 20000 in
theorem gX9_year_X9_isAlive : GoodIn wsX9_year (wsV RX9 116 RX9 yX9_isAlive wsX9_isAlive) := goodIn_app (goodIn_of _ (by decide +kernel)) ggX9_year_X9_isAlive
set_option maxRecDepth 20000 in
theorem ggX9_year_X9_knows : GoodIn wsX9_year wsX9_knows := goodIn_r _ [22, 5, 53, 54, 55, 56, 57, 58, 59, 60, 61, 62, 63, 64, 65, 66, 67, 68, 69, 70, 71, 72] (by decide +kernel) (by decide +kernel)
set_option maxRecDepth 20000 in
theorem gX9_year_X9_knows : GoodIn wsX9_year (wsV RX9 122 RX9 yX9_knows wsX9_knows) := goodIn_app (goodIn_of _ (by decide +kernel)) ggX9_year_X9_knows
set_option maxRecDepth 20000 in
theorem ggX9_year_X9_met : GoodIn wsX9_year wsX9_met := goodIn_r _ [26, 1, 15, 16, 17, 8, 18, 5, 27, 28, 29, 30, 53, 54, 55, 56, 57, 58, 59, 60, 61, 62, 63, 64, 65, 66, 67, 68, 69, 70, 71, 72] (by decide +kernel) (by decide +kernel)
set_option maxRecDepth 20000 in
theorem gX9_year_X9_met : GoodIn wsX9_year (wsV RX9 129 RX9 yX9_met wsX9_met) := goodIn_app (goodIn_of _ (by decide +kernel)) ggX9_year_X9_met
set_option maxRecDepth 20000 in
theorem ggX9_year_X9_tells : GoodIn wsX9_year wsX9_tells := goodIn_r _ [34, 1, 5, 35, 36, 37, 8, 38, 39, 40, 41, 42, 43, 44, 45, 19, 20, 21, 22, 46, 47, 48, 15, 16, 17, 18, 53, 54, 55, 56, 57, 58, 59, 60, 61, 62, 63, 64, 65, 66, 67, 68, 69, 70, 71, 72] (by decide +kernel) (by decide +kernel)
set_option maxRecDepth 20000 in
theorem gX9_year_X9_tells : GoodIn wsX9_year (wsV RX9 157 RX9 yX9_tells wsX9_tells) := goodIn_app (goodIn_of _ (by decide +kernel)) ggX9_year_X9_tells
set_option maxRecDepth 20000 in
theorem ggX9_year_X9_alive : GoodIn wsX9_year wsX9_alive := goodIn_r _ [30, 1, 15, 16, 17, 8, 18, 5, 53, 54, 55, 56, 57, 58, 59, 60, 61, 62, 63, 64, 65, 66, 67, 68, 69, 70, 71, 72] (by decide +kernel) (by decide +kernel)
set_option maxRecDepth 20000 in
theorem gX9_year_X9_alive : GoodIn wsX9_year (wsV RX9 119 RX9 yX9_alive wsX9_alive) := goodIn_app (goodIn_of _ (by decide +kernel)) ggX9_year_X9_alive
set_option maxRecDepth 20000 in
theorem ggX9_year_X9_ones : GoodIn wsX9_year wsX9_ones := goodIn_r _ [45] (by decide +kernel) (by decide +kernel)
set_option maxRecDepth 20000 in
theorem gX9_year_X9_ones : GoodIn wsX9_year (va_wsS RX9 141 yX9_ones wsX9_ones) := goodIn_app (goodIn_of _ (by decide +kernel)) ggX9_year_X9_ones
set_option maxRecDepth 20000 in
theorem ggX9_year_X9_lets : GoodIn wsX9_year wsX9_lets := goodIn_r _ [52, 5, 14, 53, 54, 55, 56, 57, 58, 59, 60, 61, 62, 63, 64, 65, 66, 67, 68, 69, 70, 71, 72] (by decide +kernel) (by decide +kernel)
set_option maxRecDepth 20000 in
theorem gX9_year_X9_lets : GoodIn wsX9_year (wsV RX9 167 RX9 yX9_lets wsX9_lets) := goodIn_app (goodIn_of _ (by decide +kernel)) ggX9_year_X9_lets
theorem dX9_year_0 : decode cX9_year 0 = .ok (.iload_n 1, 1) := by decide +kernel
theorem dX9_year_1 : decode cX9_year 1 = .ok (.iconst 0, 1) := by decide +kernel
theorem dX9_year_2 : decode cX9_year 2 = .ok (.sipush 9999, 3) := by decide +kernel
theorem dX9_year_5 : decode cX9_year 5 = .ok (.invokestatic 62, 3) := by decide +kernel
theorem dX9_year_8 : decode cX9_year 8 = .ok (.ifCond .eq 22, 3) := by decide +kernel
theorem dX9_year_11 : decode cX9_year 11 = .ok (.iload_n 2, 1) := by decide +kernel
theorem dX9_year_12 : decode cX9_year 12 = .ok (.iconst 1, 1) := by decide +kernel
theorem dX9_year_13 : decode cX9_year 13 = .ok (.bipush 60, 2) := by decide +kernel
theorem dX9_year_15 : decode cX9_year 15 = .ok (.invokestatic 62, 3) := by decide +kernel
theorem dX9_year_18 : decode cX9_year 18 = .ok (.ifCond .eq 12, 3) := by decide +kernel
theorem dX9_year_21 : decode cX9_year 21 = .ok (.iload_n 3, 1) := by decide +kernel
theorem dX9_year_22 : decode cX9_year 22 = .ok (.iconst 0, 1) := by decide +kernel
theorem dX9_year_23 : decode cX9_year 23 = .ok (.iconst 1, 1) := by decide +kernel
theorem dX9_year_24 : decode cX9_year 24 = .ok (.invokestatic 62, 3) := by decide +kernel
theorem dX9_year_27 : decode cX9_year 27 = .ok (.ifCond .ne 5, 3) := by decide +kernel
theorem dX9_year_30 : decode cX9_year 30 = .ok (.iconst (-1), 1) := by decide +kernel
theorem dX9_year_31 : decode cX9_year 31 = .ok (.ireturn, 1) := by decide +kernel
theorem dX9_year_32 : decode cX9_year 32 = .ok (.aload_n 0, 1) := by decide +kernel
theorem dX9_year_33 : decode cX9_year 33 = .ok (.invokevirtual 164, 3) := by decide +kernel
theorem dX9_year_36 : decode cX9_year 36 = .ok (.iconst 0, 1) := by decide +kernel
theorem dX9_year_37 : decode cX9_year 37 = .ok (.istore 4, 2) := by decide +kernel
theorem dX9_year_39 : decode cX9_year 39 = .ok (.iload 4, 2) := by decide +kernel
theorem dX9_year_41 : decode cX9_year 41 = .ok (.iload_n 2, 1) := by decide +kernel
theorem dX9_year_42 : decode cX9_year 42 = .ok (.if_icmp .ge 111, 3) := by decide +kernel
theorem dX9_year_45 : decode cX9_year 45 = .ok (.aload_n 0, 1) := by decide +kernel
theorem dX9_year_46 : decode cX9_year 46 = .ok (.getfield 13, 3) := by decide +kernel
theorem dX9_year_49 : decode cX9_year 49 = .ok (.iconst 1, 1) := by decide +kernel
theorem dX9_year_50 : decode cX9_year 50 = .ok (.iaload, 1) := by decide +kernel
theorem dX9_year_51 : decode cX9_year 51 = .ok (.ifCond .le 102, 3) := by decide +kernel
theorem dX9_year_54 : decode cX9_year 54 = .ok (.ldc2_w 185, 3) := by decide +kernel
theorem dX9_year_57 : decode cX9_year 57 = .ok (.iload_n 1, 1) := by decide +kernel
theorem dX9_year_58 : decode cX9_year 58 = .ok (.i2l, 1) := by decide +kernel
theorem dX9_year_59 : decode cX9_year 59 = .ok (.lmul, 1) := by decide +kernel
theorem dX9_year_60 : decode cX9_year 60 = .ok (.ldc2_w 187, 3) := by decide +kernel
theorem dX9_year_63 : decode cX9_year 63 = .ok (.iload 4, 2) := by decide +kernel
theorem dX9_year_65 : decode cX9_year 65 = .ok (.i2l, 1) := by decide +kernel
theorem dX9_year_66 : decode cX9_year 66 = .ok (.lmul, 1) := by decide +kernel
theorem dX9_year_67 : decode cX9_year 67 = .ok (.ladd, 1) := by decide +kernel
theorem dX9_year_68 : decode cX9_year 68 = .ok (.lconst 1, 1) := by decide +kernel
theorem dX9_year_69 : decode cX9_year 69 = .ok (.ladd, 1) := by decide +kernel
theorem dX9_year_70 : decode cX9_year 70 = .ok (.lstore 5, 2) := by decide +kernel
theorem dX9_year_72 : decode cX9_year 72 = .ok (.lload 5, 2) := by decide +kernel
theorem dX9_year_74 : decode cX9_year 74 = .ok (.lload 5, 2) := by decide +kernel
theorem dX9_year_76 : decode cX9_year 76 = .ok (.lmul, 1) := by decide +kernel
theorem dX9_year_77 : decode cX9_year 77 = .ok (.ldc2_w 189, 3) := by decide +kernel
theorem dX9_year_80 : decode cX9_year 80 = .ok (.lrem, 1) := by decide +kernel
theorem dX9_year_81 : decode cX9_year 81 = .ok (.l2i, 1) := by decide +kernel
theorem dX9_year_82 : decode cX9_year 82 = .ok (.bipush 8, 2) := by decide +kernel
theorem dX9_year_84 : decode cX9_year 84 = .ok (.idiv, 1) := by decide +kernel
theorem dX9_year_85 : decode cX9_year 85 = .ok (.istore 7, 2) := by decide +kernel
theorem dX9_year_87 : decode cX9_year 87 = .ok (.iload 7, 2) := by decide +kernel
theorem dX9_year_89 : decode cX9_year 89 = .ok (.aload_n 0, 1) := by decide +kernel
theorem dX9_year_90 : decode cX9_year 90 = .ok (.getfield 13, 3) := by decide +kernel
theorem dX9_year_93 : decode cX9_year 93 = .ok (.iconst 0, 1) := by decide +kernel
theorem dX9_year_94 : decode cX9_year 94 = .ok (.iaload, 1) := by decide +kernel
theorem dX9_year_95 : decode cX9_year 95 = .ok (.irem, 1) := by decide +kernel
theorem dX9_year_96 : decode cX9_year 96 = .ok (.istore 8, 2) := by decide +kernel
theorem dX9_year_98 : decode cX9_year 98 = .ok (.iload 7, 2) := by decide +kernel
theorem dX9_year_100 : decode cX9_year 100 = .ok (.bipush 6, 2) := by decide +kernel
theorem dX9_year_102 : decode cX9_year 102 = .ok (.idiv, 1) := by decide +kernel
theorem dX9_year_103 : decode cX9_year 103 = .ok (.aload_n 0, 1) := by decide +kernel
theorem dX9_year_104 : decode cX9_year 104 = .ok (.getfield 13, 3) := by decide +kernel
theorem dX9_year_107 : decode cX9_year 107 = .ok (.iconst 1, 1) := by decide +kernel
theorem dX9_year_108 : decode cX9_year 108 = .ok (.iaload, 1) := by decide +kernel
theorem dX9_year_109 : decode cX9_year 109 = .ok (.irem, 1) := by decide +kernel
theorem dX9_year_110 : decode cX9_year 110 = .ok (.istore 9, 2) := by decide +kernel
theorem dX9_year_112 : decode cX9_year 112 = .ok (.aload_n 0, 1) := by decide +kernel
theorem dX9_year_113 : decode cX9_year 113 = .ok (.iload 8, 2) := by decide +kernel
theorem dX9_year_115 : decode cX9_year 115 = .ok (.invokevirtual 116, 3) := by decide +kernel
theorem dX9_year_118 : decode cX9_year 118 = .ok (.ifCond .eq 29, 3) := by decide +kernel
theorem dX9_year_121 : decode cX9_year 121 = .ok (.aload_n 0, 1) := by decide +kernel
theorem dX9_year_122 : decode cX9_year 122 = .ok (.iload 8, 2) := by decide +kernel
theorem dX9_year_124 : decode cX9_year 124 = .ok (.iload 9, 2) := by decide +kernel
theorem dX9_year_126 : decode cX9_year 126 = .ok (.invokevirtual 122, 3) := by decide +kernel
theorem dX9_year_129 : decode cX9_year 129 = .ok (.ifCond .eq 18, 3) := by decide +kernel
theorem dX9_year_132 : decode cX9_year 132 = .ok (.aload_n 0, 1) := by decide +kernel
theorem dX9_year_133 : decode cX9_year 133 = .ok (.iload 8, 2) := by decide +kernel
theorem dX9_year_135 : decode cX9_year 135 = .ok (.iload 9, 2) := by decide +kernel
theorem dX9_year_137 : decode cX9_year 137 = .ok (.aload_n 0, 1) := by decide +kernel
theorem dX9_year_138 : decode cX9_year 138 = .ok (.iload 8, 2) := by decide +kernel
theorem dX9_year_140 : decode cX9_year 140 = .ok (.invokevirtual 129, 3) := by decide +kernel
theorem dX9_year_143 : decode cX9_year 143 = .ok (.invokevirtual 157, 3) := by decide +kernel
theorem dX9_year_146 : decode cX9_year 146 = .ok (.pop, 1) := by decide +kernel
theorem dX9_year_147 : decode cX9_year 147 = .ok (.iinc 4 1, 3) := by decide +kernel
theorem dX9_year_150 : decode cX9_year 150 = .ok (.goto (-111), 3) := by decide +kernel
theorem dX9_year_153 : decode cX9_year 153 = .ok (.aload_n 0, 1) := by decide +kernel
theorem dX9_year_154 : decode cX9_year 154 = .ok (.getfield 13, 3) := by decide +kernel
theorem dX9_year_157 : decode cX9_year 157 = .ok (.iconst 0, 1) := by decide +kernel
theorem dX9_year_158 : decode cX9_year 158 = .ok (.iaload, 1) := by decide +kernel
theorem dX9_year_159 : decode cX9_year 159 = .ok (.aload_n 0, 1) := by decide +kernel
theorem dX9_year_160 : decode cX9_year 160 = .ok (.invokevirtual 119, 3) := by decide +kernel
theorem dX9_year_163 : decode cX9_year 163 = .ok (.invokestatic 141, 3) := by decide +kernel
theorem dX9_year_166 : decode cX9_year 166 = .ok (.isub, 1) := by decide +kernel
theorem dX9_year_167 : decode cX9_year 167 = .ok (.istore 4, 2) := by decide +kernel
theorem dX9_year_169 : decode cX9_year 169 = .ok (.iconst 0, 1) := by decide +kernel
theorem dX9_year_170 : decode cX9_year 170 = .ok (.istore 5, 2) := by decide +kernel
theorem dX9_year_172 : decode cX9_year 172 = .ok (.iconst 0, 1) := by decide +kernel
theorem dX9_year_173 : decode cX9_year 173 = .ok (.istore 6, 2) := by decide +kernel
theorem dX9_year_175 : decode cX9_year 175 = .ok (.iload 6, 2) := by decide +kernel
theorem dX9_year_177 : decode cX9_year 177 = .ok (.aload_n 0, 1) := by decide +kernel
theorem dX9_year_178 : decode cX9_year 178 = .ok (.getfield 13, 3) := by decide +kernel
theorem dX9_year_181 : decode cX9_year 181 = .ok (.iconst 0, 1) := by decide +kernel
theorem dX9_year_182 : decode cX9_year 182 = .ok (.iaload, 1) := by decide +kernel
theorem dX9_year_183 : decode cX9_year 183 = .ok (.if_icmp .ge 21, 3) := by decide +kernel
theorem dX9_year_186 : decode cX9_year 186 = .ok (.iload 5, 2) := by decide +kernel
theorem dX9_year_188 : decode cX9_year 188 = .ok (.aload_n 0, 1) := by decide +kernel
theorem dX9_year_189 : decode cX9_year 189 = .ok (.getfield 19, 3) := by decide +kernel
theorem dX9_year_192 : decode cX9_year 192 = .ok (.iload 6, 2) := by decide +kernel
theorem dX9_year_194 : decode cX9_year 194 = .ok (.iaload, 1) := by decide +kernel
theorem dX9_year_195 : decode cX9_year 195 = .ok (.iadd, 1) := by decide +kernel
theorem dX9_year_196 : decode cX9_year 196 = .ok (.istore 5, 2) := by decide +kernel
theorem dX9_year_198 : decode cX9_year 198 = .ok (.iinc 6 1, 3) := by decide +kernel
theorem dX9_year_201 : decode cX9_year 201 = .ok (.goto (-26), 3) := by decide +kernel
theorem dX9_year_204 : decode cX9_year 204 = .ok (.aload_n 0, 1) := by decide +kernel
theorem dX9_year_205 : decode cX9_year 205 = .ok (.invokevirtual 167, 3) := by decide +kernel
theorem dX9_year_208 : decode cX9_year 208 = .ok (.iload_n 3, 1) := by decide +kernel
theorem dX9_year_209 : decode cX9_year 209 = .ok (.ifCond .ne 8, 3) := by decide +kernel
theorem dX9_year_212 : decode cX9_year 212 = .ok (.iload 4, 2) := by decide +kernel
theorem dX9_year_214 : decode cX9_year 214 = .ok (.goto 5, 3) := by decide +kernel
theorem dX9_year_217 : decode cX9_year 217 = .ok (.iload 5, 2) := by decide +kernel
theorem dX9_year_219 : decode cX9_year 219 = .ok (.ireturn, 1) := by decide +kernel

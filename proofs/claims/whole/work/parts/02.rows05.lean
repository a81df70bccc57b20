set_option maxRecDepth 20000 in
theorem gX9_tells_X9_shades : GoodIn wsX9_tells (wsV RX9 151 RX9 yX9_shades wsX9_shades) := goodIn_app (goodIn_of _ (by decide +kernel)) ggX9_tells_X9_shades
set_option maxRecDepth 20000 in
theorem ggX9_tells_X9_ones : GoodIn wsX9_tells wsX9_ones := goodIn_r _ [14] (by decide +kernel) (by decide +kernel)
set_option maxRecDepth 20000 in
theorem gX9_tells_X9_ones : GoodIn wsX9_tells (va_wsS RX9 141 yX9_ones wsX9_ones) := goodIn_app (goodIn_of _ (by decide +kernel)) ggX9_tells_X9_ones
theorem dX9_tells_0 : decode cX9_tells 0 = .ok (.aload_n 0, 1) := by decide +kernel
theorem dX9_tells_1 : decode cX9_tells 1 = .ok (.getfield 13, 3) := by decide +kernel
theorem dX9_tells_4 : decode cX9_tells 4 = .ok (.bipush 21, 2) := by decide +kernel
theorem dX9_tells_6 : decode cX9_tells 6 = .ok (.iload_n 2, 1) := by decide +kernel
theorem dX9_tells_7 : decode cX9_tells 7 = .ok (.iadd, 1) := by decide +kernel
theorem dX9_tells_8 : decode cX9_tells 8 = .ok (.iaload, 1) := by decide +kernel
theorem dX9_tells_9 : decode cX9_tells 9 = .ok (.istore 4, 2) := by decide +kernel
theorem dX9_tells_11 : decode cX9_tells 11 = .ok (.aload_n 0, 1) := by decide +kernel
theorem dX9_tells_12 : decode cX9_tells 12 = .ok (.iload_n 2, 1) := by decide +kernel
theorem dX9_tells_13 : decode cX9_tells 13 = .ok (.iload_n 3, 1) := by decide +kernel
theorem dX9_tells_14 : decode cX9_tells 14 = .ok (.invokevirtual 151, 3) := by decide +kernel
theorem dX9_tells_17 : decode cX9_tells 17 = .ok (.istore 5, 2) := by decide +kernel
theorem dX9_tells_19 : decode cX9_tells 19 = .ok (.iload_n 3, 1) := by decide +kernel
theorem dX9_tells_20 : decode cX9_tells 20 = .ok (.aload_n 0, 1) := by decide +kernel
theorem dX9_tells_21 : decode cX9_tells 21 = .ok (.getfield 19, 3) := by decide +kernel
theorem dX9_tells_24 : decode cX9_tells 24 = .ok (.bipush 6, 2) := by decide +kernel
theorem dX9_tells_26 : decode cX9_tells 26 = .ok (.iload_n 2, 1) := by decide +kernel
theorem dX9_tells_27 : decode cX9_tells 27 = .ok (.iadd, 1) := by decide +kernel
theorem dX9_tells_28 : decode cX9_tells 28 = .ok (.iaload, 1) := by decide +kernel
theorem dX9_tells_29 : decode cX9_tells 29 = .ok (.iconst (-1), 1) := by decide +kernel
theorem dX9_tells_30 : decode cX9_tells 30 = .ok (.ixor, 1) := by decide +kernel
theorem dX9_tells_31 : decode cX9_tells 31 = .ok (.iand, 1) := by decide +kernel
theorem dX9_tells_32 : decode cX9_tells 32 = .ok (.istore 6, 2) := by decide +kernel
theorem dX9_tells_34 : decode cX9_tells 34 = .ok (.aload_n 0, 1) := by decide +kernel
theorem dX9_tells_35 : decode cX9_tells 35 = .ok (.getfield 19, 3) := by decide +kernel
theorem dX9_tells_38 : decode cX9_tells 38 = .ok (.iload 4, 2) := by decide +kernel
theorem dX9_tells_40 : decode cX9_tells 40 = .ok (.dup2, 1) := by decide +kernel
theorem dX9_tells_41 : decode cX9_tells 41 = .ok (.iaload, 1) := by decide +kernel
theorem dX9_tells_42 : decode cX9_tells 42 = .ok (.iload_n 1, 1) := by decide +kernel
theorem dX9_tells_43 : decode cX9_tells 43 = .ok (.iload 4, 2) := by decide +kernel
theorem dX9_tells_45 : decode cX9_tells 45 = .ok (.if_icmp .ne 10, 3) := by decide +kernel
theorem dX9_tells_48 : decode cX9_tells 48 = .ok (.iload 5, 2) := by decide +kernel
theorem dX9_tells_50 : decode cX9_tells 50 = .ok (.iconst 2, 1) := by decide +kernel
theorem dX9_tells_51 : decode cX9_tells 51 = .ok (.idiv, 1) := by decide +kernel
theorem dX9_tells_52 : decode cX9_tells 52 = .ok (.goto 5, 3) := by decide +kernel
theorem dX9_tells_55 : decode cX9_tells 55 = .ok (.iload 5, 2) := by decide +kernel
theorem dX9_tells_57 : decode cX9_tells 57 = .ok (.iadd, 1) := by decide +kernel
theorem dX9_tells_58 : decode cX9_tells 58 = .ok (.iastore, 1) := by decide +kernel
theorem dX9_tells_59 : decode cX9_tells 59 = .ok (.aload_n 0, 1) := by decide +kernel
theorem dX9_tells_60 : decode cX9_tells 60 = .ok (.getfield 19, 3) := by decide +kernel
theorem dX9_tells_63 : decode cX9_tells 63 = .ok (.bipush 6, 2) := by decide +kernel
theorem dX9_tells_65 : decode cX9_tells 65 = .ok (.iload_n 2, 1) := by decide +kernel
theorem dX9_tells_66 : decode cX9_tells 66 = .ok (.iadd, 1) := by decide +kernel
theorem dX9_tells_67 : decode cX9_tells 67 = .ok (.dup2, 1) := by decide +kernel
theorem dX9_tells_68 : decode cX9_tells 68 = .ok (.iaload, 1) := by decide +kernel
theorem dX9_tells_69 : decode cX9_tells 69 = .ok (.iload_n 3, 1) := by decide +kernel
theorem dX9_tells_70 : decode cX9_tells 70 = .ok (.ior, 1) := by decide +kernel
theorem dX9_tells_71 : decode cX9_tells 71 = .ok (.iastore, 1) := by decide +kernel
theorem dX9_tells_72 : decode cX9_tells 72 = .ok (.iconst 0, 1) := by decide +kernel
theorem dX9_tells_73 : decode cX9_tells 73 = .ok (.istore 7, 2) := by decide +kernel
theorem dX9_tells_75 : decode cX9_tells 75 = .ok (.iload 7, 2) := by decide +kernel
theorem dX9_tells_77 : decode cX9_tells 77 = .ok (.aload_n 0, 1) := by decide +kernel
theorem dX9_tells_78 : decode cX9_tells 78 = .ok (.getfield 13, 3) := by decide +kernel
theorem dX9_tells_81 : decode cX9_tells 81 = .ok (.iconst 0, 1) := by decide +kernel
theorem dX9_tells_82 : decode cX9_tells 82 = .ok (.iaload, 1) := by decide +kernel
theorem dX9_tells_83 : decode cX9_tells 83 = .ok (.if_icmp .ge 49, 3) := by decide +kernel
theorem dX9_tells_86 : decode cX9_tells 86 = .ok (.aload_n 0, 1) := by decide +kernel
theorem dX9_tells_87 : decode cX9_tells 87 = .ok (.getfield 19, 3) := by decide +kernel
theorem dX9_tells_90 : decode cX9_tells 90 = .ok (.iload 7, 2) := by decide +kernel
theorem dX9_tells_92 : decode cX9_tells 92 = .ok (.dup2, 1) := by decide +kernel
theorem dX9_tells_93 : decode cX9_tells 93 = .ok (.iaload, 1) := by decide +kernel
theorem dX9_tells_94 : decode cX9_tells 94 = .ok (.iload 6, 2) := by decide +kernel
theorem dX9_tells_96 : decode cX9_tells 96 = .ok (.iload 7, 2) := by decide +kernel
theorem dX9_tells_98 : decode cX9_tells 98 = .ok (.ishr, 1) := by decide +kernel
theorem dX9_tells_99 : decode cX9_tells 99 = .ok (.iconst 1, 1) := by decide +kernel
theorem dX9_tells_100 : decode cX9_tells 100 = .ok (.iand, 1) := by decide +kernel
theorem dX9_tells_101 : decode cX9_tells 101 = .ok (.iconst 1, 1) := by decide +kernel
theorem dX9_tells_102 : decode cX9_tells 102 = .ok (.if_icmp .ne 21, 3) := by decide +kernel
theorem dX9_tells_105 : decode cX9_tells 105 = .ok (.aload_n 0, 1) := by decide +kernel
theorem dX9_tells_106 : decode cX9_tells 106 = .ok (.getfield 13, 3) := by decide +kernel
theorem dX9_tells_109 : decode cX9_tells 109 = .ok (.bipush 9, 2) := by decide +kernel
theorem dX9_tells_111 : decode cX9_tells 111 = .ok (.iload 7, 2) := by decide +kernel
theorem dX9_tells_113 : decode cX9_tells 113 = .ok (.iadd, 1) := by decide +kernel
theorem dX9_tells_114 : decode cX9_tells 114 = .ok (.iaload, 1) := by decide +kernel
theorem dX9_tells_115 : decode cX9_tells 115 = .ok (.iconst 4, 1) := by decide +kernel
theorem dX9_tells_116 : decode cX9_tells 116 = .ok (.if_icmp .ne 7, 3) := by decide +kernel
theorem dX9_tells_119 : decode cX9_tells 119 = .ok (.iconst 1, 1) := by decide +kernel
theorem dX9_tells_120 : decode cX9_tells 120 = .ok (.goto 4, 3) := by decide +kernel
theorem dX9_tells_123 : decode cX9_tells 123 = .ok (.iconst 0, 1) := by decide +kernel
theorem dX9_tells_124 : decode cX9_tells 124 = .ok (.iadd, 1) := by decide +kernel
theorem dX9_tells_125 : decode cX9_tells 125 = .ok (.iastore, 1) := by decide +kernel
theorem dX9_tells_126 : decode cX9_tells 126 = .ok (.iinc 7 1, 3) := by decide +kernel
theorem dX9_tells_129 : decode cX9_tells 129 = .ok (.goto (-54), 3) := by decide +kernel
theorem dX9_tells_132 : decode cX9_tells 132 = .ok (.iload 6, 2) := by decide +kernel
theorem dX9_tells_134 : decode cX9_tells 134 = .ok (.invokestatic 141, 3) := by decide +kernel
theorem dX9_tells_137 : decode cX9_tells 137 = .ok (.ireturn, 1) := by decide +kernel
theorem dX9_keeps_0 : decode cX9_keeps 0 = .ok (.aload_n 0, 1) := by decide +kernel
theorem dX9_keeps_1 : decode cX9_keeps 1 = .ok (.getfield 104, 3) := by decide +kernel
theorem dX9_keeps_4 : decode cX9_keeps 4 = .ok (.bipush 8, 2) := by decide +kernel
theorem dX9_keeps_6 : decode cX9_keeps 6 = .ok (.if_icmp .ne 42, 3) := by decide +kernel
theorem dX9_keeps_9 : decode cX9_keeps 9 = .ok (.iconst 0, 1) := by decide +kernel
theorem dX9_keeps_10 : decode cX9_keeps 10 = .ok (.istore_n 1, 1) := by decide +kernel
theorem dX9_keeps_11 : decode cX9_keeps 11 = .ok (.iload_n 1, 1) := by decide +kernel
theorem dX9_keeps_12 : decode cX9_keeps 12 = .ok (.bipush 105, 2) := by decide +kernel
theorem dX9_keeps_14 : decode cX9_keeps 14 = .ok (.if_icmp .ge 24, 3) := by decide +kernel
theorem dX9_keeps_17 : decode cX9_keeps 17 = .ok (.aload_n 0, 1) := by decide +kernel
theorem dX9_keeps_18 : decode cX9_keeps 18 = .ok (.getfield 22, 3) := by decide +kernel
theorem dX9_keeps_21 : decode cX9_keeps 21 = .ok (.iload_n 1, 1) := by decide +kernel
theorem dX9_keeps_22 : decode cX9_keeps 22 = .ok (.aload_n 0, 1) := by decide +kernel
theorem dX9_keeps_23 : decode cX9_keeps 23 = .ok (.getfield 22, 3) := by decide +kernel
theorem dX9_keeps_26 : decode cX9_keeps 26 = .ok (.iload_n 1, 1) := by decide +kernel
theorem dX9_keeps_27 : decode cX9_keeps 27 = .ok (.bipush 15, 2) := by decide +kernel
theorem dX9_keeps_29 : decode cX9_keeps 29 = .ok (.iadd, 1) := by decide +kernel
theorem dX9_keeps_30 : decode cX9_keeps 30 = .ok (.iaload, 1) := by decide +kernel
theorem dX9_keeps_31 : decode cX9_keeps 31 = .ok (.iastore, 1) := by decide +kernel
theorem dX9_keeps_32 : decode cX9_keeps 32 = .ok (.iinc 1 1, 3) := by decide +kernel
theorem dX9_keeps_35 : decode cX9_keeps 35 = .ok (.goto (-24), 3) := by decide +kernel
theorem dX9_keeps_38 : decode cX9_keeps 38 = .ok (.aload_n 0, 1) := by decide +kernel
theorem dX9_keeps_39 : decode cX9_keeps 39 = .ok (.dup, 1) := by decide +kernel
theorem dX9_keeps_40 : decode cX9_keeps 40 = .ok (.getfield 104, 3) := by decide +kernel
theorem dX9_keeps_43 : decode cX9_keeps 43 = .ok (.iconst 1, 1) := by decide +kernel
theorem dX9_keeps_44 : decode cX9_keeps 44 = .ok (.isub, 1) := by decide +kernel
theorem dX9_keeps_45 : decode cX9_keeps 45 = .ok (.putfield 104, 3) := by decide +kernel
theorem dX9_keeps_48 : decode cX9_keeps 48 = .ok (.iconst 0, 1) := by decide +kernel
theorem dX9_keeps_49 : decode cX9_keeps 49 = .ok (.istore_n 1, 1) := by decide +kernel
theorem dX9_keeps_50 : decode cX9_keeps 50 = .ok (.iload_n 1, 1) := by decide +kernel
theorem dX9_keeps_51 : decode cX9_keeps 51 = .ok (.bipush 15, 2) := by decide +kernel
theorem dX9_keeps_53 : decode cX9_keeps 53 = .ok (.if_icmp .ge 29, 3) := by decide +kernel
theorem dX9_keeps_56 : decode cX9_keeps 56 = .ok (.aload_n 0, 1) := by decide +kernel
theorem dX9_keeps_57 : decode cX9_keeps 57 = .ok (.getfield 22, 3) := by decide +kernel
theorem dX9_keeps_60 : decode cX9_keeps 60 = .ok (.bipush 15, 2) := by decide +kernel
theorem dX9_keeps_62 : decode cX9_keeps 62 = .ok (.aload_n 0, 1) := by decide +kernel
theorem dX9_keeps_63 : decode cX9_keeps 63 = .ok (.getfield 104, 3) := by decide +kernel
theorem dX9_keeps_66 : decode cX9_keeps 66 = .ok (.imul, 1) := by decide +kernel
theorem dX9_keeps_67 : decode cX9_keeps 67 = .ok (.iload_n 1, 1) := by decide +kernel
theorem dX9_keeps_68 : decode cX9_keeps 68 = .ok (.iadd, 1) := by decide +kernel
theorem dX9_keeps_69 : decode cX9_keeps 69 = .ok (.aload_n 0, 1) := by decide +kernel
theorem dX9_keeps_70 : decode cX9_keeps 70 = .ok (.getfield 19, 3) := by decide +kernel
theorem dX9_keeps_73 : decode cX9_keeps 73 = .ok (.iload_n 1, 1) := by decide +kernel
theorem dX9_keeps_74 : decode cX9_keeps 74 = .ok (.iaload, 1) := by decide +kernel
theorem dX9_keeps_75 : decode cX9_keeps 75 = .ok (.iastore, 1) := by decide +kernel
theorem dX9_keeps_76 : decode cX9_keeps 76 = .ok (.iinc 1 1, 3) := by decide +kernel
theorem dX9_keeps_79 : decode cX9_keeps 79 = .ok (.goto (-29), 3) := by decide +kernel
theorem dX9_keeps_82 : decode cX9_keeps 82 = .ok (.aload_n 0, 1) := by decide +kernel
theorem dX9_keeps_83 : decode cX9_keeps 83 = .ok (.dup, 1) := by decide +kernel
theorem dX9_keeps_84 : decode cX9_keeps 84 = .ok (.getfield 104, 3) := by decide +kernel
theorem dX9_keeps_87 : decode cX9_keeps 87 = .ok (.iconst 1, 1) := by decide +kernel
theorem dX9_keeps_88 : decode cX9_keeps 88 = .ok (.iadd, 1) := by decide +kernel
theorem dX9_keeps_89 : decode cX9_keeps 89 = .ok (.putfield 104, 3) := by decide +kernel
theorem dX9_keeps_92 : decode cX9_keeps 92 = .ok (.return_, 1) := by decide +kernel
set_option maxRecDepth 20000 in
theorem ggX9_tell_X9_isPerson : GoodIn wsX9_tell wsX9_isPerson := goodIn_r _ [5, 6, 7, 8, 4, 9, 55, 56, 57, 58, 59, 60, 61, 62, 63, 64, 65, 66, 67, 68, 69, 70, 71, 72, 73, 74] (by decide +kernel) (by decide +kernel)
set_option maxRecDepth 20000 in
theorem gX9_tell_X9_isPerson : GoodIn wsX9_tell (wsV RX9 126 RX9 yX9_isPerson wsX9_isPerson) := goodIn_app (goodIn_of _ (by decide +kernel)) ggX9_tell_X9_isPerson
set_option maxRecDepth 20000 in
theorem ggX9_tell_X9_isSecret : GoodIn wsX9_tell wsX9_isSecret := goodIn_r _ [13, 6, 7, 8, 4, 9, 55, 56, 57, 58, 59, 60, 61, 62, 63, 64, 65, 66, 67, 68, 69, 70, 71, 72, 73, 74] (by decide +kernel) (by decide +kernel)
set_option maxRecDepth 20000 in
theorem gX9_tell_X9_isSecret : GoodIn wsX9_tell (wsV RX9 138 RX9 yX9_isSecret wsX9_isSecret) := goodIn_app (goodIn_of _ (by decide +kernel)) ggX9_tell_X9_isSecret
set_option maxRecDepth 20000 in
theorem ggX9_tell_X9_in : GoodIn wsX9_tell wsX9_in := goodIn_r _ [9] (by decide +kernel) (by decide +kernel)
set_option maxRecDepth 20000 in
theorem gX9_tell_X9_in : GoodIn wsX9_tell (va_wsS RX9 62 yX9_in wsX9_in) := goodIn_app (goodIn_of _ (by decide +kernel)) ggX9_tell_X9_in
set_option maxRecDepth 20000 in
theorem ggX9_tell_X9_met : GoodIn wsX9_tell wsX9_met := goodIn_r _ [17, 6, 18, 19, 20, 4, 21, 22, 23, 24, 25, 26, 55, 56, 57, 58, 59, 60, 61, 62, 63, 64, 65, 66, 67, 68, 69, 70, 71, 72, 73, 74] (by decide +kernel) (by decide +kernel)
set_option maxRecDepth 20000 in
theorem gX9_tell_X9_met : GoodIn wsX9_tell (wsV RX9 129 RX9 yX9_met wsX9_met) := goodIn_app (goodIn_of _ (by decide +kernel)) ggX9_tell_X9_met
set_option maxRecDepth 20000 in
theorem ggX9_tell_X9_knows : GoodIn wsX9_tell wsX9_knows := goodIn_r _ [30, 22, 55, 56, 57, 58, 59, 60, 61, 62, 63, 64, 65, 66, 67, 68, 69, 70, 71, 72, 73, 74] (by decide +kernel) (by decide +kernel)
set_option maxRecDepth 20000 in
theorem gX9_tell_X9_knows : GoodIn wsX9_tell (wsV RX9 122 RX9 yX9_knows wsX9_knows) := goodIn_app (goodIn_of _ (by decide +kernel)) ggX9_tell_X9_knows
set_option maxRecDepth 20000 in
theorem ggX9_tell_X9_keeps : GoodIn wsX9_tell wsX9_keeps := goodIn_r _ [34, 35, 36, 22, 55, 56, 57, 58, 59, 60, 61, 62, 63, 64, 65, 66, 67, 68, 69, 70, 71, 72, 73, 74] (by decide +kernel) (by decide +kernel)
set_option maxRecDepth 20000 in
theorem gX9_tell_X9_keeps : GoodIn wsX9_tell (wsV RX9 154 RX9 yX9_keeps wsX9_keeps) := goodIn_app (goodIn_of _ (by decide +kernel)) ggX9_tell_X9_keeps
set_option maxRecDepth 20000 in
theorem ggX9_tell_X9_tells : GoodIn wsX9_tell wsX9_tells := goodIn_r _ [40, 6, 22, 41, 42, 43, 4, 44, 45, 46, 47, 48, 49, 50, 51, 27, 28, 29, 30, 52, 53, 54, 18, 19, 20, 21, 55, 56, 57, 58, 59, 60, 61, 62, 63, 64, 65, 66, 67, 68, 69, 70, 71, 72, 73, 74] (by decide +kernel) (by decide +kernel)
set_option maxRecDepth 20000 in
theorem gX9_tell_X9_tells : GoodIn wsX9_tell (wsV RX9 157 RX9 yX9_tells wsX9_tells) := goodIn_app (goodIn_of _ (by decide +kernel)) ggX9_tell_X9_tells
theorem dX9_tell_0 : decode cX9_tell 0 = .ok (.aload_n 0, 1) := by decide +kernel
theorem dX9_tell_1 : decode cX9_tell 1 = .ok (.iload_n 1, 1) := by decide +kernel
theorem dX9_tell_2 : decode cX9_tell 2 = .ok (.invokevirtual 126, 3) := by decide +kernel
theorem dX9_tell_5 : decode cX9_tell 5 = .ok (.ifCond .eq 33, 3) := by decide +kernel
theorem dX9_tell_8 : decode cX9_tell 8 = .ok (.aload_n 0, 1) := by decide +kernel
theorem dX9_tell_9 : decode cX9_tell 9 = .ok (.iload_n 2, 1) := by decide +kernel
theorem dX9_tell_10 : decode cX9_tell 10 = .ok (.invokevirtual 138, 3) := by decide +kernel
theorem dX9_tell_13 : decode cX9_tell 13 = .ok (.ifCond .eq 25, 3) := by decide +kernel
theorem dX9_tell_16 : decode cX9_tell 16 = .ok (.iload_n 3, 1) := by decide +kernel
theorem dX9_tell_17 : decode cX9_tell 17 = .ok (.iconst 1, 1) := by decide +kernel
theorem dX9_tell_18 : decode cX9_tell 18 = .ok (.bipush 63, 2) := by decide +kernel
theorem dX9_tell_20 : decode cX9_tell 20 = .ok (.invokestatic 62, 3) := by decide +kernel
theorem dX9_tell_23 : decode cX9_tell 23 = .ok (.ifCond .eq 15, 3) := by decide +kernel
theorem dX9_tell_26 : decode cX9_tell 26 = .ok (.iload_n 3, 1) := by decide +kernel
theorem dX9_tell_27 : decode cX9_tell 27 = .ok (.aload_n 0, 1) := by decide +kernel
theorem dX9_tell_28 : decode cX9_tell 28 = .ok (.iload_n 1, 1) := by decide +kernel
theorem dX9_tell_29 : decode cX9_tell 29 = .ok (.invokevirtual 129, 3) := by decide +kernel
theorem dX9_tell_32 : decode cX9_tell 32 = .ok (.iconst (-1), 1) := by decide +kernel
theorem dX9_tell_33 : decode cX9_tell 33 = .ok (.ixor, 1) := by decide +kernel
theorem dX9_tell_34 : decode cX9_tell 34 = .ok (.iand, 1) := by decide +kernel
theorem dX9_tell_35 : decode cX9_tell 35 = .ok (.ifCond .eq 5, 3) := by decide +kernel
theorem dX9_tell_38 : decode cX9_tell 38 = .ok (.iconst (-1), 1) := by decide +kernel
theorem dX9_tell_39 : decode cX9_tell 39 = .ok (.ireturn, 1) := by decide +kernel
theorem dX9_tell_40 : decode cX9_tell 40 = .ok (.aload_n 0, 1) := by decide +kernel
theorem dX9_tell_41 : decode cX9_tell 41 = .ok (.iload_n 1, 1) := by decide +kernel
theorem dX9_tell_42 : decode cX9_tell 42 = .ok (.iload_n 2, 1) := by decide +kernel
theorem dX9_tell_43 : decode cX9_tell 43 = .ok (.invokevirtual 122, 3) := by decide +kernel
theorem dX9_tell_46 : decode cX9_tell 46 = .ok (.ifCond .ne 6, 3) := by decide +kernel
theorem dX9_tell_49 : decode cX9_tell 49 = .ok (.bipush (-2), 2) := by decide +kernel
theorem dX9_tell_51 : decode cX9_tell 51 = .ok (.ireturn, 1) := by decide +kernel
theorem dX9_tell_52 : decode cX9_tell 52 = .ok (.aload_n 0, 1) := by decide +kernel
theorem dX9_tell_53 : decode cX9_tell 53 = .ok (.invokevirtual 154, 3) := by decide +kernel
theorem dX9_tell_56 : decode cX9_tell 56 = .ok (.aload_n 0, 1) := by decide +kernel
theorem dX9_tell_57 : decode cX9_tell 57 = .ok (.iload_n 1, 1) := by decide +kernel
theorem dX9_tell_58 : decode cX9_tell 58 = .ok (.iload_n 2, 1) := by decide +kernel
theorem dX9_tell_59 : decode cX9_tell 59 = .ok (.iload_n 3, 1) := by decide +kernel
theorem dX9_tell_60 : decode cX9_tell 60 = .ok (.invokevirtual 157, 3) := by decide +kernel
theorem dX9_tell_63 : decode cX9_tell 63 = .ok (.ireturn, 1) := by decide +kernel
set_option maxRecDepth 20000 in
theorem ggX9_goes_X9_knows : GoodIn wsX9_goes wsX9_knows := goodIn_r _ [7, 2, 38, 39, 40, 41, 42, 43, 44, 45, 46, 47, 48, 49, 50, 51, 52, 53, 54, 55, 56, 57] (by decide +kernel) (by decide +kernel)
set_option maxRecDepth 20000 in
theorem gX9_goes_X9_knows : GoodIn wsX9_goes (wsV RX9 122 RX9 yX9_knows wsX9_knows) := goodIn_app (goodIn_of _ (by decide +kernel)) ggX9_goes_X9_knows
set_option maxRecDepth 20000 in
theorem ggX9_goes_X9_met : GoodIn wsX9_goes wsX9_met := goodIn_r _ [11, 1, 12, 13, 14, 6, 15, 2, 16, 17, 18, 19, 38, 39, 40, 41, 42, 43, 44, 45, 46, 47, 48, 49, 50, 51, 52, 53, 54, 55, 56, 57] (by decide +kernel) (by decide +kernel)
set_option maxRecDepth 20000 in
theorem gX9_goes_X9_met : GoodIn wsX9_goes (wsV RX9 129 RX9 yX9_met wsX9_met) := goodIn_app (goodIn_of _ (by decide +kernel)) ggX9_goes_X9_met
set_option maxRecDepth 20000 in
theorem ggX9_goes_X9_tells : GoodIn wsX9_goes wsX9_tells := goodIn_r _ [23, 1, 2, 24, 25, 26, 6, 27, 28, 29, 30, 31, 32, 33, 34, 3, 4, 5, 7, 35, 36, 37, 12, 13, 14, 15, 38, 39, 40, 41, 42, 43, 44, 45, 46, 47, 48, 49, 50, 51, 52, 53, 54, 55, 56, 57] (by decide +kernel) (by decide +kernel)
set_option maxRecDepth 20000 in
theorem gX9_goes_X9_tells : GoodIn wsX9_goes (wsV RX9 157 RX9 yX9_tells wsX9_tells) := goodIn_app (goodIn_of _ (by decide +kernel)) ggX9_goes_X9_tells
theorem dX9_goes_0 : decode cX9_goes 0 = .ok (.iconst 0, 1) := by decide +kernel
theorem dX9_goes_1 : decode cX9_goes 1 = .ok (.istore_n 1, 1) := by decide +kernel
theorem dX9_goes_2 : decode cX9_goes 2 = .ok (.iconst 0, 1) := by decide +kernel
theorem dX9_goes_3 : decode cX9_goes 3 = .ok (.istore_n 2, 1) := by decide +kernel
theorem dX9_goes_4 : decode cX9_goes 4 = .ok (.iload_n 2, 1) := by decide +kernel
theorem dX9_goes_5 : decode cX9_goes 5 = .ok (.aload_n 0, 1) := by decide +kernel
theorem dX9_goes_6 : decode cX9_goes 6 = .ok (.getfield 13, 3) := by decide +kernel
theorem dX9_goes_9 : decode cX9_goes 9 = .ok (.iconst 0, 1) := by decide +kernel
theorem dX9_goes_10 : decode cX9_goes 10 = .ok (.iaload, 1) := by decide +kernel
theorem dX9_goes_11 : decode cX9_goes 11 = .ok (.if_icmp .ge 151, 3) := by decide +kernel
theorem dX9_goes_14 : decode cX9_goes 14 = .ok (.iconst (-1), 1) := by decide +kernel
theorem dX9_goes_15 : decode cX9_goes 15 = .ok (.istore_n 3, 1) := by decide +kernel
theorem dX9_goes_16 : decode cX9_goes 16 = .ok (.aload_n 0, 1) := by decide +kernel
theorem dX9_goes_17 : decode cX9_goes 17 = .ok (.getfield 13, 3) := by decide +kernel
theorem dX9_goes_20 : decode cX9_goes 20 = .ok (.iconst 1, 1) := by decide +kernel
theorem dX9_goes_21 : decode cX9_goes 21 = .ok (.iaload, 1) := by decide +kernel
theorem dX9_goes_22 : decode cX9_goes 22 = .ok (.iconst 1, 1) := by decide +kernel
theorem dX9_goes_23 : decode cX9_goes 23 = .ok (.isub, 1) := by decide +kernel
theorem dX9_goes_24 : decode cX9_goes 24 = .ok (.istore 4, 2) := by decide +kernel
theorem dX9_goes_26 : decode cX9_goes 26 = .ok (.iload 4, 2) := by decide +kernel
theorem dX9_goes_28 : decode cX9_goes 28 = .ok (.ifCond .lt 102, 3) := by decide +kernel
theorem dX9_goes_31 : decode cX9_goes 31 = .ok (.aload_n 0, 1) := by decide +kernel
theorem dX9_goes_32 : decode cX9_goes 32 = .ok (.getfield 13, 3) := by decide +kernel
theorem dX9_goes_35 : decode cX9_goes 35 = .ok (.bipush 21, 2) := by decide +kernel
theorem dX9_goes_37 : decode cX9_goes 37 = .ok (.iload 4, 2) := by decide +kernel
theorem dX9_goes_39 : decode cX9_goes 39 = .ok (.iadd, 1) := by decide +kernel
theorem dX9_goes_40 : decode cX9_goes 40 = .ok (.iaload, 1) := by decide +kernel
theorem dX9_goes_41 : decode cX9_goes 41 = .ok (.iload_n 2, 1) := by decide +kernel
theorem dX9_goes_42 : decode cX9_goes 42 = .ok (.if_icmp .eq 34, 3) := by decide +kernel
theorem dX9_goes_45 : decode cX9_goes 45 = .ok (.aload_n 0, 1) := by decide +kernel
theorem dX9_goes_46 : decode cX9_goes 46 = .ok (.iload_n 2, 1) := by decide +kernel
theorem dX9_goes_47 : decode cX9_goes 47 = .ok (.iload 4, 2) := by decide +kernel
theorem dX9_goes_49 : decode cX9_goes 49 = .ok (.invokevirtual 122, 3) := by decide +kernel
theorem dX9_goes_52 : decode cX9_goes 52 = .ok (.ifCond .eq 24, 3) := by decide +kernel
theorem dX9_goes_55 : decode cX9_goes 55 = .ok (.aload_n 0, 1) := by decide +kernel
theorem dX9_goes_56 : decode cX9_goes 56 = .ok (.iload_n 2, 1) := by decide +kernel
theorem dX9_goes_57 : decode cX9_goes 57 = .ok (.invokevirtual 129, 3) := by decide +kernel
theorem dX9_goes_60 : decode cX9_goes 60 = .ok (.aload_n 0, 1) := by decide +kernel
theorem dX9_goes_61 : decode cX9_goes 61 = .ok (.getfield 19, 3) := by decide +kernel
theorem dX9_goes_64 : decode cX9_goes 64 = .ok (.bipush 6, 2) := by decide +kernel
theorem dX9_goes_66 : decode cX9_goes 66 = .ok (.iload 4, 2) := by decide +kernel
theorem dX9_goes_68 : decode cX9_goes 68 = .ok (.iadd, 1) := by decide +kernel
theorem dX9_goes_69 : decode cX9_goes 69 = .ok (.iaload, 1) := by decide +kernel
theorem dX9_goes_70 : decode cX9_goes 70 = .ok (.iconst (-1), 1) := by decide +kernel
theorem dX9_goes_71 : decode cX9_goes 71 = .ok (.ixor, 1) := by decide +kernel
theorem dX9_goes_72 : decode cX9_goes 72 = .ok (.iand, 1) := by decide +kernel
theorem dX9_goes_73 : decode cX9_goes 73 = .ok (.goto 4, 3) := by decide +kernel
theorem dX9_goes_76 : decode cX9_goes 76 = .ok (.iconst 0, 1) := by decide +kernel
theorem dX9_goes_77 : decode cX9_goes 77 = .ok (.istore 5, 2) := by decide +kernel
theorem dX9_goes_79 : decode cX9_goes 79 = .ok (.aload_n 0, 1) := by decide +kernel
theorem dX9_goes_80 : decode cX9_goes 80 = .ok (.getfield 13, 3) := by decide +kernel
theorem dX9_goes_83 : decode cX9_goes 83 = .ok (.iconst 0, 1) := by decide +kernel
theorem dX9_goes_84 : decode cX9_goes 84 = .ok (.iaload, 1) := by decide +kernel
theorem dX9_goes_85 : decode cX9_goes 85 = .ok (.iconst 1, 1) := by decide +kernel
theorem dX9_goes_86 : decode cX9_goes 86 = .ok (.isub, 1) := by decide +kernel
theorem dX9_goes_87 : decode cX9_goes 87 = .ok (.istore 6, 2) := by decide +kernel
theorem dX9_goes_89 : decode cX9_goes 89 = .ok (.iload 6, 2) := by decide +kernel
theorem dX9_goes_91 : decode cX9_goes 91 = .ok (.ifCond .lt 33, 3) := by decide +kernel
theorem dX9_goes_94 : decode cX9_goes 94 = .ok (.iload 5, 2) := by decide +kernel
theorem dX9_goes_96 : decode cX9_goes 96 = .ok (.iload 6, 2) := by decide +kernel
theorem dX9_goes_98 : decode cX9_goes 98 = .ok (.ishr, 1) := by decide +kernel
theorem dX9_goes_99 : decode cX9_goes 99 = .ok (.iconst 1, 1) := by decide +kernel
theorem dX9_goes_100 : decode cX9_goes 100 = .ok (.iand, 1) := by decide +kernel
theorem dX9_goes_101 : decode cX9_goes 101 = .ok (.iconst 1, 1) := by decide +kernel
theorem dX9_goes_102 : decode cX9_goes 102 = .ok (.if_icmp .ne 14, 3) := by decide +kernel
theorem dX9_goes_105 : decode cX9_goes 105 = .ok (.bipush 8, 2) := by decide +kernel
theorem dX9_goes_107 : decode cX9_goes 107 = .ok (.iload 4, 2) := by decide +kernel
theorem dX9_goes_109 : decode cX9_goes 109 = .ok (.imul, 1) := by decide +kernel
theorem dX9_goes_110 : decode cX9_goes 110 = .ok (.iload 6, 2) := by decide +kernel
theorem dX9_goes_112 : decode cX9_goes 112 = .ok (.iadd, 1) := by decide +kernel
theorem dX9_goes_113 : decode cX9_goes 113 = .ok (.goto 4, 3) := by decide +kernel
theorem dX9_goes_116 : decode cX9_goes 116 = .ok (.iload_n 3, 1) := by decide +kernel
theorem dX9_goes_117 : decode cX9_goes 117 = .ok (.istore_n 3, 1) := by decide +kernel
theorem dX9_goes_118 : decode cX9_goes 118 = .ok (.iinc 6 (-1), 3) := by decide +kernel
theorem dX9_goes_121 : decode cX9_goes 121 = .ok (.goto (-32), 3) := by decide +kernel
theorem dX9_goes_124 : decode cX9_goes 124 = .ok (.iinc 4 (-1), 3) := by decide +kernel
theorem dX9_goes_127 : decode cX9_goes 127 = .ok (.goto (-101), 3) := by decide +kernel
theorem dX9_goes_130 : decode cX9_goes 130 = .ok (.iload_n 1, 1) := by decide +kernel
theorem dX9_goes_131 : decode cX9_goes 131 = .ok (.iload_n 3, 1) := by decide +kernel
theorem dX9_goes_132 : decode cX9_goes 132 = .ok (.ifCond .ge 7, 3) := by decide +kernel
theorem dX9_goes_135 : decode cX9_goes 135 = .ok (.iconst 0, 1) := by decide +kernel
theorem dX9_goes_136 : decode cX9_goes 136 = .ok (.goto 18, 3) := by decide +kernel
theorem dX9_goes_139 : decode cX9_goes 139 = .ok (.aload_n 0, 1) := by decide +kernel
theorem dX9_goes_140 : decode cX9_goes 140 = .ok (.iload_n 2, 1) := by decide +kernel
theorem dX9_goes_141 : decode cX9_goes 141 = .ok (.iload_n 3, 1) := by decide +kernel
theorem dX9_goes_142 : decode cX9_goes 142 = .ok (.bipush 8, 2) := by decide +kernel
theorem dX9_goes_144 : decode cX9_goes 144 = .ok (.idiv, 1) := by decide +kernel
theorem dX9_goes_145 : decode cX9_goes 145 = .ok (.iconst 1, 1) := by decide +kernel
theorem dX9_goes_146 : decode cX9_goes 146 = .ok (.iload_n 3, 1) := by decide +kernel
theorem dX9_goes_147 : decode cX9_goes 147 = .ok (.bipush 8, 2) := by decide +kernel
theorem dX9_goes_149 : decode cX9_goes 149 = .ok (.irem, 1) := by decide +kernel
theorem dX9_goes_150 : decode cX9_goes 150 = .ok (.ishl, 1) := by decide +kernel
theorem dX9_goes_151 : decode cX9_goes 151 = .ok (.invokevirtual 157, 3) := by decide +kernel
theorem dX9_goes_154 : decode cX9_goes 154 = .ok (.iadd, 1) := by decide +kernel
theorem dX9_goes_155 : decode cX9_goes 155 = .ok (.istore_n 1, 1) := by decide +kernel
theorem dX9_goes_156 : decode cX9_goes 156 = .ok (.iinc 2 1, 3) := by decide +kernel
theorem dX9_goes_159 : decode cX9_goes 159 = .ok (.goto (-155), 3) := by decide +kernel
theorem dX9_goes_162 : decode cX9_goes 162 = .ok (.aload_n 0, 1) := by decide +kernel
theorem dX9_goes_163 : decode cX9_goes 163 = .ok (.getfield 19, 3) := by decide +kernel
theorem dX9_goes_166 : decode cX9_goes 166 = .ok (.bipush 14, 2) := by decide +kernel
theorem dX9_goes_168 : decode cX9_goes 168 = .ok (.dup2, 1) := by decide +kernel
theorem dX9_goes_169 : decode cX9_goes 169 = .ok (.iaload, 1) := by decide +kernel
theorem dX9_goes_170 : decode cX9_goes 170 = .ok (.iconst 1, 1) := by decide +kernel
theorem dX9_goes_171 : decode cX9_goes 171 = .ok (.iadd, 1) := by decide +kernel
theorem dX9_goes_172 : decode cX9_goes 172 = .ok (.iastore, 1) := by decide +kernel
theorem dX9_goes_173 : decode cX9_goes 173 = .ok (.iload_n 1, 1) := by decide +kernel
theorem dX9_goes_174 : decode cX9_goes 174 = .ok (.ireturn, 1) := by decide +kernel
set_option maxRecDepth 20000 in
theorem ggX9_day_X9_keeps : GoodIn wsX9_day wsX9_keeps := goodIn_r _ [5, 6, 7, 8, 48, 49, 50, 51, 52, 53, 54, 55, 56, 57, 58, 59, 60, 61, 62, 63, 64, 65, 66, 67] (by decide +kernel) (by decide +kernel)
set_option maxRecDepth 20000 in
theorem gX9_day_X9_keeps : GoodIn wsX9_day (wsV RX9 154 RX9 yX9_keeps wsX9_keeps) := goodIn_app (goodIn_of _ (by decide +kernel)) ggX9_day_X9_keeps
set_option maxRecDepth 20000 in
theorem ggX9_day_X9_goes : GoodIn wsX9_day wsX9_goes := goodIn_r _ [12, 13, 8, 14, 15, 16, 4, 17, 18, 19, 20, 21, 22, 23, 24, 25, 26, 27, 28, 29, 30, 31, 32, 33, 34, 35, 36, 37, 38, 39, 40, 41, 42, 43, 44, 45, 46, 47, 48, 49, 50, 51, 52, 53, 54, 55, 56, 57, 58, 59, 60, 61, 62, 63, 64, 65, 66, 67] (by decide +kernel) (by decide +kernel)
set_option maxRecDepth 20000 in
theorem gX9_day_X9_goes : GoodIn wsX9_day (wsV RX9 161 RX9 yX9_goes wsX9_goes) := goodIn_app (goodIn_of _ (by decide +kernel)) ggX9_day_X9_goes
theorem dX9_day_0 : decode cX9_day 0 = .ok (.aload_n 0, 1) := by decide +kernel
theorem dX9_day_1 : decode cX9_day 1 = .ok (.invokevirtual 154, 3) := by decide +kernel
theorem dX9_day_4 : decode cX9_day 4 = .ok (.aload_n 0, 1) := by decide +kernel
theorem dX9_day_5 : decode cX9_day 5 = .ok (.invokevirtual 161, 3) := by decide +kernel
theorem dX9_day_8 : decode cX9_day 8 = .ok (.ireturn, 1) := by decide +kernel
theorem dX9_undo_0 : decode cX9_undo 0 = .ok (.aload_n 0, 1) := by decide +kernel
theorem dX9_undo_1 : decode cX9_undo 1 = .ok (.getfield 104, 3) := by decide +kernel
theorem dX9_undo_4 : decode cX9_undo 4 = .ok (.ifCond .ne 6, 3) := by decide +kernel
theorem dX9_undo_7 : decode cX9_undo 7 = .ok (.bipush (-2), 2) := by decide +kernel
theorem dX9_undo_9 : decode cX9_undo 9 = .ok (.ireturn, 1) := by decide +kernel
theorem dX9_undo_10 : decode cX9_undo 10 = .ok (.aload_n 0, 1) := by decide +kernel
theorem dX9_undo_11 : decode cX9_undo 11 = .ok (.dup, 1) := by decide +kernel
theorem dX9_undo_12 : decode cX9_undo 12 = .ok (.getfield 104, 3) := by decide +kernel
theorem dX9_undo_15 : decode cX9_undo 15 = .ok (.iconst 1, 1) := by decide +kernel
theorem dX9_undo_16 : decode cX9_undo 16 = .ok (.isub, 1) := by decide +kernel
theorem dX9_undo_17 : decode cX9_undo 17 = .ok (.putfield 104, 3) := by decide +kernel
theorem dX9_undo_20 : decode cX9_undo 20 = .ok (.iconst 0, 1) := by decide +kernel
theorem dX9_undo_21 : decode cX9_undo 21 = .ok (.istore_n 1, 1) := by decide +kernel
theorem dX9_undo_22 : decode cX9_undo 22 = .ok (.iload_n 1, 1) := by decide +kernel
theorem dX9_undo_23 : decode cX9_undo 23 = .ok (.bipush 15, 2) := by decide +kernel
theorem dX9_undo_25 : decode cX9_undo 25 = .ok (.if_icmp .ge 29, 3) := by decide +kernel
theorem dX9_undo_28 : decode cX9_undo 28 = .ok (.aload_n 0, 1) := by decide +kernel
theorem dX9_undo_29 : decode cX9_undo 29 = .ok (.getfield 19, 3) := by decide +kernel
theorem dX9_undo_32 : decode cX9_undo 32 = .ok (.iload_n 1, 1) := by decide +kernel
theorem dX9_undo_33 : decode cX9_undo 33 = .ok (.aload_n 0, 1) := by decide +kernel
theorem dX9_undo_34 : decode cX9_undo 34 = .ok (.getfield 22, 3) := by decide +kernel
theorem dX9_undo_37 : decode cX9_undo 37 = .ok (.bipush 15, 2) := by decide +kernel
theorem dX9_undo_39 : decode cX9_undo 39 = .ok (.aload_n 0, 1) := by decide +kernel
theorem dX9_undo_40 : decode cX9_undo 40 = .ok (.getfield 104, 3) := by decide +kernel
theorem dX9_undo_43 : decode cX9_undo 43 = .ok (.imul, 1) := by decide +kernel
theorem dX9_undo_44 : decode cX9_undo 44 = .ok (.iload_n 1, 1) := by decide +kernel
theorem dX9_undo_45 : decode cX9_undo 45 = .ok (.iadd, 1) := by decide +kernel
theorem dX9_undo_46 : decode cX9_undo 46 = .ok (.iaload, 1) := by decide +kernel
theorem dX9_undo_47 : decode cX9_undo 47 = .ok (.iastore, 1) := by decide +kernel
theorem dX9_undo_48 : decode cX9_undo 48 = .ok (.iinc 1 1, 3) := by decide +kernel
theorem dX9_undo_51 : decode cX9_undo 51 = .ok (.goto (-29), 3) := by decide +kernel
theorem dX9_undo_54 : decode cX9_undo 54 = .ok (.aload_n 0, 1) := by decide +kernel
theorem dX9_undo_55 : decode cX9_undo 55 = .ok (.getfield 104, 3) := by decide +kernel
theorem dX9_undo_58 : decode cX9_undo 58 = .ok (.ireturn, 1) := by decide +kernel
theorem dX9_holds_0 : decode cX9_holds 0 = .ok (.iconst 0, 1) := by decide +kernel
theorem dX9_holds_1 : decode cX9_holds 1 = .ok (.istore_n 1, 1) := by decide +kernel
theorem dX9_holds_2 : decode cX9_holds 2 = .ok (.iload_n 1, 1) := by decide +kernel
theorem dX9_holds_3 : decode cX9_holds 3 = .ok (.bipush 15, 2) := by decide +kernel
theorem dX9_holds_5 : decode cX9_holds 5 = .ok (.if_icmp .ge 21, 3) := by decide +kernel
theorem dX9_holds_8 : decode cX9_holds 8 = .ok (.aload_n 0, 1) := by decide +kernel
theorem dX9_holds_9 : decode cX9_holds 9 = .ok (.getfield 34, 3) := by decide +kernel
theorem dX9_holds_12 : decode cX9_holds 12 = .ok (.iload_n 1, 1) := by decide +kernel
theorem dX9_holds_13 : decode cX9_holds 13 = .ok (.aload_n 0, 1) := by decide +kernel
theorem dX9_holds_14 : decode cX9_holds 14 = .ok (.getfield 19, 3) := by decide +kernel
theorem dX9_holds_17 : decode cX9_holds 17 = .ok (.iload_n 1, 1) := by decide +kernel
theorem dX9_holds_18 : decode cX9_holds 18 = .ok (.iaload, 1) := by decide +kernel
theorem dX9_holds_19 : decode cX9_holds 19 = .ok (.iastore, 1) := by decide +kernel
theorem dX9_holds_20 : decode cX9_holds 20 = .ok (.iinc 1 1, 3) := by decide +kernel
theorem dX9_holds_23 : decode cX9_holds 23 = .ok (.goto (-21), 3) := by decide +kernel
theorem dX9_holds_26 : decode cX9_holds 26 = .ok (.return_, 1) := by decide +kernel
theorem dX9_lets_0 : decode cX9_lets 0 = .ok (.iconst 0, 1) := by decide +kernel
theorem dX9_lets_1 : decode cX9_lets 1 = .ok (.istore_n 1, 1) := by decide +kernel
theorem dX9_lets_2 : decode cX9_lets 2 = .ok (.iload_n 1, 1) := by decide +kernel
theorem dX9_lets_3 : decode cX9_lets 3 = .ok (.bipush 15, 2) := by decide +kernel
theorem dX9_lets_5 : decode cX9_lets 5 = .ok (.if_icmp .ge 21, 3) := by decide +kernel
theorem dX9_lets_8 : decode cX9_lets 8 = .ok (.aload_n 0, 1) := by decide +kernel
theorem dX9_lets_9 : decode cX9_lets 9 = .ok (.getfield 19, 3) := by decide +kernel
theorem dX9_lets_12 : decode cX9_lets 12 = .ok (.iload_n 1, 1) := by decide +kernel
theorem dX9_lets_13 : decode cX9_lets 13 = .ok (.aload_n 0, 1) := by decide +kernel
theorem dX9_lets_14 : decode cX9_lets 14 = .ok (.getfield 34, 3) := by decide +kernel
theorem dX9_lets_17 : decode cX9_lets 17 = .ok (.iload_n 1, 1) := by decide +kernel
theorem dX9_lets_18 : decode cX9_lets 18 = .ok (.iaload, 1) := by decide +kernel
theorem dX9_lets_19 : decode cX9_lets 19 = .ok (.iastore, 1) := by decide +kernel
theorem dX9_lets_20 : decode cX9_lets 20 = .ok (.iinc 1 1, 3) := by decide +kernel
theorem dX9_lets_23 : decode cX9_lets 23 = .ok (.goto (-21), 3) := by decide +kernel
theorem dX9_lets_26 : decode cX9_lets 26 = .ok (.return_, 1) := by decide +kernel
set_option maxRecDepth 20000 in
theorem ggX9_gossip_X9_in : GoodIn wsX9_gossip wsX9_in := goodIn_r _ [5] (by decide +kernel) (by decide +kernel)
set_option maxRecDepth 20000 in
theorem gX9_gossip_X9_in : GoodIn wsX9_gossip (va_wsS RX9 62 yX9_in wsX9_in) := goodIn_app (goodIn_of _ (by decide +kernel)) ggX9_gossip_X9_in
set_option maxRecDepth 20000 in
theorem ggX9_gossip_X9_isPerson : GoodIn wsX9_gossip wsX9_isPerson := goodIn_r _ [9, 10, 2, 3, 4, 5, 62, 63, 64, 65, 66, 67, 68, 69, 70, 71, 72, 73, 74, 75, 76, 77, 78, 79, 80, 81] (by decide +kernel) (by decide +kernel)
set_option maxRecDepth 20000 in
theorem gX9_gossip_X9_isPerson : GoodIn wsX9_gossip (wsV RX9 126 RX9 yX9_isPerson wsX9_isPerson) := goodIn_app (goodIn_of _ (by decide +kernel)) ggX9_gossip_X9_isPerson
set_option maxRecDepth 20000 in
theorem ggX9_gossip_X9_holds : GoodIn wsX9_gossip wsX9_holds := goodIn_r _ [14, 15, 1, 62, 63, 64, 65, 66, 67, 68, 69, 70, 71, 72, 73, 74, 75, 76, 77, 78, 79, 80, 81] (by decide +kernel) (by decide +kernel)
set_option maxRecDepth 20000 in
theorem gX9_gossip_X9_holds : GoodIn wsX9_gossip (wsV RX9 164 RX9 yX9_holds wsX9_holds) := goodIn_app (goodIn_of _ (by decide +kernel)) ggX9_gossip_X9_holds
set_option maxRecDepth 20000 in
theorem ggX9_gossip_X9_goes : GoodIn wsX9_gossip wsX9_goes := goodIn_r _ [19, 10, 1, 20, 21, 22, 4, 23, 24, 25, 26, 27, 28, 29, 30, 31, 32, 33, 34, 35, 36, 37, 38, 39, 40, 41, 42, 43, 44, 45, 46, 47, 48, 49, 50, 51, 52, 53, 62, 63, 64, 65, 66, 67, 68, 69, 70, 71, 72, 73, 74, 75, 76, 77, 78, 79, 80, 81] (by decide +kernel) (by decide +kernel)
set_option maxRecDepth 20000 in
theorem gX9_gossip_X9_goes : GoodIn wsX9_gossip (wsV RX9 161 RX9 yX9_goes wsX9_goes) := goodIn_app (goodIn_of _ (by decide +kernel)) ggX9_gossip_X9_goes
set_option maxRecDepth 20000 in
theorem ggX9_gossip_X9_knownBy : GoodIn wsX9_gossip wsX9_knownBy := goodIn_r _ [57, 10, 20, 21, 22, 4, 23, 1, 62, 63, 64, 65, 66, 67, 68, 69, 70, 71, 72, 73, 74, 75, 76, 77, 78, 79, 80, 81] (by decide +kernel) (by decide +kernel)
set_option maxRecDepth 20000 in
theorem gX9_gossip_X9_knownBy : GoodIn wsX9_gossip (wsV RX9 132 RX9 yX9_knownBy wsX9_knownBy) := goodIn_app (goodIn_of _ (by decide +kernel)) ggX9_gossip_X9_knownBy
set_option maxRecDepth 20000 in
theorem ggX9_gossip_X9_lets : GoodIn wsX9_gossip wsX9_lets := goodIn_r _ [61, 1, 15, 62, 63, 64, 65, 66, 67, 68, 69, 70, 71, 72, 73, 74, 75, 76, 77, 78, 79, 80, 81] (by decide +kernel) (by decide +kernel)
set_option maxRecDepth 20000 in
theorem gX9_gossip_X9_lets : GoodIn wsX9_gossip (wsV RX9 167 RX9 yX9_lets wsX9_lets) := goodIn_app (goodIn_of _ (by decide +kernel)) ggX9_gossip_X9_lets
theorem dX9_gossip_0 : decode cX9_gossip 0 = .ok (.iload_n 1, 1) := by decide +kernel
theorem dX9_gossip_1 : decode cX9_gossip 1 = .ok (.iconst 0, 1) := by decide +kernel
theorem dX9_gossip_2 : decode cX9_gossip 2 = .ok (.bipush 60, 2) := by decide +kernel
theorem dX9_gossip_4 : decode cX9_gossip 4 = .ok (.invokestatic 62, 3) := by decide +kernel
theorem dX9_gossip_7 : decode cX9_gossip 7 = .ok (.ifCond .eq 20, 3) := by decide +kernel
theorem dX9_gossip_10 : decode cX9_gossip 10 = .ok (.aload_n 0, 1) := by decide +kernel
theorem dX9_gossip_11 : decode cX9_gossip 11 = .ok (.iload_n 2, 1) := by decide +kernel
theorem dX9_gossip_12 : decode cX9_gossip 12 = .ok (.invokevirtual 126, 3) := by decide +kernel
theorem dX9_gossip_15 : decode cX9_gossip 15 = .ok (.ifCond .eq 12, 3) := by decide +kernel
theorem dX9_gossip_18 : decode cX9_gossip 18 = .ok (.iload_n 3, 1) := by decide +kernel
theorem dX9_gossip_19 : decode cX9_gossip 19 = .ok (.iconst 0, 1) := by decide +kernel
theorem dX9_gossip_20 : decode cX9_gossip 20 = .ok (.iconst 1, 1) := by decide +kernel
theorem dX9_gossip_21 : decode cX9_gossip 21 = .ok (.invokestatic 62, 3) := by decide +kernel
theorem dX9_gossip_24 : decode cX9_gossip 24 = .ok (.ifCond .ne 5, 3) := by decide +kernel
theorem dX9_gossip_27 : decode cX9_gossip 27 = .ok (.iconst (-1), 1) := by decide +kernel
theorem dX9_gossip_28 : decode cX9_gossip 28 = .ok (.ireturn, 1) := by decide +kernel
theorem dX9_gossip_29 : decode cX9_gossip 29 = .ok (.aload_n 0, 1) := by decide +kernel
theorem dX9_gossip_30 : decode cX9_gossip 30 = .ok (.invokevirtual 164, 3) := by decide +kernel
theorem dX9_gossip_33 : decode cX9_gossip 33 = .ok (.iconst 0, 1) := by decide +kernel
theorem dX9_gossip_34 : decode cX9_gossip 34 = .ok (.istore 4, 2) := by decide +kernel
theorem dX9_gossip_36 : decode cX9_gossip 36 = .ok (.iload 4, 2) := by decide +kernel
theorem dX9_gossip_38 : decode cX9_gossip 38 = .ok (.iload_n 1, 1) := by decide +kernel
theorem dX9_gossip_39 : decode cX9_gossip 39 = .ok (.if_icmp .ge 14, 3) := by decide +kernel
theorem dX9_gossip_42 : decode cX9_gossip 42 = .ok (.aload_n 0, 1) := by decide +kernel
theorem dX9_gossip_43 : decode cX9_gossip 43 = .ok (.invokevirtual 161, 3) := by decide +kernel
theorem dX9_gossip_46 : decode cX9_gossip 46 = .ok (.pop, 1) := by decide +kernel
theorem dX9_gossip_47 : decode cX9_gossip 47 = .ok (.iinc 4 1, 3) := by decide +kernel
theorem dX9_gossip_50 : decode cX9_gossip 50 = .ok (.goto (-14), 3) := by decide +kernel
theorem dX9_gossip_53 : decode cX9_gossip 53 = .ok (.iload_n 3, 1) := by decide +kernel
theorem dX9_gossip_54 : decode cX9_gossip 54 = .ok (.ifCond .ne 12, 3) := by decide +kernel
theorem dX9_gossip_57 : decode cX9_gossip 57 = .ok (.aload_n 0, 1) := by decide +kernel
theorem dX9_gossip_58 : decode cX9_gossip 58 = .ok (.getfield 19, 3) := by decide +kernel
theorem dX9_gossip_61 : decode cX9_gossip 61 = .ok (.iload_n 2, 1) := by decide +kernel
theorem dX9_gossip_62 : decode cX9_gossip 62 = .ok (.iaload, 1) := by decide +kernel
theorem dX9_gossip_63 : decode cX9_gossip 63 = .ok (.goto 8, 3) := by decide +kernel
theorem dX9_gossip_66 : decode cX9_gossip 66 = .ok (.aload_n 0, 1) := by decide +kernel
theorem dX9_gossip_67 : decode cX9_gossip 67 = .ok (.iload_n 2, 1) := by decide +kernel
theorem dX9_gossip_68 : decode cX9_gossip 68 = .ok (.invokevirtual 132, 3) := by decide +kernel
theorem dX9_gossip_71 : decode cX9_gossip 71 = .ok (.istore 4, 2) := by decide +kernel
theorem dX9_gossip_73 : decode cX9_gossip 73 = .ok (.aload_n 0, 1) := by decide +kernel
theorem dX9_gossip_74 : decode cX9_gossip 74 = .ok (.invokevirtual 167, 3) := by decide +kernel
theorem dX9_gossip_77 : decode cX9_gossip 77 = .ok (.iload 4, 2) := by decide +kernel
theorem dX9_gossip_79 : decode cX9_gossip 79 = .ok (.ireturn, 1) := by decide +kernel
set_option maxRecDepth 20000 in
theorem ggX9_first_X9_in : GoodIn wsX9_first wsX9_in := goodIn_r _ [5] (by decide +kernel) (by decide +kernel)
set_option maxRecDepth 20000 in
theorem gX9_first_X9_in : GoodIn wsX9_first (va_wsS RX9 62 yX9_in wsX9_in) := goodIn_app (goodIn_of _ (by decide +kernel)) ggX9_first_X9_in
set_option maxRecDepth 20000 in
theorem ggX9_first_X9_holds : GoodIn wsX9_first wsX9_holds := goodIn_r _ [9, 10, 11, 54, 55, 56, 57, 58, 59, 60, 61, 62, 63, 64, 65, 66, 67, 68, 69, 70, 71, 72, 73] (by decide +kernel) (by decide +kernel)
set_option maxRecDepth 20000 in
theorem gX9_first_X9_holds : GoodIn wsX9_first (wsV RX9 164 RX9 yX9_holds wsX9_holds) := goodIn_app (goodIn_of _ (by decide +kernel)) ggX9_first_X9_holds
set_option maxRecDepth 20000 in
theorem ggX9_first_X9_alive : GoodIn wsX9_first wsX9_alive := goodIn_r _ [15, 1, 16, 17, 18, 4, 19, 11, 54, 55, 56, 57, 58, 59, 60, 61, 62, 63, 64, 65, 66, 67, 68, 69, 70, 71, 72, 73] (by decide +kernel) (by decide +kernel)
set_option maxRecDepth 20000 in
theorem gX9_first_X9_alive : GoodIn wsX9_first (wsV RX9 119 RX9 yX9_alive wsX9_alive) := goodIn_app (goodIn_of _ (by decide +kernel)) ggX9_first_X9_alive
set_option maxRecDepth 20000 in
theorem ggX9_first_X9_goes : GoodIn wsX9_first wsX9_goes := goodIn_r _ [23, 1, 11, 24, 25, 26, 4, 27, 28, 29, 30, 31, 16, 17, 18, 19, 12, 13, 14, 15, 32, 33, 34, 35, 36, 37, 38, 39, 40, 41, 42, 43, 44, 45, 46, 47, 48, 49, 54, 55, 56, 57, 58, 59, 60, 61, 62, 63, 64, 65, 66, 67, 68, 69, 70, 71, 72, 73] (by decide +kernel) (by decide +kernel)
set_option maxRecDepth 20000 in
theorem gX9_first_X9_goes : GoodIn wsX9_first (wsV RX9 161 RX9 yX9_goes wsX9_goes) := goodIn_app (goodIn_of _ (by decide +kernel)) ggX9_first_X9_goes
set_option maxRecDepth 20000 in
theorem ggX9_first_X9_lets : GoodIn wsX9_first wsX9_lets := goodIn_r _ [53, 11, 10, 54, 55, 56, 57, 58, 59, 60, 61, 62, 63, 64, 65, 66, 67, 68, 69, 70, 71, 72, 73] (by decide +kernel) (by decide +kernel)
set_option maxRecDepth 20000 in
theorem gX9_first_X9_lets : GoodIn wsX9_first (wsV RX9 167 RX9 yX9_lets wsX9_lets) := goodIn_app (goodIn_of _ (by decide +kernel)) ggX9_first_X9_lets
theorem dX9_first_0 : decode cX9_first 0 = .ok (.iload_n 1, 1) := by decide +kernel
theorem dX9_first_1 : decode cX9_first 1 = .ok (.iconst 0, 1) := by decide +kernel
theorem dX9_first_2 : decode cX9_first 2 = .ok (.iconst 1, 1) := by decide +kernel
theorem dX9_first_3 : decode cX9_first 3 = .ok (.invokestatic 62, 3) := by decide +kernel
theorem dX9_first_6 : decode cX9_first 6 = .ok (.ifCond .ne 5, 3) := by decide +kernel
theorem dX9_first_9 : decode cX9_first 9 = .ok (.iconst (-1), 1) := by decide +kernel
theorem dX9_first_10 : decode cX9_first 10 = .ok (.ireturn, 1) := by decide +kernel
theorem dX9_first_11 : decode cX9_first 11 = .ok (.aload_n 0, 1) := by decide +kernel
theorem dX9_first_12 : decode cX9_first 12 = .ok (.invokevirtual 164, 3) := by decide +kernel
theorem dX9_first_15 : decode cX9_first 15 = .ok (.bipush (-4), 2) := by decide +kernel
theorem dX9_first_17 : decode cX9_first 17 = .ok (.istore_n 2, 1) := by decide +kernel
theorem dX9_first_18 : decode cX9_first 18 = .ok (.iconst 1, 1) := by decide +kernel
theorem dX9_first_19 : decode cX9_first 19 = .ok (.istore_n 3, 1) := by decide +kernel
theorem dX9_first_20 : decode cX9_first 20 = .ok (.iload_n 3, 1) := by decide +kernel
theorem dX9_first_21 : decode cX9_first 21 = .ok (.bipush 61, 2) := by decide +kernel
theorem dX9_first_23 : decode cX9_first 23 = .ok (.if_icmp .ge 84, 3) := by decide +kernel
theorem dX9_first_26 : decode cX9_first 26 = .ok (.iload_n 2, 1) := by decide +kernel
theorem dX9_first_27 : decode cX9_first 27 = .ok (.bipush (-4), 2) := by decide +kernel
theorem dX9_first_29 : decode cX9_first 29 = .ok (.if_icmp .ne 78, 3) := by decide +kernel
theorem dX9_first_32 : decode cX9_first 32 = .ok (.aload_n 0, 1) := by decide +kernel
theorem dX9_first_33 : decode cX9_first 33 = .ok (.invokevirtual 119, 3) := by decide +kernel
theorem dX9_first_36 : decode cX9_first 36 = .ok (.istore 4, 2) := by decide +kernel
theorem dX9_first_38 : decode cX9_first 38 = .ok (.aload_n 0, 1) := by decide +kernel
theorem dX9_first_39 : decode cX9_first 39 = .ok (.invokevirtual 161, 3) := by decide +kernel
theorem dX9_first_42 : decode cX9_first 42 = .ok (.pop, 1) := by decide +kernel
theorem dX9_first_43 : decode cX9_first 43 = .ok (.iload 4, 2) := by decide +kernel
theorem dX9_first_45 : decode cX9_first 45 = .ok (.aload_n 0, 1) := by decide +kernel
theorem dX9_first_46 : decode cX9_first 46 = .ok (.invokevirtual 119, 3) := by decide +kernel
theorem dX9_first_49 : decode cX9_first 49 = .ok (.iconst (-1), 1) := by decide +kernel
theorem dX9_first_50 : decode cX9_first 50 = .ok (.ixor, 1) := by decide +kernel
theorem dX9_first_51 : decode cX9_first 51 = .ok (.iand, 1) := by decide +kernel
theorem dX9_first_52 : decode cX9_first 52 = .ok (.istore 5, 2) := by decide +kernel
theorem dX9_first_54 : decode cX9_first 54 = .ok (.aload_n 0, 1) := by decide +kernel
theorem dX9_first_55 : decode cX9_first 55 = .ok (.getfield 13, 3) := by decide +kernel
theorem dX9_first_58 : decode cX9_first 58 = .ok (.iconst 0, 1) := by decide +kernel
theorem dX9_first_59 : decode cX9_first 59 = .ok (.iaload, 1) := by decide +kernel
theorem dX9_first_60 : decode cX9_first 60 = .ok (.iconst 1, 1) := by decide +kernel
theorem dX9_first_61 : decode cX9_first 61 = .ok (.isub, 1) := by decide +kernel
theorem dX9_first_62 : decode cX9_first 62 = .ok (.istore 6, 2) := by decide +kernel
theorem dX9_first_64 : decode cX9_first 64 = .ok (.iload 6, 2) := by decide +kernel
theorem dX9_first_66 : decode cX9_first 66 = .ok (.ifCond .lt 35, 3) := by decide +kernel
theorem dX9_first_69 : decode cX9_first 69 = .ok (.iload 5, 2) := by decide +kernel
theorem dX9_first_71 : decode cX9_first 71 = .ok (.iload 6, 2) := by decide +kernel
theorem dX9_first_73 : decode cX9_first 73 = .ok (.ishr, 1) := by decide +kernel
theorem dX9_first_74 : decode cX9_first 74 = .ok (.iconst 1, 1) := by decide +kernel
theorem dX9_first_75 : decode cX9_first 75 = .ok (.iand, 1) := by decide +kernel
theorem dX9_first_76 : decode cX9_first 76 = .ok (.iconst 1, 1) := by decide +kernel
theorem dX9_first_77 : decode cX9_first 77 = .ok (.if_icmp .ne 16, 3) := by decide +kernel
theorem dX9_first_80 : decode cX9_first 80 = .ok (.iload_n 1, 1) := by decide +kernel
theorem dX9_first_81 : decode cX9_first 81 = .ok (.ifCond .ne 8, 3) := by decide +kernel
theorem dX9_first_84 : decode cX9_first 84 = .ok (.iload 6, 2) := by decide +kernel
theorem dX9_first_86 : decode cX9_first 86 = .ok (.goto 8, 3) := by decide +kernel
theorem dX9_first_89 : decode cX9_first 89 = .ok (.iload_n 3, 1) := by decide +kernel
theorem dX9_first_90 : decode cX9_first 90 = .ok (.goto 4, 3) := by decide +kernel
theorem dX9_first_93 : decode cX9_first 93 = .ok (.iload_n 2, 1) := by decide +kernel
theorem dX9_first_94 : decode cX9_first 94 = .ok (.istore_n 2, 1) := by decide +kernel
theorem dX9_first_95 : decode cX9_first 95 = .ok (.iinc 6 (-1), 3) := by decide +kernel
theorem dX9_first_98 : decode cX9_first 98 = .ok (.goto (-34), 3) := by decide +kernel
theorem dX9_first_101 : decode cX9_first 101 = .ok (.iinc 3 1, 3) := by decide +kernel
theorem dX9_first_104 : decode cX9_first 104 = .ok (.goto (-84), 3) := by decide +kernel
theorem dX9_first_107 : decode cX9_first 107 = .ok (.aload_n 0, 1) := by decide +kernel
theorem dX9_first_108 : decode cX9_first 108 = .ok (.invokevirtual 167, 3) := by decide +kernel
theorem dX9_first_111 : decode cX9_first 111 = .ok (.iload_n 2, 1) := by decide +kernel
theorem dX9_first_112 : decode cX9_first 112 = .ok (.ireturn, 1) := by decide +kernel
set_option maxRecDepth 20000 in
theorem ggX9_reaches_X9_knows : GoodIn wsX9_reaches wsX9_knows := goodIn_r _ [8, 2, 35, 36, 37, 38, 39, 40, 41, 42, 43, 44, 45, 46, 47, 48, 49, 50, 51, 52, 53, 54] (by decide +kernel) (by decide +kernel)
set_option maxRecDepth 20000 in
theorem gX9_reaches_X9_knows : GoodIn wsX9_reaches (wsV RX9 122 RX9 yX9_knows wsX9_knows) := goodIn_app (goodIn_of _ (by decide +kernel)) ggX9_reaches_X9_knows
set_option maxRecDepth 20000 in
theorem ggX9_reaches_X9_alive : GoodIn wsX9_reaches wsX9_alive := goodIn_r _ [12, 1, 13, 14, 15, 7, 16, 2, 35, 36, 37, 38, 39, 40, 41, 42, 43, 44, 45, 46, 47, 48, 49, 50, 51, 52, 53, 54] (by decide +kernel) (by decide +kernel)
set_option maxRecDepth 20000 in
theorem gX9_reaches_X9_alive : GoodIn wsX9_reaches (wsV RX9 119 RX9 yX9_alive wsX9_alive) := goodIn_app (goodIn_of _ (by decide +kernel)) ggX9_reaches_X9_alive
set_option maxRecDepth 20000 in
theorem ggX9_reaches_X9_shades : GoodIn wsX9_reaches wsX9_shades := goodIn_r _ [20, 1, 21, 22, 23, 7, 24, 2, 25, 26, 27, 4, 5, 6, 8, 28, 29, 30, 13, 14, 15, 16, 35, 36, 37, 38, 39, 40, 41, 42, 43, 44, 45, 46, 47, 48, 49, 50, 51, 52, 53, 54] (by decide +kernel) (by decide +kernel)
set_option maxRecDepth 20000 in
theorem gX9_reaches_X9_shades : GoodIn wsX9_reaches (wsV RX9 151 RX9 yX9_shades wsX9_shades) := goodIn_app (goodIn_of _ (by decide +kernel)) ggX9_reaches_X9_shades
set_option maxRecDepth 20000 in
theorem ggX9_reaches_X9_met : GoodIn wsX9_reaches wsX9_met := goodIn_r _ [34, 1, 13, 14, 15, 7, 16, 2, 9, 10, 11, 12, 35, 36, 37, 38, 39, 40, 41, 42, 43, 44, 45, 46, 47, 48, 49, 50, 51, 52, 53, 54] (by decide +kernel) (by decide +kernel)
set_option maxRecDepth 20000 in
theorem gX9_reaches_X9_met : GoodIn wsX9_reaches (wsV RX9 129 RX9 yX9_met wsX9_met) := goodIn_app (goodIn_of _ (by decide +kernel)) ggX9_reaches_X9_met
theorem dX9_reaches_0 : decode cX9_reaches 0 = .ok (.aload_n 0, 1) := by decide +kernel
theorem dX9_reaches_1 : decode cX9_reaches 1 = .ok (.iload_n 2, 1) := by decide +kernel
theorem dX9_reaches_2 : decode cX9_reaches 2 = .ok (.iload_n 1, 1) := by decide +kernel
theorem dX9_reaches_3 : decode cX9_reaches 3 = .ok (.invokevirtual 122, 3) := by decide +kernel
theorem dX9_reaches_6 : decode cX9_reaches 6 = .ok (.ifCond .eq 5, 3) := by decide +kernel
theorem dX9_reaches_9 : decode cX9_reaches 9 = .ok (.iconst 0, 1) := by decide +kernel
theorem dX9_reaches_10 : decode cX9_reaches 10 = .ok (.ireturn, 1) := by decide +kernel
theorem dX9_reaches_11 : decode cX9_reaches 11 = .ok (.bipush (-4), 2) := by decide +kernel
theorem dX9_reaches_13 : decode cX9_reaches 13 = .ok (.istore_n 3, 1) := by decide +kernel
theorem dX9_reaches_14 : decode cX9_reaches 14 = .ok (.iconst 1, 1) := by decide +kernel
theorem dX9_reaches_15 : decode cX9_reaches 15 = .ok (.istore 4, 2) := by decide +kernel
theorem dX9_reaches_17 : decode cX9_reaches 17 = .ok (.iload 4, 2) := by decide +kernel
theorem dX9_reaches_19 : decode cX9_reaches 19 = .ok (.iconst 1, 1) := by decide +kernel
theorem dX9_reaches_20 : decode cX9_reaches 20 = .ok (.aload_n 0, 1) := by decide +kernel
theorem dX9_reaches_21 : decode cX9_reaches 21 = .ok (.getfield 13, 3) := by decide +kernel
theorem dX9_reaches_24 : decode cX9_reaches 24 = .ok (.iconst 0, 1) := by decide +kernel
theorem dX9_reaches_25 : decode cX9_reaches 25 = .ok (.iaload, 1) := by decide +kernel
theorem dX9_reaches_26 : decode cX9_reaches 26 = .ok (.ishl, 1) := by decide +kernel
theorem dX9_reaches_27 : decode cX9_reaches 27 = .ok (.if_icmp .ge 339, 3) := by decide +kernel
theorem dX9_reaches_30 : decode cX9_reaches 30 = .ok (.iload 4, 2) := by decide +kernel
theorem dX9_reaches_32 : decode cX9_reaches 32 = .ok (.aload_n 0, 1) := by decide +kernel
theorem dX9_reaches_33 : decode cX9_reaches 33 = .ok (.getfield 19, 3) := by decide +kernel
theorem dX9_reaches_36 : decode cX9_reaches 36 = .ok (.bipush 6, 2) := by decide +kernel
theorem dX9_reaches_38 : decode cX9_reaches 38 = .ok (.iload_n 1, 1) := by decide +kernel
theorem dX9_reaches_39 : decode cX9_reaches 39 = .ok (.iadd, 1) := by decide +kernel
theorem dX9_reaches_40 : decode cX9_reaches 40 = .ok (.iaload, 1) := by decide +kernel
theorem dX9_reaches_41 : decode cX9_reaches 41 = .ok (.iand, 1) := by decide +kernel
theorem dX9_reaches_42 : decode cX9_reaches 42 = .ok (.ifCond .ne 19, 3) := by decide +kernel
theorem dX9_reaches_45 : decode cX9_reaches 45 = .ok (.iload 4, 2) := by decide +kernel
theorem dX9_reaches_47 : decode cX9_reaches 47 = .ok (.aload_n 0, 1) := by decide +kernel
theorem dX9_reaches_48 : decode cX9_reaches 48 = .ok (.invokevirtual 119, 3) := by decide +kernel
theorem dX9_reaches_51 : decode cX9_reaches 51 = .ok (.iconst (-1), 1) := by decide +kernel
theorem dX9_reaches_52 : decode cX9_reaches 52 = .ok (.ixor, 1) := by decide +kernel
theorem dX9_reaches_53 : decode cX9_reaches 53 = .ok (.iand, 1) := by decide +kernel
theorem dX9_reaches_54 : decode cX9_reaches 54 = .ok (.ifCond .ne 7, 3) := by decide +kernel
theorem dX9_reaches_57 : decode cX9_reaches 57 = .ok (.iconst 1, 1) := by decide +kernel
theorem dX9_reaches_58 : decode cX9_reaches 58 = .ok (.goto 4, 3) := by decide +kernel
theorem dX9_reaches_61 : decode cX9_reaches 61 = .ok (.iconst 0, 1) := by decide +kernel
theorem dX9_reaches_62 : decode cX9_reaches 62 = .ok (.istore 5, 2) := by decide +kernel
theorem dX9_reaches_64 : decode cX9_reaches 64 = .ok (.iload 5, 2) := by decide +kernel
theorem dX9_reaches_66 : decode cX9_reaches 66 = .ok (.ifCond .eq 13, 3) := by decide +kernel
theorem dX9_reaches_69 : decode cX9_reaches 69 = .ok (.aload_n 0, 1) := by decide +kernel
theorem dX9_reaches_70 : decode cX9_reaches 70 = .ok (.iload_n 1, 1) := by decide +kernel
theorem dX9_reaches_71 : decode cX9_reaches 71 = .ok (.iload 4, 2) := by decide +kernel
theorem dX9_reaches_73 : decode cX9_reaches 73 = .ok (.invokevirtual 151, 3) := by decide +kernel
theorem dX9_reaches_76 : decode cX9_reaches 76 = .ok (.goto 4, 3) := by decide +kernel
theorem dX9_reaches_79 : decode cX9_reaches 79 = .ok (.iconst 0, 1) := by decide +kernel
theorem dX9_reaches_80 : decode cX9_reaches 80 = .ok (.istore 6, 2) := by decide +kernel
theorem dX9_reaches_82 : decode cX9_reaches 82 = .ok (.iconst 0, 1) := by decide +kernel
theorem dX9_reaches_83 : decode cX9_reaches 83 = .ok (.istore 7, 2) := by decide +kernel
theorem dX9_reaches_85 : decode cX9_reaches 85 = .ok (.iload 7, 2) := by decide +kernel
theorem dX9_reaches_87 : decode cX9_reaches 87 = .ok (.aload_n 0, 1) := by decide +kernel
theorem dX9_reaches_88 : decode cX9_reaches 88 = .ok (.getfield 13, 3) := by decide +kernel
theorem dX9_reaches_91 : decode cX9_reaches 91 = .ok (.iconst 0, 1) := by decide +kernel
theorem dX9_reaches_92 : decode cX9_reaches 92 = .ok (.iaload, 1) := by decide +kernel
theorem dX9_reaches_93 : decode cX9_reaches 93 = .ok (.if_icmp .ge 207, 3) := by decide +kernel
theorem dX9_reaches_96 : decode cX9_reaches 96 = .ok (.aload_n 0, 1) := by decide +kernel
theorem dX9_reaches_97 : decode cX9_reaches 97 = .ok (.getfield 13, 3) := by decide +kernel
theorem dX9_reaches_100 : decode cX9_reaches 100 = .ok (.bipush 9, 2) := by decide +kernel
theorem dX9_reaches_102 : decode cX9_reaches 102 = .ok (.iload 7, 2) := by decide +kernel
theorem dX9_reaches_104 : decode cX9_reaches 104 = .ok (.iadd, 1) := by decide +kernel
theorem dX9_reaches_105 : decode cX9_reaches 105 = .ok (.iaload, 1) := by decide +kernel
theorem dX9_reaches_106 : decode cX9_reaches 106 = .ok (.iconst 4, 1) := by decide +kernel
theorem dX9_reaches_107 : decode cX9_reaches 107 = .ok (.if_icmp .ne 7, 3) := by decide +kernel
theorem dX9_reaches_110 : decode cX9_reaches 110 = .ok (.iconst 1, 1) := by decide +kernel
theorem dX9_reaches_111 : decode cX9_reaches 111 = .ok (.goto 4, 3) := by decide +kernel
theorem dX9_reaches_114 : decode cX9_reaches 114 = .ok (.iconst 0, 1) := by decide +kernel
theorem dX9_reaches_115 : decode cX9_reaches 115 = .ok (.istore 8, 2) := by decide +kernel
theorem dX9_reaches_117 : decode cX9_reaches 117 = .ok (.iconst (-1), 1) := by decide +kernel
theorem dX9_reaches_118 : decode cX9_reaches 118 = .ok (.istore 9, 2) := by decide +kernel
theorem dX9_reaches_120 : decode cX9_reaches 120 = .ok (.iload 5, 2) := by decide +kernel
theorem dX9_reaches_122 : decode cX9_reaches 122 = .ok (.ifCond .eq 157, 3) := by decide +kernel
theorem dX9_reaches_125 : decode cX9_reaches 125 = .ok (.iload 4, 2) := by decide +kernel
theorem dX9_reaches_127 : decode cX9_reaches 127 = .ok (.iload 7, 2) := by decide +kernel
theorem dX9_reaches_129 : decode cX9_reaches 129 = .ok (.ishr, 1) := by decide +kernel
theorem dX9_reaches_130 : decode cX9_reaches 130 = .ok (.iconst 1, 1) := by decide +kernel
theorem dX9_reaches_131 : decode cX9_reaches 131 = .ok (.iand, 1) := by decide +kernel
theorem dX9_reaches_132 : decode cX9_reaches 132 = .ok (.iconst 1, 1) := by decide +kernel
theorem dX9_reaches_133 : decode cX9_reaches 133 = .ok (.if_icmp .ne 146, 3) := by decide +kernel
theorem dX9_reaches_136 : decode cX9_reaches 136 = .ok (.iload 4, 2) := by decide +kernel
theorem dX9_reaches_138 : decode cX9_reaches 138 = .ok (.iconst 1, 1) := by decide +kernel
theorem dX9_reaches_139 : decode cX9_reaches 139 = .ok (.iload 7, 2) := by decide +kernel
theorem dX9_reaches_141 : decode cX9_reaches 141 = .ok (.ishl, 1) := by decide +kernel
theorem dX9_reaches_142 : decode cX9_reaches 142 = .ok (.ixor, 1) := by decide +kernel
theorem dX9_reaches_143 : decode cX9_reaches 143 = .ok (.istore 10, 2) := by decide +kernel
theorem dX9_reaches_145 : decode cX9_reaches 145 = .ok (.iload 10, 2) := by decide +kernel
theorem dX9_reaches_147 : decode cX9_reaches 147 = .ok (.ifCond .ne 27, 3) := by decide +kernel
theorem dX9_reaches_150 : decode cX9_reaches 150 = .ok (.aload_n 0, 1) := by decide +kernel
theorem dX9_reaches_151 : decode cX9_reaches 151 = .ok (.iload 7, 2) := by decide +kernel
theorem dX9_reaches_153 : decode cX9_reaches 153 = .ok (.invokevirtual 129, 3) := by decide +kernel
theorem dX9_reaches_156 : decode cX9_reaches 156 = .ok (.aload_n 0, 1) := by decide +kernel
theorem dX9_reaches_157 : decode cX9_reaches 157 = .ok (.getfield 19, 3) := by decide +kernel
theorem dX9_reaches_160 : decode cX9_reaches 160 = .ok (.bipush 6, 2) := by decide +kernel
theorem dX9_reaches_162 : decode cX9_reaches 162 = .ok (.iload_n 1, 1) := by decide +kernel
theorem dX9_reaches_163 : decode cX9_reaches 163 = .ok (.iadd, 1) := by decide +kernel
theorem dX9_reaches_164 : decode cX9_reaches 164 = .ok (.iaload, 1) := by decide +kernel
theorem dX9_reaches_165 : decode cX9_reaches 165 = .ok (.iand, 1) := by decide +kernel
theorem dX9_reaches_166 : decode cX9_reaches 166 = .ok (.ifCond .eq 8, 3) := by decide +kernel
theorem dX9_reaches_169 : decode cX9_reaches 169 = .ok (.iload 8, 2) := by decide +kernel
theorem dX9_reaches_171 : decode cX9_reaches 171 = .ok (.goto 4, 3) := by decide +kernel
theorem dX9_reaches_174 : decode cX9_reaches 174 = .ok (.iconst (-1), 1) := by decide +kernel
theorem dX9_reaches_175 : decode cX9_reaches 175 = .ok (.istore 9, 2) := by decide +kernel
theorem dX9_reaches_177 : decode cX9_reaches 177 = .ok (.iconst 0, 1) := by decide +kernel
theorem dX9_reaches_178 : decode cX9_reaches 178 = .ok (.istore 11, 2) := by decide +kernel
theorem dX9_reaches_180 : decode cX9_reaches 180 = .ok (.iload 11, 2) := by decide +kernel
theorem dX9_reaches_182 : decode cX9_reaches 182 = .ok (.aload_n 0, 1) := by decide +kernel
theorem dX9_reaches_183 : decode cX9_reaches 183 = .ok (.getfield 13, 3) := by decide +kernel
theorem dX9_reaches_186 : decode cX9_reaches 186 = .ok (.iconst 0, 1) := by decide +kernel
theorem dX9_reaches_187 : decode cX9_reaches 187 = .ok (.iaload, 1) := by decide +kernel
theorem dX9_reaches_188 : decode cX9_reaches 188 = .ok (.if_icmp .ge 91, 3) := by decide +kernel
theorem dX9_reaches_191 : decode cX9_reaches 191 = .ok (.iload 10, 2) := by decide +kernel
theorem dX9_reaches_193 : decode cX9_reaches 193 = .ok (.ifCond .eq 86, 3) := by decide +kernel
theorem dX9_reaches_196 : decode cX9_reaches 196 = .ok (.iload 10, 2) := by decide +kernel
theorem dX9_reaches_198 : decode cX9_reaches 198 = .ok (.iload 11, 2) := by decide +kernel
theorem dX9_reaches_200 : decode cX9_reaches 200 = .ok (.ishr, 1) := by decide +kernel
theorem dX9_reaches_201 : decode cX9_reaches 201 = .ok (.iconst 1, 1) := by decide +kernel
theorem dX9_reaches_202 : decode cX9_reaches 202 = .ok (.iand, 1) := by decide +kernel
theorem dX9_reaches_203 : decode cX9_reaches 203 = .ok (.iconst 1, 1) := by decide +kernel
theorem dX9_reaches_204 : decode cX9_reaches 204 = .ok (.if_icmp .ne 34, 3) := by decide +kernel
theorem dX9_reaches_207 : decode cX9_reaches 207 = .ok (.aload_n 0, 1) := by decide +kernel
theorem dX9_reaches_208 : decode cX9_reaches 208 = .ok (.iload 7, 2) := by decide +kernel
theorem dX9_reaches_210 : decode cX9_reaches 210 = .ok (.invokevirtual 129, 3) := by decide +kernel
theorem dX9_reaches_213 : decode cX9_reaches 213 = .ok (.iload 11, 2) := by decide +kernel
theorem dX9_reaches_215 : decode cX9_reaches 215 = .ok (.ishr, 1) := by decide +kernel
theorem dX9_reaches_216 : decode cX9_reaches 216 = .ok (.iconst 1, 1) := by decide +kernel
theorem dX9_reaches_217 : decode cX9_reaches 217 = .ok (.iand, 1) := by decide +kernel
theorem dX9_reaches_218 : decode cX9_reaches 218 = .ok (.iconst 1, 1) := by decide +kernel
theorem dX9_reaches_219 : decode cX9_reaches 219 = .ok (.if_icmp .ne 19, 3) := by decide +kernel
theorem dX9_reaches_222 : decode cX9_reaches 222 = .ok (.aload_n 0, 1) := by decide +kernel
theorem dX9_reaches_223 : decode cX9_reaches 223 = .ok (.getfield 37, 3) := by decide +kernel
theorem dX9_reaches_226 : decode cX9_reaches 226 = .ok (.bipush 6, 2) := by decide +kernel
theorem dX9_reaches_228 : decode cX9_reaches 228 = .ok (.iload 10, 2) := by decide +kernel
theorem dX9_reaches_230 : decode cX9_reaches 230 = .ok (.imul, 1) := by decide +kernel
theorem dX9_reaches_231 : decode cX9_reaches 231 = .ok (.iload 11, 2) := by decide +kernel
theorem dX9_reaches_233 : decode cX9_reaches 233 = .ok (.iadd, 1) := by decide +kernel
theorem dX9_reaches_234 : decode cX9_reaches 234 = .ok (.iaload, 1) := by decide +kernel
theorem dX9_reaches_235 : decode cX9_reaches 235 = .ok (.goto 4, 3) := by decide +kernel
theorem dX9_reaches_238 : decode cX9_reaches 238 = .ok (.iconst (-1), 1) := by decide +kernel
theorem dX9_reaches_239 : decode cX9_reaches 239 = .ok (.istore 12, 2) := by decide +kernel
theorem dX9_reaches_241 : decode cX9_reaches 241 = .ok (.iload 12, 2) := by decide +kernel
theorem dX9_reaches_243 : decode cX9_reaches 243 = .ok (.ifCond .lt 26, 3) := by decide +kernel
theorem dX9_reaches_246 : decode cX9_reaches 246 = .ok (.iload 9, 2) := by decide +kernel
theorem dX9_reaches_248 : decode cX9_reaches 248 = .ok (.ifCond .lt 13, 3) := by decide +kernel
theorem dX9_reaches_251 : decode cX9_reaches 251 = .ok (.iload 12, 2) := by decide +kernel
theorem dX9_reaches_253 : decode cX9_reaches 253 = .ok (.iload 8, 2) := by decide +kernel
theorem dX9_reaches_255 : decode cX9_reaches 255 = .ok (.iadd, 1) := by decide +kernel
theorem dX9_reaches_256 : decode cX9_reaches 256 = .ok (.iload 9, 2) := by decide +kernel
theorem dX9_reaches_258 : decode cX9_reaches 258 = .ok (.if_icmp .ge 11, 3) := by decide +kernel
theorem dX9_reaches_261 : decode cX9_reaches 261 = .ok (.iload 12, 2) := by decide +kernel
theorem dX9_reaches_263 : decode cX9_reaches 263 = .ok (.iload 8, 2) := by decide +kernel
theorem dX9_reaches_265 : decode cX9_reaches 265 = .ok (.iadd, 1) := by decide +kernel
theorem dX9_reaches_266 : decode cX9_reaches 266 = .ok (.goto 5, 3) := by decide +kernel
theorem dX9_reaches_269 : decode cX9_reaches 269 = .ok (.iload 9, 2) := by decide +kernel
theorem dX9_reaches_271 : decode cX9_reaches 271 = .ok (.istore 9, 2) := by decide +kernel
theorem dX9_reaches_273 : decode cX9_reaches 273 = .ok (.iinc 11 1, 3) := by decide +kernel
theorem dX9_reaches_276 : decode cX9_reaches 276 = .ok (.goto (-96), 3) := by decide +kernel
theorem dX9_reaches_279 : decode cX9_reaches 279 = .ok (.aload_n 0, 1) := by decide +kernel
theorem dX9_reaches_280 : decode cX9_reaches 280 = .ok (.getfield 37, 3) := by decide +kernel
theorem dX9_reaches_283 : decode cX9_reaches 283 = .ok (.bipush 6, 2) := by decide +kernel
theorem dX9_reaches_285 : decode cX9_reaches 285 = .ok (.iload 4, 2) := by decide +kernel
theorem dX9_reaches_287 : decode cX9_reaches 287 = .ok (.imul, 1) := by decide +kernel
theorem dX9_reaches_288 : decode cX9_reaches 288 = .ok (.iload 7, 2) := by decide +kernel
theorem dX9_reaches_290 : decode cX9_reaches 290 = .ok (.iadd, 1) := by decide +kernel
theorem dX9_reaches_291 : decode cX9_reaches 291 = .ok (.iload 9, 2) := by decide +kernel
theorem dX9_reaches_293 : decode cX9_reaches 293 = .ok (.iastore, 1) := by decide +kernel
theorem dX9_reaches_294 : decode cX9_reaches 294 = .ok (.iinc 7 1, 3) := by decide +kernel
theorem dX9_reaches_297 : decode cX9_reaches 297 = .ok (.goto (-212), 3) := by decide +kernel
theorem dX9_reaches_300 : decode cX9_reaches 300 = .ok (.aload_n 0, 1) := by decide +kernel
theorem dX9_reaches_301 : decode cX9_reaches 301 = .ok (.getfield 37, 3) := by decide +kernel
theorem dX9_reaches_304 : decode cX9_reaches 304 = .ok (.bipush 6, 2) := by decide +kernel
theorem dX9_reaches_306 : decode cX9_reaches 306 = .ok (.iload 4, 2) := by decide +kernel
theorem dX9_reaches_308 : decode cX9_reaches 308 = .ok (.imul, 1) := by decide +kernel
theorem dX9_reaches_309 : decode cX9_reaches 309 = .ok (.iload_n 2, 1) := by decide +kernel
theorem dX9_reaches_310 : decode cX9_reaches 310 = .ok (.iadd, 1) := by decide +kernel
theorem dX9_reaches_311 : decode cX9_reaches 311 = .ok (.iaload, 1) := by decide +kernel
theorem dX9_reaches_312 : decode cX9_reaches 312 = .ok (.ifCond .ge 7, 3) := by decide +kernel
theorem dX9_reaches_315 : decode cX9_reaches 315 = .ok (.iconst (-1), 1) := by decide +kernel
theorem dX9_reaches_316 : decode cX9_reaches 316 = .ok (.goto 18, 3) := by decide +kernel
theorem dX9_reaches_319 : decode cX9_reaches 319 = .ok (.aload_n 0, 1) := by decide +kernel
theorem dX9_reaches_320 : decode cX9_reaches 320 = .ok (.getfield 37, 3) := by decide +kernel
theorem dX9_reaches_323 : decode cX9_reaches 323 = .ok (.bipush 6, 2) := by decide +kernel
theorem dX9_reaches_325 : decode cX9_reaches 325 = .ok (.iload 4, 2) := by decide +kernel
theorem dX9_reaches_327 : decode cX9_reaches 327 = .ok (.imul, 1) := by decide +kernel
theorem dX9_reaches_328 : decode cX9_reaches 328 = .ok (.iload_n 2, 1) := by decide +kernel
theorem dX9_reaches_329 : decode cX9_reaches 329 = .ok (.iadd, 1) := by decide +kernel
theorem dX9_reaches_330 : decode cX9_reaches 330 = .ok (.iaload, 1) := by decide +kernel
theorem dX9_reaches_331 : decode cX9_reaches 331 = .ok (.iload 6, 2) := by decide +kernel
theorem dX9_reaches_333 : decode cX9_reaches 333 = .ok (.iadd, 1) := by decide +kernel
theorem dX9_reaches_334 : decode cX9_reaches 334 = .ok (.istore 7, 2) := by decide +kernel
theorem dX9_reaches_336 : decode cX9_reaches 336 = .ok (.iload 7, 2) := by decide +kernel
theorem dX9_reaches_338 : decode cX9_reaches 338 = .ok (.ifCond .lt 20, 3) := by decide +kernel
theorem dX9_reaches_341 : decode cX9_reaches 341 = .ok (.iload_n 3, 1) := by decide +kernel
theorem dX9_reaches_342 : decode cX9_reaches 342 = .ok (.bipush (-4), 2) := by decide +kernel
theorem dX9_reaches_344 : decode cX9_reaches 344 = .ok (.if_icmp .eq 9, 3) := by decide +kernel
theorem dX9_reaches_347 : decode cX9_reaches 347 = .ok (.iload 7, 2) := by decide +kernel
theorem dX9_reaches_349 : decode cX9_reaches 349 = .ok (.iload_n 3, 1) := by decide +kernel
theorem dX9_reaches_350 : decode cX9_reaches 350 = .ok (.if_icmp .ge 8, 3) := by decide +kernel
theorem dX9_reaches_353 : decode cX9_reaches 353 = .ok (.iload 7, 2) := by decide +kernel
theorem dX9_reaches_355 : decode cX9_reaches 355 = .ok (.goto 4, 3) := by decide +kernel
theorem dX9_reaches_358 : decode cX9_reaches 358 = .ok (.iload_n 3, 1) := by decide +kernel
theorem dX9_reaches_359 : decode cX9_reaches 359 = .ok (.istore_n 3, 1) := by decide +kernel
theorem dX9_reaches_360 : decode cX9_reaches 360 = .ok (.iinc 4 1, 3) := by decide +kernel
theorem dX9_reaches_363 : decode cX9_reaches 363 = .ok (.goto (-346), 3) := by decide +kernel
theorem dX9_reaches_366 : decode cX9_reaches 366 = .ok (.iload_n 3, 1) := by decide +kernel
theorem dX9_reaches_367 : decode cX9_reaches 367 = .ok (.ireturn, 1) := by decide +kernel
set_option maxRecDepth 20000 in
theorem ggX9_reach_X9_isSecret : GoodIn wsX9_reach wsX9_isSecret := goodIn_r _ [5, 6, 7, 8, 4, 9, 50, 51, 52, 53, 54, 55, 56, 57, 58, 59, 60, 61, 62, 63, 64, 65, 66, 67, 68, 69] (by decide +kernel) (by decide +kernel)
set_option maxRecDepth 20000 in
theorem gX9_reach_X9_isSecret : GoodIn wsX9_reach (wsV RX9 138 RX9 yX9_isSecret wsX9_isSecret) := goodIn_app (goodIn_of _ (by decide +kernel)) ggX9_reach_X9_isSecret
set_option maxRecDepth 20000 in
theorem ggX9_reach_X9_isPerson : GoodIn wsX9_reach wsX9_isPerson := goodIn_r _ [13, 6, 7, 8, 4, 9, 50, 51, 52, 53, 54, 55, 56, 57, 58, 59, 60, 61, 62, 63, 64, 65, 66, 67, 68, 69] (by decide +kernel) (by decide +kernel)
set_option maxRecDepth 20000 in
theorem gX9_reach_X9_isPerson : GoodIn wsX9_reach (wsV RX9 126 RX9 yX9_isPerson wsX9_isPerson) := goodIn_app (goodIn_of _ (by decide +kernel)) ggX9_reach_X9_isPerson
set_option maxRecDepth 20000 in
theorem ggX9_reach_X9_isAlive : GoodIn wsX9_reach wsX9_isAlive := goodIn_r _ [17, 18, 6, 50, 51, 52, 53, 54, 55, 56, 57, 58, 59, 60, 61, 62, 63, 64, 65, 66, 67, 68, 69] (by decide +kernel) (by decide +kernel)
set_option maxRecDepth 20000 in
theorem gX9_reach_X9_isAlive : GoodIn wsX9_reach (wsV RX9 116 RX9 yX9_isAlive wsX9_isAlive) := goodIn_app (goodIn_of _ (by decide +kernel)) ggX9_reach_X9_isAlive
set_option maxRecDepth 20000 in
theorem ggX9_reach_X9_reaches : GoodIn wsX9_reach wsX9_reaches := goodIn_r _ [22, 6, 18, 23, 24, 25, 26, 4, 27, 28, 29, 30, 31, 14, 15, 16, 17, 32, 33, 34, 35, 36, 37, 38, 39, 40, 41, 42, 43, 44, 45, 46, 47, 48, 49, 50, 51, 52, 53, 54, 55, 56, 57, 58, 59, 60, 61, 62, 63, 64, 65, 66, 67, 68, 69] (by decide +kernel) (by decide +kernel)
set_option maxRecDepth 20000 in
theorem gX9_reach_X9_reaches : GoodIn wsX9_reach (wsV RX9 170 RX9 yX9_reaches wsX9_reaches) := goodIn_app (goodIn_of _ (by decide +kernel)) ggX9_reach_X9_reaches
theorem dX9_reach_0 : decode cX9_reach 0 = .ok (.aload_n 0, 1) := by decide +kernel
theorem dX9_reach_1 : decode cX9_reach 1 = .ok (.iload_n 1, 1) := by decide +kernel
theorem dX9_reach_2 : decode cX9_reach 2 = .ok (.invokevirtual 138, 3) := by decide +kernel
theorem dX9_reach_5 : decode cX9_reach 5 = .ok (.ifCond .eq 11, 3) := by decide +kernel
theorem dX9_reach_8 : decode cX9_reach 8 = .ok (.aload_n 0, 1) := by decide +kernel
theorem dX9_reach_9 : decode cX9_reach 9 = .ok (.iload_n 2, 1) := by decide +kernel
theorem dX9_reach_10 : decode cX9_reach 10 = .ok (.invokevirtual 126, 3) := by decide +kernel
theorem dX9_reach_13 : decode cX9_reach 13 = .ok (.ifCond .ne 5, 3) := by decide +kernel
theorem dX9_reach_16 : decode cX9_reach 16 = .ok (.iconst (-1), 1) := by decide +kernel
theorem dX9_reach_17 : decode cX9_reach 17 = .ok (.ireturn, 1) := by decide +kernel
theorem dX9_reach_18 : decode cX9_reach 18 = .ok (.aload_n 0, 1) := by decide +kernel
theorem dX9_reach_19 : decode cX9_reach 19 = .ok (.iload_n 2, 1) := by decide +kernel
theorem dX9_reach_20 : decode cX9_reach 20 = .ok (.invokevirtual 116, 3) := by decide +kernel
theorem dX9_reach_23 : decode cX9_reach 23 = .ok (.ifCond .eq 12, 3) := by decide +kernel
theorem dX9_reach_26 : decode cX9_reach 26 = .ok (.aload_n 0, 1) := by decide +kernel
theorem dX9_reach_27 : decode cX9_reach 27 = .ok (.iload_n 1, 1) := by decide +kernel
theorem dX9_reach_28 : decode cX9_reach 28 = .ok (.iload_n 2, 1) := by decide +kernel
theorem dX9_reach_29 : decode cX9_reach 29 = .ok (.invokevirtual 170, 3) := by decide +kernel
theorem dX9_reach_32 : decode cX9_reach 32 = .ok (.goto 5, 3) := by decide +kernel
theorem dX9_reach_35 : decode cX9_reach 35 = .ok (.bipush (-2), 2) := by decide +kernel
theorem dX9_reach_37 : decode cX9_reach 37 = .ok (.ireturn, 1) := by decide +kernel
set_option maxRecDepth 20000 in
theorem ggX9_all_X9_in : GoodIn wsX9_all wsX9_in := goodIn_r _ [5] (by decide +kernel) (by decide +kernel)
set_option maxRecDepth 20000 in
theorem gX9_all_X9_in : GoodIn wsX9_all (va_wsS RX9 62 yX9_in wsX9_in) := goodIn_app (goodIn_of _ (by decide +kernel)) ggX9_all_X9_in
set_option maxRecDepth 20000 in
theorem ggX9_all_X9_isPerson : GoodIn wsX9_all wsX9_isPerson := goodIn_r _ [9, 1, 2, 3, 4, 5, 46, 47, 48, 49, 50, 51, 52, 53, 54, 55, 56, 57, 58, 59, 60, 61, 62, 63, 64, 65] (by decide +kernel) (by decide +kernel)
set_option maxRecDepth 20000 in
theorem gX9_all_X9_isPerson : GoodIn wsX9_all (wsV RX9 126 RX9 yX9_isPerson wsX9_isPerson) := goodIn_app (goodIn_of _ (by decide +kernel)) ggX9_all_X9_isPerson
set_option maxRecDepth 20000 in
theorem ggX9_all_X9_isAlive : GoodIn wsX9_all wsX9_isAlive := goodIn_r _ [13, 14, 1, 46, 47, 48, 49, 50, 51, 52, 53, 54, 55, 56, 57, 58, 59, 60, 61, 62, 63, 64, 65] (by decide +kernel) (by decide +kernel)
set_option maxRecDepth 20000 in
theorem gX9_all_X9_isAlive : GoodIn wsX9_all (wsV RX9 116 RX9 yX9_isAlive wsX9_isAlive) := goodIn_app (goodIn_of _ (by decide +kernel)) ggX9_all_X9_isAlive
set_option maxRecDepth 20000 in
theorem ggX9_all_X9_reaches : GoodIn wsX9_all wsX9_reaches := goodIn_r _ [18, 1, 14, 19, 20, 21, 22, 4, 23, 24, 25, 26, 27, 10, 11, 12, 13, 28, 29, 30, 31, 32, 33, 34, 35, 36, 37, 38, 39, 40, 41, 42, 43, 44, 45, 46, 47, 48, 49, 50, 51, 52, 53, 54, 55, 56, 57, 58, 59, 60, 61, 62, 63, 64, 65] (by decide +kernel) (by decide +kernel)
set_option maxRecDepth 20000 in
theorem gX9_all_X9_reaches : GoodIn wsX9_all (wsV RX9 170 RX9 yX9_reaches wsX9_reaches) := goodIn_app (goodIn_of _ (by decide +kernel)) ggX9_all_X9_reaches
theorem dX9_all_0 : decode cX9_all 0 = .ok (.iload_n 1, 1) := by decide +kernel
theorem dX9_all_1 : decode cX9_all 1 = .ok (.iconst 0, 1) := by decide +kernel
theorem dX9_all_2 : decode cX9_all 2 = .ok (.iconst 1, 1) := by decide +kernel
theorem dX9_all_3 : decode cX9_all 3 = .ok (.aload_n 0, 1) := by decide +kernel
theorem dX9_all_4 : decode cX9_all 4 = .ok (.getfield 13, 3) := by decide +kernel
theorem dX9_all_7 : decode cX9_all 7 = .ok (.iconst 1, 1) := by decide +kernel
theorem dX9_all_8 : decode cX9_all 8 = .ok (.iaload, 1) := by decide +kernel
theorem dX9_all_9 : decode cX9_all 9 = .ok (.ishl, 1) := by decide +kernel
theorem dX9_all_10 : decode cX9_all 10 = .ok (.iconst 1, 1) := by decide +kernel
theorem dX9_all_11 : decode cX9_all 11 = .ok (.isub, 1) := by decide +kernel
theorem dX9_all_12 : decode cX9_all 12 = .ok (.invokestatic 62, 3) := by decide +kernel
theorem dX9_all_15 : decode cX9_all 15 = .ok (.ifCond .eq 11, 3) := by decide +kernel
theorem dX9_all_18 : decode cX9_all 18 = .ok (.aload_n 0, 1) := by decide +kernel
theorem dX9_all_19 : decode cX9_all 19 = .ok (.iload_n 2, 1) := by decide +kernel
theorem dX9_all_20 : decode cX9_all 20 = .ok (.invokevirtual 126, 3) := by decide +kernel
theorem dX9_all_23 : decode cX9_all 23 = .ok (.ifCond .ne 5, 3) := by decide +kernel
theorem dX9_all_26 : decode cX9_all 26 = .ok (.iconst (-1), 1) := by decide +kernel
theorem dX9_all_27 : decode cX9_all 27 = .ok (.ireturn, 1) := by decide +kernel
theorem dX9_all_28 : decode cX9_all 28 = .ok (.aload_n 0, 1) := by decide +kernel
theorem dX9_all_29 : decode cX9_all 29 = .ok (.iload_n 2, 1) := by decide +kernel
theorem dX9_all_30 : decode cX9_all 30 = .ok (.invokevirtual 116, 3) := by decide +kernel
theorem dX9_all_33 : decode cX9_all 33 = .ok (.ifCond .ne 6, 3) := by decide +kernel
theorem dX9_all_36 : decode cX9_all 36 = .ok (.bipush (-2), 2) := by decide +kernel
theorem dX9_all_38 : decode cX9_all 38 = .ok (.ireturn, 1) := by decide +kernel
theorem dX9_all_39 : decode cX9_all 39 = .ok (.iconst 0, 1) := by decide +kernel
theorem dX9_all_40 : decode cX9_all 40 = .ok (.istore_n 3, 1) := by decide +kernel
theorem dX9_all_41 : decode cX9_all 41 = .ok (.iconst 0, 1) := by decide +kernel
theorem dX9_all_42 : decode cX9_all 42 = .ok (.istore 4, 2) := by decide +kernel
theorem dX9_all_44 : decode cX9_all 44 = .ok (.iload 4, 2) := by decide +kernel
theorem dX9_all_46 : decode cX9_all 46 = .ok (.aload_n 0, 1) := by decide +kernel
theorem dX9_all_47 : decode cX9_all 47 = .ok (.getfield 13, 3) := by decide +kernel
theorem dX9_all_50 : decode cX9_all 50 = .ok (.iconst 1, 1) := by decide +kernel
theorem dX9_all_51 : decode cX9_all 51 = .ok (.iaload, 1) := by decide +kernel
theorem dX9_all_52 : decode cX9_all 52 = .ok (.if_icmp .ge 55, 3) := by decide +kernel
theorem dX9_all_55 : decode cX9_all 55 = .ok (.iload_n 1, 1) := by decide +kernel
theorem dX9_all_56 : decode cX9_all 56 = .ok (.iload 4, 2) := by decide +kernel
theorem dX9_all_58 : decode cX9_all 58 = .ok (.ishr, 1) := by decide +kernel
theorem dX9_all_59 : decode cX9_all 59 = .ok (.iconst 1, 1) := by decide +kernel
theorem dX9_all_60 : decode cX9_all 60 = .ok (.iand, 1) := by decide +kernel
theorem dX9_all_61 : decode cX9_all 61 = .ok (.iconst 1, 1) := by decide +kernel
theorem dX9_all_62 : decode cX9_all 62 = .ok (.if_icmp .ne 13, 3) := by decide +kernel
theorem dX9_all_65 : decode cX9_all 65 = .ok (.aload_n 0, 1) := by decide +kernel
theorem dX9_all_66 : decode cX9_all 66 = .ok (.iload 4, 2) := by decide +kernel
theorem dX9_all_68 : decode cX9_all 68 = .ok (.iload_n 2, 1) := by decide +kernel
theorem dX9_all_69 : decode cX9_all 69 = .ok (.invokevirtual 170, 3) := by decide +kernel
theorem dX9_all_72 : decode cX9_all 72 = .ok (.goto 4, 3) := by decide +kernel
theorem dX9_all_75 : decode cX9_all 75 = .ok (.iconst 0, 1) := by decide +kernel
theorem dX9_all_76 : decode cX9_all 76 = .ok (.istore 5, 2) := by decide +kernel
theorem dX9_all_78 : decode cX9_all 78 = .ok (.iload 5, 2) := by decide +kernel
theorem dX9_all_80 : decode cX9_all 80 = .ok (.bipush (-4), 2) := by decide +kernel
theorem dX9_all_82 : decode cX9_all 82 = .ok (.if_icmp .eq 9, 3) := by decide +kernel
theorem dX9_all_85 : decode cX9_all 85 = .ok (.iload_n 3, 1) := by decide +kernel
theorem dX9_all_86 : decode cX9_all 86 = .ok (.bipush (-4), 2) := by decide +kernel
theorem dX9_all_88 : decode cX9_all 88 = .ok (.if_icmp .ne 8, 3) := by decide +kernel
theorem dX9_all_91 : decode cX9_all 91 = .ok (.bipush (-4), 2) := by decide +kernel
theorem dX9_all_93 : decode cX9_all 93 = .ok (.goto 7, 3) := by decide +kernel
theorem dX9_all_96 : decode cX9_all 96 = .ok (.iload_n 3, 1) := by decide +kernel
theorem dX9_all_97 : decode cX9_all 97 = .ok (.iload 5, 2) := by decide +kernel
theorem dX9_all_99 : decode cX9_all 99 = .ok (.iadd, 1) := by decide +kernel
theorem dX9_all_100 : decode cX9_all 100 = .ok (.istore_n 3, 1) := by decide +kernel
theorem dX9_all_101 : decode cX9_all 101 = .ok (.iinc 4 1, 3) := by decide +kernel
theorem dX9_all_104 : decode cX9_all 104 = .ok (.goto (-60), 3) := by decide +kernel
theorem dX9_all_107 : decode cX9_all 107 = .ok (.iload_n 3, 1) := by decide +kernel
theorem dX9_all_108 : decode cX9_all 108 = .ok (.ireturn, 1) := by decide +kernel
set_option maxRecDepth 20000 in
theorem ggX9_apart_X9_isSecret : GoodIn wsX9_apart wsX9_isSecret := goodIn_r _ [7, 2, 8, 9, 6, 10, 34, 35, 36, 37, 38, 39, 40, 41, 42, 43, 44, 45, 46, 47, 48, 49, 50, 51, 52, 53] (by decide +kernel) (by decide +kernel)
set_option maxRecDepth 20000 in
theorem gX9_apart_X9_isSecret : GoodIn wsX9_apart (wsV RX9 138 RX9 yX9_isSecret wsX9_isSecret) := goodIn_app (goodIn_of _ (by decide +kernel)) ggX9_apart_X9_isSecret
set_option maxRecDepth 20000 in
theorem ggX9_apart_X9_isPerson : GoodIn wsX9_apart wsX9_isPerson := goodIn_r _ [14, 2, 8, 9, 6, 10, 34, 35, 36, 37, 38, 39, 40, 41, 42, 43, 44, 45, 46, 47, 48, 49, 50, 51, 52, 53] (by decide +kernel) (by decide +kernel)
set_option maxRecDepth 20000 in
theorem gX9_apart_X9_isPerson : GoodIn wsX9_apart (wsV RX9 126 RX9 yX9_isPerson wsX9_isPerson) := goodIn_app (goodIn_of _ (by decide +kernel)) ggX9_apart_X9_isPerson
set_option maxRecDepth 20000 in
theorem ggX9_apart_X9_isAlive : GoodIn wsX9_apart wsX9_isAlive := goodIn_r _ [18, 1, 2, 34, 35, 36, 37, 38, 39, 40, 41, 42, 43, 44, 45, 46, 47, 48, 49, 50, 51, 52, 53] (by decide +kernel) (by decide +kernel)
set_option maxRecDepth 20000 in
theorem gX9_apart_X9_isAlive : GoodIn wsX9_apart (wsV RX9 116 RX9 yX9_isAlive wsX9_isAlive) := goodIn_app (goodIn_of _ (by decide +kernel)) ggX9_apart_X9_isAlive
set_option maxRecDepth 20000 in
theorem ggX9_apart_X9_knows : GoodIn wsX9_apart wsX9_knows := goodIn_r _ [22, 1, 34, 35, 36, 37, 38, 39, 40, 41, 42, 43, 44, 45, 46, 47, 48, 49, 50, 51, 52, 53] (by decide +kernel) (by decide +kernel)
set_option maxRecDepth 20000 in
theorem gX9_apart_X9_knows : GoodIn wsX9_apart (wsV RX9 122 RX9 yX9_knows wsX9_knows) := goodIn_app (goodIn_of _ (by decide +kernel)) ggX9_apart_X9_knows
set_option maxRecDepth 20000 in
theorem ggX9_apart_X9_alive : GoodIn wsX9_apart wsX9_alive := goodIn_r _ [26, 2, 15, 16, 17, 6, 18, 1, 34, 35, 36, 37, 38, 39, 40, 41, 42, 43, 44, 45, 46, 47, 48, 49, 50, 51, 52, 53] (by decide +kernel) (by decide +kernel)
set_option maxRecDepth 20000 in
theorem gX9_apart_X9_alive : GoodIn wsX9_apart (wsV RX9 119 RX9 yX9_alive wsX9_alive) := goodIn_app (goodIn_of _ (by decide +kernel)) ggX9_apart_X9_alive
set_option maxRecDepth 20000 in
theorem ggX9_apart_X9_met : GoodIn wsX9_apart wsX9_met := goodIn_r _ [30, 2, 15, 16, 17, 6, 18, 1, 23, 24, 25, 26, 34, 35, 36, 37, 38, 39, 40, 41, 42, 43, 44, 45, 46, 47, 48, 49, 50, 51, 52, 53] (by decide +kernel) (by decide +kernel)
set_option maxRecDepth 20000 in
theorem gX9_apart_X9_met : GoodIn wsX9_apart (wsV RX9 129 RX9 yX9_met wsX9_met) := goodIn_app (goodIn_of _ (by decide +kernel)) ggX9_apart_X9_met
set_option maxRecDepth 20000 in
theorem ggX9_apart_X9_ones : GoodIn wsX9_apart wsX9_ones := goodIn_r _ [33] (by decide +kernel) (by decide +kernel)
set_option maxRecDepth 20000 in
theorem gX9_apart_X9_ones : GoodIn wsX9_apart (va_wsS RX9 141 yX9_ones wsX9_ones) := goodIn_app (goodIn_of _ (by decide +kernel)) ggX9_apart_X9_ones
theorem dX9_apart_0 : decode cX9_apart 0 = .ok (.aload_n 0, 1) := by decide +kernel
theorem dX9_apart_1 : decode cX9_apart 1 = .ok (.iload_n 1, 1) := by decide +kernel
theorem dX9_apart_2 : decode cX9_apart 2 = .ok (.invokevirtual 138, 3) := by decide +kernel
theorem dX9_apart_5 : decode cX9_apart 5 = .ok (.ifCond .eq 11, 3) := by decide +kernel
theorem dX9_apart_8 : decode cX9_apart 8 = .ok (.aload_n 0, 1) := by decide +kernel
theorem dX9_apart_9 : decode cX9_apart 9 = .ok (.iload_n 2, 1) := by decide +kernel
theorem dX9_apart_10 : decode cX9_apart 10 = .ok (.invokevirtual 126, 3) := by decide +kernel
theorem dX9_apart_13 : decode cX9_apart 13 = .ok (.ifCond .ne 5, 3) := by decide +kernel
theorem dX9_apart_16 : decode cX9_apart 16 = .ok (.iconst (-1), 1) := by decide +kernel
theorem dX9_apart_17 : decode cX9_apart 17 = .ok (.ireturn, 1) := by decide +kernel
theorem dX9_apart_18 : decode cX9_apart 18 = .ok (.aload_n 0, 1) := by decide +kernel
theorem dX9_apart_19 : decode cX9_apart 19 = .ok (.iload_n 2, 1) := by decide +kernel
theorem dX9_apart_20 : decode cX9_apart 20 = .ok (.invokevirtual 116, 3) := by decide +kernel
theorem dX9_apart_23 : decode cX9_apart 23 = .ok (.ifCond .ne 6, 3) := by decide +kernel
theorem dX9_apart_26 : decode cX9_apart 26 = .ok (.bipush (-2), 2) := by decide +kernel
theorem dX9_apart_28 : decode cX9_apart 28 = .ok (.ireturn, 1) := by decide +kernel
theorem dX9_apart_29 : decode cX9_apart 29 = .ok (.aload_n 0, 1) := by decide +kernel
theorem dX9_apart_30 : decode cX9_apart 30 = .ok (.iload_n 2, 1) := by decide +kernel
theorem dX9_apart_31 : decode cX9_apart 31 = .ok (.iload_n 1, 1) := by decide +kernel
theorem dX9_apart_32 : decode cX9_apart 32 = .ok (.invokevirtual 122, 3) := by decide +kernel
theorem dX9_apart_35 : decode cX9_apart 35 = .ok (.ifCond .eq 6, 3) := by decide +kernel
theorem dX9_apart_38 : decode cX9_apart 38 = .ok (.bipush (-4), 2) := by decide +kernel
theorem dX9_apart_40 : decode cX9_apart 40 = .ok (.ireturn, 1) := by decide +kernel
theorem dX9_apart_41 : decode cX9_apart 41 = .ok (.aload_n 0, 1) := by decide +kernel
theorem dX9_apart_42 : decode cX9_apart 42 = .ok (.invokevirtual 119, 3) := by decide +kernel
theorem dX9_apart_45 : decode cX9_apart 45 = .ok (.istore_n 3, 1) := by decide +kernel
theorem dX9_apart_46 : decode cX9_apart 46 = .ok (.iload_n 3, 1) := by decide +kernel
theorem dX9_apart_47 : decode cX9_apart 47 = .ok (.aload_n 0, 1) := by decide +kernel
theorem dX9_apart_48 : decode cX9_apart 48 = .ok (.getfield 19, 3) := by decide +kernel
theorem dX9_apart_51 : decode cX9_apart 51 = .ok (.bipush 6, 2) := by decide +kernel
theorem dX9_apart_53 : decode cX9_apart 53 = .ok (.iload_n 1, 1) := by decide +kernel
theorem dX9_apart_54 : decode cX9_apart 54 = .ok (.iadd, 1) := by decide +kernel
theorem dX9_apart_55 : decode cX9_apart 55 = .ok (.iaload, 1) := by decide +kernel
theorem dX9_apart_56 : decode cX9_apart 56 = .ok (.iand, 1) := by decide +kernel
theorem dX9_apart_57 : decode cX9_apart 57 = .ok (.istore 4, 2) := by decide +kernel
theorem dX9_apart_59 : decode cX9_apart 59 = .ok (.bipush (-4), 2) := by decide +kernel
theorem dX9_apart_61 : decode cX9_apart 61 = .ok (.istore 5, 2) := by decide +kernel
theorem dX9_apart_63 : decode cX9_apart 63 = .ok (.iconst 0, 1) := by decide +kernel
theorem dX9_apart_64 : decode cX9_apart 64 = .ok (.istore 6, 2) := by decide +kernel
theorem dX9_apart_66 : decode cX9_apart 66 = .ok (.iload 6, 2) := by decide +kernel
theorem dX9_apart_68 : decode cX9_apart 68 = .ok (.iconst 1, 1) := by decide +kernel
theorem dX9_apart_69 : decode cX9_apart 69 = .ok (.aload_n 0, 1) := by decide +kernel
theorem dX9_apart_70 : decode cX9_apart 70 = .ok (.getfield 13, 3) := by decide +kernel
theorem dX9_apart_73 : decode cX9_apart 73 = .ok (.iconst 0, 1) := by decide +kernel
theorem dX9_apart_74 : decode cX9_apart 74 = .ok (.iaload, 1) := by decide +kernel
theorem dX9_apart_75 : decode cX9_apart 75 = .ok (.ishl, 1) := by decide +kernel
theorem dX9_apart_76 : decode cX9_apart 76 = .ok (.if_icmp .ge 117, 3) := by decide +kernel
theorem dX9_apart_79 : decode cX9_apart 79 = .ok (.iload 6, 2) := by decide +kernel
theorem dX9_apart_81 : decode cX9_apart 81 = .ok (.iload_n 3, 1) := by decide +kernel
theorem dX9_apart_82 : decode cX9_apart 82 = .ok (.iconst (-1), 1) := by decide +kernel
theorem dX9_apart_83 : decode cX9_apart 83 = .ok (.ixor, 1) := by decide +kernel
theorem dX9_apart_84 : decode cX9_apart 84 = .ok (.iand, 1) := by decide +kernel
theorem dX9_apart_85 : decode cX9_apart 85 = .ok (.ifCond .ne 102, 3) := by decide +kernel
theorem dX9_apart_88 : decode cX9_apart 88 = .ok (.iload 4, 2) := by decide +kernel
theorem dX9_apart_90 : decode cX9_apart 90 = .ok (.iload 6, 2) := by decide +kernel
theorem dX9_apart_92 : decode cX9_apart 92 = .ok (.iconst (-1), 1) := by decide +kernel
theorem dX9_apart_93 : decode cX9_apart 93 = .ok (.ixor, 1) := by decide +kernel
theorem dX9_apart_94 : decode cX9_apart 94 = .ok (.iand, 1) := by decide +kernel
theorem dX9_apart_95 : decode cX9_apart 95 = .ok (.ifCond .ne 92, 3) := by decide +kernel
theorem dX9_apart_98 : decode cX9_apart 98 = .ok (.iload 6, 2) := by decide +kernel

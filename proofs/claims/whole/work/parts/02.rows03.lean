theorem dX9_readsItem_55 : decode cX9_readsItem 55 = .ok (.bipush 60, 2) := by decide +kernel
theorem dX9_readsItem_57 : decode cX9_readsItem 57 = .ok (.if_icmp .gt 22, 3) := by decide +kernel
theorem dX9_readsItem_60 : decode cX9_readsItem 60 = .ok (.aload_n 0, 1) := by decide +kernel
theorem dX9_readsItem_61 : decode cX9_readsItem 61 = .ok (.getfield 91, 3) := by decide +kernel
theorem dX9_readsItem_64 : decode cX9_readsItem 64 = .ok (.iconst 4, 1) := by decide +kernel
theorem dX9_readsItem_65 : decode cX9_readsItem 65 = .ok (.if_icmp .gt 14, 3) := by decide +kernel
theorem dX9_readsItem_68 : decode cX9_readsItem 68 = .ok (.aload_n 0, 1) := by decide +kernel
theorem dX9_readsItem_69 : decode cX9_readsItem 69 = .ok (.getfield 16, 3) := by decide +kernel
theorem dX9_readsItem_72 : decode cX9_readsItem 72 = .ok (.iconst 0, 1) := by decide +kernel
theorem dX9_readsItem_73 : decode cX9_readsItem 73 = .ok (.iaload, 1) := by decide +kernel
theorem dX9_readsItem_74 : decode cX9_readsItem 74 = .ok (.bipush 6, 2) := by decide +kernel
theorem dX9_readsItem_76 : decode cX9_readsItem 76 = .ok (.if_icmp .ne 5, 3) := by decide +kernel
theorem dX9_readsItem_79 : decode cX9_readsItem 79 = .ok (.iconst 0, 1) := by decide +kernel
theorem dX9_readsItem_80 : decode cX9_readsItem 80 = .ok (.ireturn, 1) := by decide +kernel
theorem dX9_readsItem_81 : decode cX9_readsItem 81 = .ok (.aload_n 0, 1) := by decide +kernel
theorem dX9_readsItem_82 : decode cX9_readsItem 82 = .ok (.aload_n 0, 1) := by decide +kernel
theorem dX9_readsItem_83 : decode cX9_readsItem 83 = .ok (.getfield 85, 3) := by decide +kernel
theorem dX9_readsItem_86 : decode cX9_readsItem 86 = .ok (.aload_n 0, 1) := by decide +kernel
theorem dX9_readsItem_87 : decode cX9_readsItem 87 = .ok (.getfield 91, 3) := by decide +kernel
theorem dX9_readsItem_90 : decode cX9_readsItem 90 = .ok (.invokevirtual 49, 3) := by decide +kernel
theorem dX9_readsItem_93 : decode cX9_readsItem 93 = .ok (.iconst 1, 1) := by decide +kernel
theorem dX9_readsItem_94 : decode cX9_readsItem 94 = .ok (.ireturn, 1) := by decide +kernel
theorem dX9_readsItem_95 : decode cX9_readsItem 95 = .ok (.aload_n 0, 1) := by decide +kernel
theorem dX9_readsItem_96 : decode cX9_readsItem 96 = .ok (.invokevirtual 94, 3) := by decide +kernel
theorem dX9_readsItem_99 : decode cX9_readsItem 99 = .ok (.ifCond .eq 40, 3) := by decide +kernel
theorem dX9_readsItem_102 : decode cX9_readsItem 102 = .ok (.aload_n 0, 1) := by decide +kernel
theorem dX9_readsItem_103 : decode cX9_readsItem 103 = .ok (.getfield 85, 3) := by decide +kernel
theorem dX9_readsItem_106 : decode cX9_readsItem 106 = .ok (.aload_n 0, 1) := by decide +kernel
theorem dX9_readsItem_107 : decode cX9_readsItem 107 = .ok (.getfield 16, 3) := by decide +kernel
theorem dX9_readsItem_110 : decode cX9_readsItem 110 = .ok (.iconst 0, 1) := by decide +kernel
theorem dX9_readsItem_111 : decode cX9_readsItem 111 = .ok (.iaload, 1) := by decide +kernel
theorem dX9_readsItem_112 : decode cX9_readsItem 112 = .ok (.if_icmp .ge 27, 3) := by decide +kernel
theorem dX9_readsItem_115 : decode cX9_readsItem 115 = .ok (.aload_n 0, 1) := by decide +kernel
theorem dX9_readsItem_116 : decode cX9_readsItem 116 = .ok (.getfield 91, 3) := by decide +kernel
theorem dX9_readsItem_119 : decode cX9_readsItem 119 = .ok (.aload_n 0, 1) := by decide +kernel
theorem dX9_readsItem_120 : decode cX9_readsItem 120 = .ok (.getfield 16, 3) := by decide +kernel
theorem dX9_readsItem_123 : decode cX9_readsItem 123 = .ok (.iconst 0, 1) := by decide +kernel
theorem dX9_readsItem_124 : decode cX9_readsItem 124 = .ok (.iaload, 1) := by decide +kernel
theorem dX9_readsItem_125 : decode cX9_readsItem 125 = .ok (.if_icmp .ge 14, 3) := by decide +kernel
theorem dX9_readsItem_128 : decode cX9_readsItem 128 = .ok (.aload_n 0, 1) := by decide +kernel
theorem dX9_readsItem_129 : decode cX9_readsItem 129 = .ok (.getfield 85, 3) := by decide +kernel
theorem dX9_readsItem_132 : decode cX9_readsItem 132 = .ok (.aload_n 0, 1) := by decide +kernel
theorem dX9_readsItem_133 : decode cX9_readsItem 133 = .ok (.getfield 91, 3) := by decide +kernel
theorem dX9_readsItem_136 : decode cX9_readsItem 136 = .ok (.if_icmp .ne 5, 3) := by decide +kernel
theorem dX9_readsItem_139 : decode cX9_readsItem 139 = .ok (.iconst 0, 1) := by decide +kernel
theorem dX9_readsItem_140 : decode cX9_readsItem 140 = .ok (.ireturn, 1) := by decide +kernel
theorem dX9_readsItem_141 : decode cX9_readsItem 141 = .ok (.aload_n 0, 1) := by decide +kernel
theorem dX9_readsItem_142 : decode cX9_readsItem 142 = .ok (.aload_n 0, 1) := by decide +kernel
theorem dX9_readsItem_143 : decode cX9_readsItem 143 = .ok (.getfield 85, 3) := by decide +kernel
theorem dX9_readsItem_146 : decode cX9_readsItem 146 = .ok (.aload_n 0, 1) := by decide +kernel
theorem dX9_readsItem_147 : decode cX9_readsItem 147 = .ok (.getfield 91, 3) := by decide +kernel
theorem dX9_readsItem_150 : decode cX9_readsItem 150 = .ok (.invokevirtual 53, 3) := by decide +kernel
theorem dX9_readsItem_153 : decode cX9_readsItem 153 = .ok (.iconst 1, 1) := by decide +kernel
theorem dX9_readsItem_154 : decode cX9_readsItem 154 = .ok (.ireturn, 1) := by decide +kernel
theorem dX9_readsItem_155 : decode cX9_readsItem 155 = .ok (.aload_n 0, 1) := by decide +kernel
theorem dX9_readsItem_156 : decode cX9_readsItem 156 = .ok (.invokevirtual 94, 3) := by decide +kernel
theorem dX9_readsItem_159 : decode cX9_readsItem 159 = .ok (.ifCond .eq 36, 3) := by decide +kernel
theorem dX9_readsItem_162 : decode cX9_readsItem 162 = .ok (.aload_n 0, 1) := by decide +kernel
theorem dX9_readsItem_163 : decode cX9_readsItem 163 = .ok (.getfield 85, 3) := by decide +kernel
theorem dX9_readsItem_166 : decode cX9_readsItem 166 = .ok (.aload_n 0, 1) := by decide +kernel
theorem dX9_readsItem_167 : decode cX9_readsItem 167 = .ok (.getfield 16, 3) := by decide +kernel
theorem dX9_readsItem_170 : decode cX9_readsItem 170 = .ok (.iconst 0, 1) := by decide +kernel
theorem dX9_readsItem_171 : decode cX9_readsItem 171 = .ok (.iaload, 1) := by decide +kernel
theorem dX9_readsItem_172 : decode cX9_readsItem 172 = .ok (.if_icmp .ge 23, 3) := by decide +kernel
theorem dX9_readsItem_175 : decode cX9_readsItem 175 = .ok (.aload_n 0, 1) := by decide +kernel
theorem dX9_readsItem_176 : decode cX9_readsItem 176 = .ok (.getfield 91, 3) := by decide +kernel
theorem dX9_readsItem_179 : decode cX9_readsItem 179 = .ok (.bipush 63, 2) := by decide +kernel
theorem dX9_readsItem_181 : decode cX9_readsItem 181 = .ok (.if_icmp .gt 14, 3) := by decide +kernel
theorem dX9_readsItem_184 : decode cX9_readsItem 184 = .ok (.aload_n 0, 1) := by decide +kernel
theorem dX9_readsItem_185 : decode cX9_readsItem 185 = .ok (.getfield 16, 3) := by decide +kernel
theorem dX9_readsItem_188 : decode cX9_readsItem 188 = .ok (.iconst 1, 1) := by decide +kernel
theorem dX9_readsItem_189 : decode cX9_readsItem 189 = .ok (.iaload, 1) := by decide +kernel
theorem dX9_readsItem_190 : decode cX9_readsItem 190 = .ok (.bipush 8, 2) := by decide +kernel
theorem dX9_readsItem_192 : decode cX9_readsItem 192 = .ok (.if_icmp .ne 5, 3) := by decide +kernel
theorem dX9_readsItem_195 : decode cX9_readsItem 195 = .ok (.iconst 0, 1) := by decide +kernel
theorem dX9_readsItem_196 : decode cX9_readsItem 196 = .ok (.ireturn, 1) := by decide +kernel
theorem dX9_readsItem_197 : decode cX9_readsItem 197 = .ok (.aload_n 0, 1) := by decide +kernel
theorem dX9_readsItem_198 : decode cX9_readsItem 198 = .ok (.aload_n 0, 1) := by decide +kernel
theorem dX9_readsItem_199 : decode cX9_readsItem 199 = .ok (.getfield 85, 3) := by decide +kernel
theorem dX9_readsItem_202 : decode cX9_readsItem 202 = .ok (.aload_n 0, 1) := by decide +kernel
theorem dX9_readsItem_203 : decode cX9_readsItem 203 = .ok (.getfield 91, 3) := by decide +kernel
theorem dX9_readsItem_206 : decode cX9_readsItem 206 = .ok (.invokevirtual 56, 3) := by decide +kernel
theorem dX9_readsItem_209 : decode cX9_readsItem 209 = .ok (.iconst 1, 1) := by decide +kernel
theorem dX9_readsItem_210 : decode cX9_readsItem 210 = .ok (.ireturn, 1) := by decide +kernel
theorem dX9_readsItem_211 : decode cX9_readsItem 211 = .ok (.aload_n 0, 1) := by decide +kernel
theorem dX9_readsItem_212 : decode cX9_readsItem 212 = .ok (.getfield 16, 3) := by decide +kernel
theorem dX9_readsItem_215 : decode cX9_readsItem 215 = .ok (.iconst 2, 1) := by decide +kernel
theorem dX9_readsItem_216 : decode cX9_readsItem 216 = .ok (.aload_n 0, 1) := by decide +kernel
theorem dX9_readsItem_217 : decode cX9_readsItem 217 = .ok (.invokevirtual 81, 3) := by decide +kernel
theorem dX9_readsItem_220 : decode cX9_readsItem 220 = .ok (.iastore, 1) := by decide +kernel
theorem dX9_readsItem_221 : decode cX9_readsItem 221 = .ok (.aload_n 0, 1) := by decide +kernel
theorem dX9_readsItem_222 : decode cX9_readsItem 222 = .ok (.getfield 16, 3) := by decide +kernel
theorem dX9_readsItem_225 : decode cX9_readsItem 225 = .ok (.iconst 2, 1) := by decide +kernel
theorem dX9_readsItem_226 : decode cX9_readsItem 226 = .ok (.iaload, 1) := by decide +kernel
theorem dX9_readsItem_227 : decode cX9_readsItem 227 = .ok (.ifCond .le 16, 3) := by decide +kernel
theorem dX9_readsItem_230 : decode cX9_readsItem 230 = .ok (.aload_n 0, 1) := by decide +kernel
theorem dX9_readsItem_231 : decode cX9_readsItem 231 = .ok (.bipush 59, 2) := by decide +kernel
theorem dX9_readsItem_233 : decode cX9_readsItem 233 = .ok (.invokevirtual 88, 3) := by decide +kernel
theorem dX9_readsItem_236 : decode cX9_readsItem 236 = .ok (.ifCond .eq 7, 3) := by decide +kernel
theorem dX9_readsItem_239 : decode cX9_readsItem 239 = .ok (.iconst 1, 1) := by decide +kernel
theorem dX9_readsItem_240 : decode cX9_readsItem 240 = .ok (.goto 4, 3) := by decide +kernel
theorem dX9_readsItem_243 : decode cX9_readsItem 243 = .ok (.iconst 0, 1) := by decide +kernel
theorem dX9_readsItem_244 : decode cX9_readsItem 244 = .ok (.ireturn, 1) := by decide +kernel
theorem dX9_readsItem_245 : decode cX9_readsItem 245 = .ok (.iconst 0, 1) := by decide +kernel
theorem dX9_readsItem_246 : decode cX9_readsItem 246 = .ok (.ireturn, 1) := by decide +kernel
set_option maxRecDepth 20000 in
theorem ggX9_reads_X9_begins : GoodIn wsX9_reads wsX9_begins := goodIn_r _ [8, 9, 50, 51, 52, 53, 54, 55, 56, 57, 58, 59, 60, 61, 62, 63, 64, 65, 66, 67, 68, 69] (by decide +kernel) (by decide +kernel)
set_option maxRecDepth 20000 in
theorem gX9_reads_X9_begins : GoodIn wsX9_reads (wsV RX9 46 RX9 yX9_begins wsX9_begins) := goodIn_app (goodIn_of _ (by decide +kernel)) ggX9_reads_X9_begins
set_option maxRecDepth 20000 in
theorem ggX9_reads_X9_readsItem : GoodIn wsX9_reads wsX9_readsItem := goodIn_r _ [13, 14, 15, 9, 16, 17, 18, 7, 19, 20, 21, 22, 23, 1, 24, 25, 26, 27, 2, 3, 28, 29, 30, 31, 32, 33, 34, 35, 36, 37, 38, 39, 40, 41, 42, 43, 44, 45, 46, 47, 48, 49, 50, 51, 52, 53, 54, 55, 56, 57, 58, 59, 60, 61, 62, 63, 64, 65, 66, 67, 68, 69] (by decide +kernel) (by decide +kernel)
set_option maxRecDepth 20000 in
theorem gX9_reads_X9_readsItem : GoodIn wsX9_reads (wsV RX9 98 RX9 yX9_readsItem wsX9_readsItem) := goodIn_app (goodIn_of _ (by decide +kernel)) ggX9_reads_X9_readsItem
theorem dX9_reads_0 : decode cX9_reads 0 = .ok (.aload_n 0, 1) := by decide +kernel
theorem dX9_reads_1 : decode cX9_reads 1 = .ok (.invokevirtual 46, 3) := by decide +kernel
theorem dX9_reads_4 : decode cX9_reads 4 = .ok (.aload_n 0, 1) := by decide +kernel
theorem dX9_reads_5 : decode cX9_reads 5 = .ok (.iconst 0, 1) := by decide +kernel
theorem dX9_reads_6 : decode cX9_reads 6 = .ok (.putfield 70, 3) := by decide +kernel
theorem dX9_reads_9 : decode cX9_reads 9 = .ok (.aload_n 0, 1) := by decide +kernel
theorem dX9_reads_10 : decode cX9_reads 10 = .ok (.getfield 70, 3) := by decide +kernel
theorem dX9_reads_13 : decode cX9_reads 13 = .ok (.aload_n 0, 1) := by decide +kernel
theorem dX9_reads_14 : decode cX9_reads 14 = .ok (.getfield 66, 3) := by decide +kernel
theorem dX9_reads_17 : decode cX9_reads 17 = .ok (.if_icmp .ge 36, 3) := by decide +kernel
theorem dX9_reads_20 : decode cX9_reads 20 = .ok (.aload_n 0, 1) := by decide +kernel
theorem dX9_reads_21 : decode cX9_reads 21 = .ok (.getfield 70, 3) := by decide +kernel
theorem dX9_reads_24 : decode cX9_reads 24 = .ok (.istore_n 1, 1) := by decide +kernel
theorem dX9_reads_25 : decode cX9_reads 25 = .ok (.aload_n 0, 1) := by decide +kernel
theorem dX9_reads_26 : decode cX9_reads 26 = .ok (.dup, 1) := by decide +kernel
theorem dX9_reads_27 : decode cX9_reads 27 = .ok (.getfield 70, 3) := by decide +kernel
theorem dX9_reads_30 : decode cX9_reads 30 = .ok (.iconst 1, 1) := by decide +kernel
theorem dX9_reads_31 : decode cX9_reads 31 = .ok (.iadd, 1) := by decide +kernel
theorem dX9_reads_32 : decode cX9_reads 32 = .ok (.putfield 70, 3) := by decide +kernel
theorem dX9_reads_35 : decode cX9_reads 35 = .ok (.aload_n 0, 1) := by decide +kernel
theorem dX9_reads_36 : decode cX9_reads 36 = .ok (.aload_n 0, 1) := by decide +kernel
theorem dX9_reads_37 : decode cX9_reads 37 = .ok (.getfield 7, 3) := by decide +kernel
theorem dX9_reads_40 : decode cX9_reads 40 = .ok (.iload_n 1, 1) := by decide +kernel
theorem dX9_reads_41 : decode cX9_reads 41 = .ok (.iaload, 1) := by decide +kernel
theorem dX9_reads_42 : decode cX9_reads 42 = .ok (.invokevirtual 98, 3) := by decide +kernel
theorem dX9_reads_45 : decode cX9_reads 45 = .ok (.ifCond .ne 5, 3) := by decide +kernel
theorem dX9_reads_48 : decode cX9_reads 48 = .ok (.iload_n 1, 1) := by decide +kernel
theorem dX9_reads_49 : decode cX9_reads 49 = .ok (.ireturn, 1) := by decide +kernel
theorem dX9_reads_50 : decode cX9_reads 50 = .ok (.goto (-41), 3) := by decide +kernel
theorem dX9_reads_53 : decode cX9_reads 53 = .ok (.bipush (-4), 2) := by decide +kernel
theorem dX9_reads_55 : decode cX9_reads 55 = .ok (.ireturn, 1) := by decide +kernel
set_option maxRecDepth 20000 in
theorem ggX9_fault_X9_reads : GoodIn wsX9_fault wsX9_reads := goodIn_r _ [5, 6, 7, 8, 9, 10, 11, 4, 12, 13, 14, 15, 16, 17, 18, 19, 20, 21, 22, 23, 24, 25, 26, 27, 28, 29, 30, 31, 32, 33, 34, 35, 36, 37, 38, 39, 40, 41, 42, 43, 44, 45, 46, 47, 48, 49, 50, 51, 52, 53, 54, 55, 56, 57, 58, 59, 60, 61, 62, 63, 64, 65, 66, 67, 68, 69, 70, 71, 72, 73] (by decide +kernel) (by decide +kernel)
set_option maxRecDepth 20000 in
theorem gX9_fault_X9_reads : GoodIn wsX9_fault (wsV RX9 101 RX9 yX9_reads wsX9_reads) := goodIn_app (goodIn_of _ (by decide +kernel)) ggX9_fault_X9_reads
theorem dX9_fault_0 : decode cX9_fault 0 = .ok (.aload_n 0, 1) := by decide +kernel
theorem dX9_fault_1 : decode cX9_fault 1 = .ok (.invokevirtual 101, 3) := by decide +kernel
theorem dX9_fault_4 : decode cX9_fault 4 = .ok (.ireturn, 1) := by decide +kernel
theorem dX9_lays_0 : decode cX9_lays 0 = .ok (.iconst 0, 1) := by decide +kernel
theorem dX9_lays_1 : decode cX9_lays 1 = .ok (.istore_n 1, 1) := by decide +kernel
theorem dX9_lays_2 : decode cX9_lays 2 = .ok (.iload_n 1, 1) := by decide +kernel
theorem dX9_lays_3 : decode cX9_lays 3 = .ok (.bipush 37, 2) := by decide +kernel
theorem dX9_lays_5 : decode cX9_lays 5 = .ok (.if_icmp .ge 21, 3) := by decide +kernel
theorem dX9_lays_8 : decode cX9_lays 8 = .ok (.aload_n 0, 1) := by decide +kernel
theorem dX9_lays_9 : decode cX9_lays 9 = .ok (.getfield 13, 3) := by decide +kernel
theorem dX9_lays_12 : decode cX9_lays 12 = .ok (.iload_n 1, 1) := by decide +kernel
theorem dX9_lays_13 : decode cX9_lays 13 = .ok (.aload_n 0, 1) := by decide +kernel
theorem dX9_lays_14 : decode cX9_lays 14 = .ok (.getfield 16, 3) := by decide +kernel
theorem dX9_lays_17 : decode cX9_lays 17 = .ok (.iload_n 1, 1) := by decide +kernel
theorem dX9_lays_18 : decode cX9_lays 18 = .ok (.iaload, 1) := by decide +kernel
theorem dX9_lays_19 : decode cX9_lays 19 = .ok (.iastore, 1) := by decide +kernel
theorem dX9_lays_20 : decode cX9_lays 20 = .ok (.iinc 1 1, 3) := by decide +kernel
theorem dX9_lays_23 : decode cX9_lays 23 = .ok (.goto (-21), 3) := by decide +kernel
theorem dX9_lays_26 : decode cX9_lays 26 = .ok (.iconst 0, 1) := by decide +kernel
theorem dX9_lays_27 : decode cX9_lays 27 = .ok (.istore_n 1, 1) := by decide +kernel
theorem dX9_lays_28 : decode cX9_lays 28 = .ok (.iload_n 1, 1) := by decide +kernel
theorem dX9_lays_29 : decode cX9_lays 29 = .ok (.bipush 15, 2) := by decide +kernel
theorem dX9_lays_31 : decode cX9_lays 31 = .ok (.if_icmp .ge 65, 3) := by decide +kernel
theorem dX9_lays_34 : decode cX9_lays 34 = .ok (.aload_n 0, 1) := by decide +kernel
theorem dX9_lays_35 : decode cX9_lays 35 = .ok (.getfield 19, 3) := by decide +kernel
theorem dX9_lays_38 : decode cX9_lays 38 = .ok (.iload_n 1, 1) := by decide +kernel
theorem dX9_lays_39 : decode cX9_lays 39 = .ok (.iload_n 1, 1) := by decide +kernel
theorem dX9_lays_40 : decode cX9_lays 40 = .ok (.bipush 6, 2) := by decide +kernel
theorem dX9_lays_42 : decode cX9_lays 42 = .ok (.if_icmp .ge 14, 3) := by decide +kernel
theorem dX9_lays_45 : decode cX9_lays 45 = .ok (.aload_n 0, 1) := by decide +kernel
theorem dX9_lays_46 : decode cX9_lays 46 = .ok (.getfield 13, 3) := by decide +kernel
theorem dX9_lays_49 : decode cX9_lays 49 = .ok (.iconst 3, 1) := by decide +kernel
theorem dX9_lays_50 : decode cX9_lays 50 = .ok (.iload_n 1, 1) := by decide +kernel
theorem dX9_lays_51 : decode cX9_lays 51 = .ok (.iadd, 1) := by decide +kernel
theorem dX9_lays_52 : decode cX9_lays 52 = .ok (.iaload, 1) := by decide +kernel
theorem dX9_lays_53 : decode cX9_lays 53 = .ok (.goto 36, 3) := by decide +kernel
theorem dX9_lays_56 : decode cX9_lays 56 = .ok (.iload_n 1, 1) := by decide +kernel
theorem dX9_lays_57 : decode cX9_lays 57 = .ok (.bipush 14, 2) := by decide +kernel
theorem dX9_lays_59 : decode cX9_lays 59 = .ok (.if_icmp .ge 29, 3) := by decide +kernel
theorem dX9_lays_62 : decode cX9_lays 62 = .ok (.aload_n 0, 1) := by decide +kernel
theorem dX9_lays_63 : decode cX9_lays 63 = .ok (.getfield 13, 3) := by decide +kernel
theorem dX9_lays_66 : decode cX9_lays 66 = .ok (.bipush 29, 2) := by decide +kernel
theorem dX9_lays_68 : decode cX9_lays 68 = .ok (.iload_n 1, 1) := by decide +kernel
theorem dX9_lays_69 : decode cX9_lays 69 = .ok (.iadd, 1) := by decide +kernel
theorem dX9_lays_70 : decode cX9_lays 70 = .ok (.bipush 6, 2) := by decide +kernel
theorem dX9_lays_72 : decode cX9_lays 72 = .ok (.isub, 1) := by decide +kernel
theorem dX9_lays_73 : decode cX9_lays 73 = .ok (.iaload, 1) := by decide +kernel
theorem dX9_lays_74 : decode cX9_lays 74 = .ok (.iconst 1, 1) := by decide +kernel
theorem dX9_lays_75 : decode cX9_lays 75 = .ok (.aload_n 0, 1) := by decide +kernel
theorem dX9_lays_76 : decode cX9_lays 76 = .ok (.getfield 13, 3) := by decide +kernel
theorem dX9_lays_79 : decode cX9_lays 79 = .ok (.iconst 0, 1) := by decide +kernel
theorem dX9_lays_80 : decode cX9_lays 80 = .ok (.iaload, 1) := by decide +kernel
theorem dX9_lays_81 : decode cX9_lays 81 = .ok (.ishl, 1) := by decide +kernel
theorem dX9_lays_82 : decode cX9_lays 82 = .ok (.iconst 1, 1) := by decide +kernel
theorem dX9_lays_83 : decode cX9_lays 83 = .ok (.isub, 1) := by decide +kernel
theorem dX9_lays_84 : decode cX9_lays 84 = .ok (.iand, 1) := by decide +kernel
theorem dX9_lays_85 : decode cX9_lays 85 = .ok (.goto 4, 3) := by decide +kernel
theorem dX9_lays_88 : decode cX9_lays 88 = .ok (.iconst 0, 1) := by decide +kernel
theorem dX9_lays_89 : decode cX9_lays 89 = .ok (.iastore, 1) := by decide +kernel
theorem dX9_lays_90 : decode cX9_lays 90 = .ok (.iinc 1 1, 3) := by decide +kernel
theorem dX9_lays_93 : decode cX9_lays 93 = .ok (.goto (-65), 3) := by decide +kernel
theorem dX9_lays_96 : decode cX9_lays 96 = .ok (.aload_n 0, 1) := by decide +kernel
theorem dX9_lays_97 : decode cX9_lays 97 = .ok (.iconst 0, 1) := by decide +kernel
theorem dX9_lays_98 : decode cX9_lays 98 = .ok (.putfield 104, 3) := by decide +kernel
theorem dX9_lays_101 : decode cX9_lays 101 = .ok (.aload_n 0, 1) := by decide +kernel
theorem dX9_lays_102 : decode cX9_lays 102 = .ok (.iconst 0, 1) := by decide +kernel
theorem dX9_lays_103 : decode cX9_lays 103 = .ok (.putfield 107, 3) := by decide +kernel
theorem dX9_lays_106 : decode cX9_lays 106 = .ok (.aload_n 0, 1) := by decide +kernel
theorem dX9_lays_107 : decode cX9_lays 107 = .ok (.iconst 0, 1) := by decide +kernel
theorem dX9_lays_108 : decode cX9_lays 108 = .ok (.putfield 110, 3) := by decide +kernel
theorem dX9_lays_111 : decode cX9_lays 111 = .ok (.aload_n 0, 1) := by decide +kernel
theorem dX9_lays_112 : decode cX9_lays 112 = .ok (.iconst 0, 1) := by decide +kernel
theorem dX9_lays_113 : decode cX9_lays 113 = .ok (.putfield 113, 3) := by decide +kernel
theorem dX9_lays_116 : decode cX9_lays 116 = .ok (.return_, 1) := by decide +kernel
set_option maxRecDepth 20000 in
theorem ggX9_lay_X9_reads : GoodIn wsX9_lay wsX9_reads := goodIn_r _ [7, 8, 9, 10, 11, 12, 13, 6, 14, 1, 15, 16, 17, 18, 19, 20, 21, 22, 23, 24, 25, 26, 27, 28, 29, 30, 31, 32, 33, 34, 35, 36, 37, 38, 39, 40, 41, 42, 43, 44, 45, 46, 47, 48, 49, 50, 51, 52, 53, 54, 64, 65, 66, 67, 68, 69, 70, 71, 72, 73, 74, 75, 76, 77, 78, 79, 80, 81, 82, 83] (by decide +kernel) (by decide +kernel)
set_option maxRecDepth 20000 in
theorem gX9_lay_X9_reads : GoodIn wsX9_lay (wsV RX9 101 RX9 yX9_reads wsX9_reads) := goodIn_app (goodIn_of _ (by decide +kernel)) ggX9_lay_X9_reads
set_option maxRecDepth 20000 in
theorem ggX9_lay_X9_lays : GoodIn wsX9_lay wsX9_lays := goodIn_r _ [58, 2, 1, 59, 60, 61, 62, 63, 64, 65, 66, 67, 68, 69, 70, 71, 72, 73, 74, 75, 76, 77, 78, 79, 80, 81, 82, 83] (by decide +kernel) (by decide +kernel)
set_option maxRecDepth 20000 in
theorem gX9_lay_X9_lays : GoodIn wsX9_lay (wsV RX9 59 RX9 yX9_lays wsX9_lays) := goodIn_app (goodIn_of _ (by decide +kernel)) ggX9_lay_X9_lays
theorem dX9_lay_0 : decode cX9_lay 0 = .ok (.aload_n 0, 1) := by decide +kernel
theorem dX9_lay_1 : decode cX9_lay 1 = .ok (.invokevirtual 101, 3) := by decide +kernel
theorem dX9_lay_4 : decode cX9_lay 4 = .ok (.bipush (-4), 2) := by decide +kernel
theorem dX9_lay_6 : decode cX9_lay 6 = .ok (.if_icmp .ne 16, 3) := by decide +kernel
theorem dX9_lay_9 : decode cX9_lay 9 = .ok (.aload_n 0, 1) := by decide +kernel
theorem dX9_lay_10 : decode cX9_lay 10 = .ok (.getfield 16, 3) := by decide +kernel
theorem dX9_lay_13 : decode cX9_lay 13 = .ok (.iconst 0, 1) := by decide +kernel
theorem dX9_lay_14 : decode cX9_lay 14 = .ok (.iaload, 1) := by decide +kernel
theorem dX9_lay_15 : decode cX9_lay 15 = .ok (.ifCond .le 7, 3) := by decide +kernel
theorem dX9_lay_18 : decode cX9_lay 18 = .ok (.iconst 1, 1) := by decide +kernel
theorem dX9_lay_19 : decode cX9_lay 19 = .ok (.goto 4, 3) := by decide +kernel
theorem dX9_lay_22 : decode cX9_lay 22 = .ok (.iconst 0, 1) := by decide +kernel
theorem dX9_lay_23 : decode cX9_lay 23 = .ok (.istore_n 1, 1) := by decide +kernel
theorem dX9_lay_24 : decode cX9_lay 24 = .ok (.iconst 0, 1) := by decide +kernel
theorem dX9_lay_25 : decode cX9_lay 25 = .ok (.istore_n 2, 1) := by decide +kernel
theorem dX9_lay_26 : decode cX9_lay 26 = .ok (.iload_n 2, 1) := by decide +kernel
theorem dX9_lay_27 : decode cX9_lay 27 = .ok (.aload_n 0, 1) := by decide +kernel
theorem dX9_lay_28 : decode cX9_lay 28 = .ok (.getfield 16, 3) := by decide +kernel
theorem dX9_lay_31 : decode cX9_lay 31 = .ok (.iconst 0, 1) := by decide +kernel
theorem dX9_lay_32 : decode cX9_lay 32 = .ok (.iaload, 1) := by decide +kernel
theorem dX9_lay_33 : decode cX9_lay 33 = .ok (.if_icmp .ge 36, 3) := by decide +kernel
theorem dX9_lay_36 : decode cX9_lay 36 = .ok (.iload_n 1, 1) := by decide +kernel
theorem dX9_lay_37 : decode cX9_lay 37 = .ok (.ifCond .eq 32, 3) := by decide +kernel
theorem dX9_lay_40 : decode cX9_lay 40 = .ok (.aload_n 0, 1) := by decide +kernel
theorem dX9_lay_41 : decode cX9_lay 41 = .ok (.getfield 16, 3) := by decide +kernel
theorem dX9_lay_44 : decode cX9_lay 44 = .ok (.iconst 3, 1) := by decide +kernel
theorem dX9_lay_45 : decode cX9_lay 45 = .ok (.iload_n 2, 1) := by decide +kernel
theorem dX9_lay_46 : decode cX9_lay 46 = .ok (.iadd, 1) := by decide +kernel
theorem dX9_lay_47 : decode cX9_lay 47 = .ok (.iaload, 1) := by decide +kernel
theorem dX9_lay_48 : decode cX9_lay 48 = .ok (.aload_n 0, 1) := by decide +kernel
theorem dX9_lay_49 : decode cX9_lay 49 = .ok (.getfield 16, 3) := by decide +kernel
theorem dX9_lay_52 : decode cX9_lay 52 = .ok (.iconst 2, 1) := by decide +kernel
theorem dX9_lay_53 : decode cX9_lay 53 = .ok (.iaload, 1) := by decide +kernel
theorem dX9_lay_54 : decode cX9_lay 54 = .ok (.if_icmp .ge 7, 3) := by decide +kernel
theorem dX9_lay_57 : decode cX9_lay 57 = .ok (.iconst 1, 1) := by decide +kernel
theorem dX9_lay_58 : decode cX9_lay 58 = .ok (.goto 4, 3) := by decide +kernel
theorem dX9_lay_61 : decode cX9_lay 61 = .ok (.iconst 0, 1) := by decide +kernel
theorem dX9_lay_62 : decode cX9_lay 62 = .ok (.istore_n 1, 1) := by decide +kernel
theorem dX9_lay_63 : decode cX9_lay 63 = .ok (.iinc 2 1, 3) := by decide +kernel
theorem dX9_lay_66 : decode cX9_lay 66 = .ok (.goto (-40), 3) := by decide +kernel
theorem dX9_lay_69 : decode cX9_lay 69 = .ok (.iload_n 1, 1) := by decide +kernel
theorem dX9_lay_70 : decode cX9_lay 70 = .ok (.ifCond .ne 6, 3) := by decide +kernel
theorem dX9_lay_73 : decode cX9_lay 73 = .ok (.bipush (-2), 2) := by decide +kernel
theorem dX9_lay_75 : decode cX9_lay 75 = .ok (.ireturn, 1) := by decide +kernel
theorem dX9_lay_76 : decode cX9_lay 76 = .ok (.aload_n 0, 1) := by decide +kernel
theorem dX9_lay_77 : decode cX9_lay 77 = .ok (.invokevirtual 59, 3) := by decide +kernel
theorem dX9_lay_80 : decode cX9_lay 80 = .ok (.aload_n 0, 1) := by decide +kernel
theorem dX9_lay_81 : decode cX9_lay 81 = .ok (.getfield 13, 3) := by decide +kernel
theorem dX9_lay_84 : decode cX9_lay 84 = .ok (.iconst 0, 1) := by decide +kernel
theorem dX9_lay_85 : decode cX9_lay 85 = .ok (.iaload, 1) := by decide +kernel
theorem dX9_lay_86 : decode cX9_lay 86 = .ok (.ireturn, 1) := by decide +kernel
theorem dX9_isAlive_0 : decode cX9_isAlive 0 = .ok (.aload_n 0, 1) := by decide +kernel
theorem dX9_isAlive_1 : decode cX9_isAlive 1 = .ok (.getfield 19, 3) := by decide +kernel
theorem dX9_isAlive_4 : decode cX9_isAlive 4 = .ok (.iload_n 1, 1) := by decide +kernel
theorem dX9_isAlive_5 : decode cX9_isAlive 5 = .ok (.iaload, 1) := by decide +kernel
theorem dX9_isAlive_6 : decode cX9_isAlive 6 = .ok (.aload_n 0, 1) := by decide +kernel
theorem dX9_isAlive_7 : decode cX9_isAlive 7 = .ok (.getfield 13, 3) := by decide +kernel
theorem dX9_isAlive_10 : decode cX9_isAlive 10 = .ok (.iconst 2, 1) := by decide +kernel
theorem dX9_isAlive_11 : decode cX9_isAlive 11 = .ok (.iaload, 1) := by decide +kernel
theorem dX9_isAlive_12 : decode cX9_isAlive 12 = .ok (.if_icmp .ge 7, 3) := by decide +kernel
theorem dX9_isAlive_15 : decode cX9_isAlive 15 = .ok (.iconst 1, 1) := by decide +kernel
theorem dX9_isAlive_16 : decode cX9_isAlive 16 = .ok (.goto 4, 3) := by decide +kernel
theorem dX9_isAlive_19 : decode cX9_isAlive 19 = .ok (.iconst 0, 1) := by decide +kernel
theorem dX9_isAlive_20 : decode cX9_isAlive 20 = .ok (.ireturn, 1) := by decide +kernel
set_option maxRecDepth 20000 in
theorem ggX9_alive_X9_isAlive : GoodIn wsX9_alive wsX9_isAlive := goodIn_r _ [6, 7, 1, 8, 9, 10, 11, 12, 13, 14, 15, 16, 17, 18, 19, 20, 21, 22, 23, 24, 25, 26, 27] (by decide +kernel) (by decide +kernel)
set_option maxRecDepth 20000 in
theorem gX9_alive_X9_isAlive : GoodIn wsX9_alive (wsV RX9 116 RX9 yX9_isAlive wsX9_isAlive) := goodIn_app (goodIn_of _ (by decide +kernel)) ggX9_alive_X9_isAlive
theorem dX9_alive_0 : decode cX9_alive 0 = .ok (.iconst 0, 1) := by decide +kernel
theorem dX9_alive_1 : decode cX9_alive 1 = .ok (.istore_n 1, 1) := by decide +kernel
theorem dX9_alive_2 : decode cX9_alive 2 = .ok (.iconst 0, 1) := by decide +kernel
theorem dX9_alive_3 : decode cX9_alive 3 = .ok (.istore_n 2, 1) := by decide +kernel
theorem dX9_alive_4 : decode cX9_alive 4 = .ok (.iload_n 2, 1) := by decide +kernel
theorem dX9_alive_5 : decode cX9_alive 5 = .ok (.aload_n 0, 1) := by decide +kernel
theorem dX9_alive_6 : decode cX9_alive 6 = .ok (.getfield 13, 3) := by decide +kernel
theorem dX9_alive_9 : decode cX9_alive 9 = .ok (.iconst 0, 1) := by decide +kernel
theorem dX9_alive_10 : decode cX9_alive 10 = .ok (.iaload, 1) := by decide +kernel
theorem dX9_alive_11 : decode cX9_alive 11 = .ok (.if_icmp .ge 27, 3) := by decide +kernel
theorem dX9_alive_14 : decode cX9_alive 14 = .ok (.iload_n 1, 1) := by decide +kernel
theorem dX9_alive_15 : decode cX9_alive 15 = .ok (.aload_n 0, 1) := by decide +kernel
theorem dX9_alive_16 : decode cX9_alive 16 = .ok (.iload_n 2, 1) := by decide +kernel
theorem dX9_alive_17 : decode cX9_alive 17 = .ok (.invokevirtual 116, 3) := by decide +kernel
theorem dX9_alive_20 : decode cX9_alive 20 = .ok (.ifCond .eq 9, 3) := by decide +kernel
theorem dX9_alive_23 : decode cX9_alive 23 = .ok (.iconst 1, 1) := by decide +kernel
theorem dX9_alive_24 : decode cX9_alive 24 = .ok (.iload_n 2, 1) := by decide +kernel
theorem dX9_alive_25 : decode cX9_alive 25 = .ok (.ishl, 1) := by decide +kernel
theorem dX9_alive_26 : decode cX9_alive 26 = .ok (.goto 4, 3) := by decide +kernel
theorem dX9_alive_29 : decode cX9_alive 29 = .ok (.iconst 0, 1) := by decide +kernel
theorem dX9_alive_30 : decode cX9_alive 30 = .ok (.ior, 1) := by decide +kernel
theorem dX9_alive_31 : decode cX9_alive 31 = .ok (.istore_n 1, 1) := by decide +kernel
theorem dX9_alive_32 : decode cX9_alive 32 = .ok (.iinc 2 1, 3) := by decide +kernel
theorem dX9_alive_35 : decode cX9_alive 35 = .ok (.goto (-31), 3) := by decide +kernel
theorem dX9_alive_38 : decode cX9_alive 38 = .ok (.iload_n 1, 1) := by decide +kernel
theorem dX9_alive_39 : decode cX9_alive 39 = .ok (.ireturn, 1) := by decide +kernel
set_option maxRecDepth 20000 in
theorem ggX9_met_X9_isAlive : GoodIn wsX9_met wsX9_isAlive := goodIn_r _ [6, 7, 1, 12, 13, 14, 15, 16, 17, 18, 19, 20, 21, 22, 23, 24, 25, 26, 27, 28, 29, 30, 31] (by decide +kernel) (by decide +kernel)
set_option maxRecDepth 20000 in
theorem gX9_met_X9_isAlive : GoodIn wsX9_met (wsV RX9 116 RX9 yX9_isAlive wsX9_isAlive) := goodIn_app (goodIn_of _ (by decide +kernel)) ggX9_met_X9_isAlive
set_option maxRecDepth 20000 in
theorem ggX9_met_X9_alive : GoodIn wsX9_met wsX9_alive := goodIn_r _ [11, 1, 2, 3, 4, 5, 6, 7, 12, 13, 14, 15, 16, 17, 18, 19, 20, 21, 22, 23, 24, 25, 26, 27, 28, 29, 30, 31] (by decide +kernel) (by decide +kernel)
set_option maxRecDepth 20000 in
theorem gX9_met_X9_alive : GoodIn wsX9_met (wsV RX9 119 RX9 yX9_alive wsX9_alive) := goodIn_app (goodIn_of _ (by decide +kernel)) ggX9_met_X9_alive
theorem dX9_met_0 : decode cX9_met 0 = .ok (.aload_n 0, 1) := by decide +kernel
theorem dX9_met_1 : decode cX9_met 1 = .ok (.iload_n 1, 1) := by decide +kernel
theorem dX9_met_2 : decode cX9_met 2 = .ok (.invokevirtual 116, 3) := by decide +kernel
theorem dX9_met_5 : decode cX9_met 5 = .ok (.ifCond .eq 20, 3) := by decide +kernel
theorem dX9_met_8 : decode cX9_met 8 = .ok (.aload_n 0, 1) := by decide +kernel
theorem dX9_met_9 : decode cX9_met 9 = .ok (.getfield 13, 3) := by decide +kernel
theorem dX9_met_12 : decode cX9_met 12 = .ok (.bipush 15, 2) := by decide +kernel
theorem dX9_met_14 : decode cX9_met 14 = .ok (.iload_n 1, 1) := by decide +kernel
theorem dX9_met_15 : decode cX9_met 15 = .ok (.iadd, 1) := by decide +kernel
theorem dX9_met_16 : decode cX9_met 16 = .ok (.iaload, 1) := by decide +kernel
theorem dX9_met_17 : decode cX9_met 17 = .ok (.aload_n 0, 1) := by decide +kernel
theorem dX9_met_18 : decode cX9_met 18 = .ok (.invokevirtual 119, 3) := by decide +kernel
theorem dX9_met_21 : decode cX9_met 21 = .ok (.iand, 1) := by decide +kernel
theorem dX9_met_22 : decode cX9_met 22 = .ok (.goto 4, 3) := by decide +kernel
theorem dX9_met_25 : decode cX9_met 25 = .ok (.iconst 0, 1) := by decide +kernel
theorem dX9_met_26 : decode cX9_met 26 = .ok (.ireturn, 1) := by decide +kernel
theorem dX9_knows_0 : decode cX9_knows 0 = .ok (.aload_n 0, 1) := by decide +kernel
theorem dX9_knows_1 : decode cX9_knows 1 = .ok (.getfield 19, 3) := by decide +kernel
theorem dX9_knows_4 : decode cX9_knows 4 = .ok (.bipush 6, 2) := by decide +kernel
theorem dX9_knows_6 : decode cX9_knows 6 = .ok (.iload_n 2, 1) := by decide +kernel
theorem dX9_knows_7 : decode cX9_knows 7 = .ok (.iadd, 1) := by decide +kernel
theorem dX9_knows_8 : decode cX9_knows 8 = .ok (.iaload, 1) := by decide +kernel
theorem dX9_knows_9 : decode cX9_knows 9 = .ok (.iload_n 1, 1) := by decide +kernel
theorem dX9_knows_10 : decode cX9_knows 10 = .ok (.ishr, 1) := by decide +kernel
theorem dX9_knows_11 : decode cX9_knows 11 = .ok (.iconst 1, 1) := by decide +kernel
theorem dX9_knows_12 : decode cX9_knows 12 = .ok (.iand, 1) := by decide +kernel
theorem dX9_knows_13 : decode cX9_knows 13 = .ok (.iconst 1, 1) := by decide +kernel
theorem dX9_knows_14 : decode cX9_knows 14 = .ok (.if_icmp .ne 7, 3) := by decide +kernel
theorem dX9_knows_17 : decode cX9_knows 17 = .ok (.iconst 1, 1) := by decide +kernel
theorem dX9_knows_18 : decode cX9_knows 18 = .ok (.goto 4, 3) := by decide +kernel
theorem dX9_knows_21 : decode cX9_knows 21 = .ok (.iconst 0, 1) := by decide +kernel
theorem dX9_knows_22 : decode cX9_knows 22 = .ok (.ireturn, 1) := by decide +kernel
set_option maxRecDepth 20000 in
theorem ggX9_knownBy_X9_knows : GoodIn wsX9_knownBy wsX9_knows := goodIn_r _ [6, 7, 8, 9, 10, 11, 12, 13, 14, 15, 16, 17, 18, 19, 20, 21, 22, 23, 24, 25, 26, 27] (by decide +kernel) (by decide +kernel)
set_option maxRecDepth 20000 in
theorem gX9_knownBy_X9_knows : GoodIn wsX9_knownBy (wsV RX9 122 RX9 yX9_knows wsX9_knows) := goodIn_app (goodIn_of _ (by decide +kernel)) ggX9_knownBy_X9_knows
theorem dX9_knownBy_0 : decode cX9_knownBy 0 = .ok (.iconst 0, 1) := by decide +kernel
theorem dX9_knownBy_1 : decode cX9_knownBy 1 = .ok (.istore_n 2, 1) := by decide +kernel
theorem dX9_knownBy_2 : decode cX9_knownBy 2 = .ok (.iconst 0, 1) := by decide +kernel
theorem dX9_knownBy_3 : decode cX9_knownBy 3 = .ok (.istore_n 3, 1) := by decide +kernel
theorem dX9_knownBy_4 : decode cX9_knownBy 4 = .ok (.iload_n 3, 1) := by decide +kernel
theorem dX9_knownBy_5 : decode cX9_knownBy 5 = .ok (.aload_n 0, 1) := by decide +kernel
theorem dX9_knownBy_6 : decode cX9_knownBy 6 = .ok (.getfield 13, 3) := by decide +kernel
theorem dX9_knownBy_9 : decode cX9_knownBy 9 = .ok (.iconst 1, 1) := by decide +kernel
theorem dX9_knownBy_10 : decode cX9_knownBy 10 = .ok (.iaload, 1) := by decide +kernel
theorem dX9_knownBy_11 : decode cX9_knownBy 11 = .ok (.if_icmp .ge 28, 3) := by decide +kernel
theorem dX9_knownBy_14 : decode cX9_knownBy 14 = .ok (.iload_n 2, 1) := by decide +kernel
theorem dX9_knownBy_15 : decode cX9_knownBy 15 = .ok (.aload_n 0, 1) := by decide +kernel
theorem dX9_knownBy_16 : decode cX9_knownBy 16 = .ok (.iload_n 1, 1) := by decide +kernel
theorem dX9_knownBy_17 : decode cX9_knownBy 17 = .ok (.iload_n 3, 1) := by decide +kernel
theorem dX9_knownBy_18 : decode cX9_knownBy 18 = .ok (.invokevirtual 122, 3) := by decide +kernel
theorem dX9_knownBy_21 : decode cX9_knownBy 21 = .ok (.ifCond .eq 9, 3) := by decide +kernel
theorem dX9_knownBy_24 : decode cX9_knownBy 24 = .ok (.iconst 1, 1) := by decide +kernel
theorem dX9_knownBy_25 : decode cX9_knownBy 25 = .ok (.iload_n 3, 1) := by decide +kernel
theorem dX9_knownBy_26 : decode cX9_knownBy 26 = .ok (.ishl, 1) := by decide +kernel
theorem dX9_knownBy_27 : decode cX9_knownBy 27 = .ok (.goto 4, 3) := by decide +kernel
theorem dX9_knownBy_30 : decode cX9_knownBy 30 = .ok (.iconst 0, 1) := by decide +kernel
theorem dX9_knownBy_31 : decode cX9_knownBy 31 = .ok (.ior, 1) := by decide +kernel
theorem dX9_knownBy_32 : decode cX9_knownBy 32 = .ok (.istore_n 2, 1) := by decide +kernel
theorem dX9_knownBy_33 : decode cX9_knownBy 33 = .ok (.iinc 3 1, 3) := by decide +kernel
theorem dX9_knownBy_36 : decode cX9_knownBy 36 = .ok (.goto (-32), 3) := by decide +kernel
theorem dX9_knownBy_39 : decode cX9_knownBy 39 = .ok (.iload_n 2, 1) := by decide +kernel
theorem dX9_knownBy_40 : decode cX9_knownBy 40 = .ok (.ireturn, 1) := by decide +kernel
theorem dX9_ownOf_0 : decode cX9_ownOf 0 = .ok (.iconst 0, 1) := by decide +kernel
theorem dX9_ownOf_1 : decode cX9_ownOf 1 = .ok (.istore_n 2, 1) := by decide +kernel
theorem dX9_ownOf_2 : decode cX9_ownOf 2 = .ok (.iconst 0, 1) := by decide +kernel
theorem dX9_ownOf_3 : decode cX9_ownOf 3 = .ok (.istore_n 3, 1) := by decide +kernel
theorem dX9_ownOf_4 : decode cX9_ownOf 4 = .ok (.iload_n 3, 1) := by decide +kernel
theorem dX9_ownOf_5 : decode cX9_ownOf 5 = .ok (.aload_n 0, 1) := by decide +kernel
theorem dX9_ownOf_6 : decode cX9_ownOf 6 = .ok (.getfield 13, 3) := by decide +kernel
theorem dX9_ownOf_9 : decode cX9_ownOf 9 = .ok (.iconst 1, 1) := by decide +kernel
theorem dX9_ownOf_10 : decode cX9_ownOf 10 = .ok (.iaload, 1) := by decide +kernel
theorem dX9_ownOf_11 : decode cX9_ownOf 11 = .ok (.if_icmp .ge 32, 3) := by decide +kernel
theorem dX9_ownOf_14 : decode cX9_ownOf 14 = .ok (.iload_n 2, 1) := by decide +kernel
theorem dX9_ownOf_15 : decode cX9_ownOf 15 = .ok (.aload_n 0, 1) := by decide +kernel
theorem dX9_ownOf_16 : decode cX9_ownOf 16 = .ok (.getfield 13, 3) := by decide +kernel
theorem dX9_ownOf_19 : decode cX9_ownOf 19 = .ok (.bipush 21, 2) := by decide +kernel
theorem dX9_ownOf_21 : decode cX9_ownOf 21 = .ok (.iload_n 3, 1) := by decide +kernel
theorem dX9_ownOf_22 : decode cX9_ownOf 22 = .ok (.iadd, 1) := by decide +kernel
theorem dX9_ownOf_23 : decode cX9_ownOf 23 = .ok (.iaload, 1) := by decide +kernel
theorem dX9_ownOf_24 : decode cX9_ownOf 24 = .ok (.iload_n 1, 1) := by decide +kernel
theorem dX9_ownOf_25 : decode cX9_ownOf 25 = .ok (.if_icmp .ne 9, 3) := by decide +kernel
theorem dX9_ownOf_28 : decode cX9_ownOf 28 = .ok (.iconst 1, 1) := by decide +kernel
theorem dX9_ownOf_29 : decode cX9_ownOf 29 = .ok (.iload_n 3, 1) := by decide +kernel
theorem dX9_ownOf_30 : decode cX9_ownOf 30 = .ok (.ishl, 1) := by decide +kernel
theorem dX9_ownOf_31 : decode cX9_ownOf 31 = .ok (.goto 4, 3) := by decide +kernel
theorem dX9_ownOf_34 : decode cX9_ownOf 34 = .ok (.iconst 0, 1) := by decide +kernel
theorem dX9_ownOf_35 : decode cX9_ownOf 35 = .ok (.ior, 1) := by decide +kernel
theorem dX9_ownOf_36 : decode cX9_ownOf 36 = .ok (.istore_n 2, 1) := by decide +kernel
theorem dX9_ownOf_37 : decode cX9_ownOf 37 = .ok (.iinc 3 1, 3) := by decide +kernel
theorem dX9_ownOf_40 : decode cX9_ownOf 40 = .ok (.goto (-36), 3) := by decide +kernel
theorem dX9_ownOf_43 : decode cX9_ownOf 43 = .ok (.iload_n 2, 1) := by decide +kernel
theorem dX9_ownOf_44 : decode cX9_ownOf 44 = .ok (.ireturn, 1) := by decide +kernel
set_option maxRecDepth 20000 in
theorem ggX9_person_X9_isPerson : GoodIn wsX9_person wsX9_isPerson := goodIn_r _ [7, 2, 8, 9, 6, 10, 35, 36, 37, 38, 39, 40, 41, 42, 43, 44, 45, 46, 47, 48, 49, 50, 51, 52, 53, 54] (by decide +kernel) (by decide +kernel)
set_option maxRecDepth 20000 in
theorem gX9_person_X9_isPerson : GoodIn wsX9_person (wsV RX9 126 RX9 yX9_isPerson wsX9_isPerson) := goodIn_app (goodIn_of _ (by decide +kernel)) ggX9_person_X9_isPerson
set_option maxRecDepth 20000 in
theorem ggX9_person_X9_met : GoodIn wsX9_person wsX9_met := goodIn_r _ [14, 2, 15, 16, 17, 6, 18, 1, 19, 20, 21, 22, 35, 36, 37, 38, 39, 40, 41, 42, 43, 44, 45, 46, 47, 48, 49, 50, 51, 52, 53, 54] (by decide +kernel) (by decide +kernel)
set_option maxRecDepth 20000 in
theorem gX9_person_X9_met : GoodIn wsX9_person (wsV RX9 129 RX9 yX9_met wsX9_met) := goodIn_app (goodIn_of _ (by decide +kernel)) ggX9_person_X9_met
set_option maxRecDepth 20000 in
theorem ggX9_person_X9_knownBy : GoodIn wsX9_person wsX9_knownBy := goodIn_r _ [26, 2, 27, 28, 29, 6, 30, 1, 35, 36, 37, 38, 39, 40, 41, 42, 43, 44, 45, 46, 47, 48, 49, 50, 51, 52, 53, 54] (by decide +kernel) (by decide +kernel)
set_option maxRecDepth 20000 in
theorem gX9_person_X9_knownBy : GoodIn wsX9_person (wsV RX9 132 RX9 yX9_knownBy wsX9_knownBy) := goodIn_app (goodIn_of _ (by decide +kernel)) ggX9_person_X9_knownBy
set_option maxRecDepth 20000 in
theorem ggX9_person_X9_ownOf : GoodIn wsX9_person wsX9_ownOf := goodIn_r _ [34, 2, 35, 36, 37, 38, 39, 40, 41, 42, 43, 44, 45, 46, 47, 48, 49, 50, 51, 52, 53, 54] (by decide +kernel) (by decide +kernel)
set_option maxRecDepth 20000 in
theorem gX9_person_X9_ownOf : GoodIn wsX9_person (wsV RX9 135 RX9 yX9_ownOf wsX9_ownOf) := goodIn_app (goodIn_of _ (by decide +kernel)) ggX9_person_X9_ownOf
set_option maxRecDepth 20000 in
theorem ggX9_person_X9_isAlive : GoodIn wsX9_person wsX9_isAlive := goodIn_r _ [18, 1, 2, 35, 36, 37, 38, 39, 40, 41, 42, 43, 44, 45, 46, 47, 48, 49, 50, 51, 52, 53, 54] (by decide +kernel) (by decide +kernel)
set_option maxRecDepth 20000 in
theorem gX9_person_X9_isAlive : GoodIn wsX9_person (wsV RX9 116 RX9 yX9_isAlive wsX9_isAlive) := goodIn_app (goodIn_of _ (by decide +kernel)) ggX9_person_X9_isAlive
theorem dX9_person_0 : decode cX9_person 0 = .ok (.aload_n 0, 1) := by decide +kernel
theorem dX9_person_1 : decode cX9_person 1 = .ok (.iload_n 1, 1) := by decide +kernel
theorem dX9_person_2 : decode cX9_person 2 = .ok (.invokevirtual 126, 3) := by decide +kernel
theorem dX9_person_5 : decode cX9_person 5 = .ok (.ifCond .ne 5, 3) := by decide +kernel
theorem dX9_person_8 : decode cX9_person 8 = .ok (.iconst (-1), 1) := by decide +kernel
theorem dX9_person_9 : decode cX9_person 9 = .ok (.ireturn, 1) := by decide +kernel
theorem dX9_person_10 : decode cX9_person 10 = .ok (.iload_n 2, 1) := by decide +kernel
theorem dX9_person_11 : decode cX9_person 11 = .ok (.tableswitch 86 0 5 #[37, 44, 54, 60, 66, 72], 37) := by decide +kernel
theorem dX9_person_48 : decode cX9_person 48 = .ok (.aload_n 0, 1) := by decide +kernel
theorem dX9_person_49 : decode cX9_person 49 = .ok (.getfield 19, 3) := by decide +kernel
theorem dX9_person_52 : decode cX9_person 52 = .ok (.iload_n 1, 1) := by decide +kernel
theorem dX9_person_53 : decode cX9_person 53 = .ok (.iaload, 1) := by decide +kernel
theorem dX9_person_54 : decode cX9_person 54 = .ok (.ireturn, 1) := by decide +kernel
theorem dX9_person_55 : decode cX9_person 55 = .ok (.aload_n 0, 1) := by decide +kernel
theorem dX9_person_56 : decode cX9_person 56 = .ok (.getfield 13, 3) := by decide +kernel
theorem dX9_person_59 : decode cX9_person 59 = .ok (.bipush 9, 2) := by decide +kernel
theorem dX9_person_61 : decode cX9_person 61 = .ok (.iload_n 1, 1) := by decide +kernel
theorem dX9_person_62 : decode cX9_person 62 = .ok (.iadd, 1) := by decide +kernel
theorem dX9_person_63 : decode cX9_person 63 = .ok (.iaload, 1) := by decide +kernel
theorem dX9_person_64 : decode cX9_person 64 = .ok (.ireturn, 1) := by decide +kernel
theorem dX9_person_65 : decode cX9_person 65 = .ok (.aload_n 0, 1) := by decide +kernel
theorem dX9_person_66 : decode cX9_person 66 = .ok (.iload_n 1, 1) := by decide +kernel
theorem dX9_person_67 : decode cX9_person 67 = .ok (.invokevirtual 129, 3) := by decide +kernel
theorem dX9_person_70 : decode cX9_person 70 = .ok (.ireturn, 1) := by decide +kernel
theorem dX9_person_71 : decode cX9_person 71 = .ok (.aload_n 0, 1) := by decide +kernel
theorem dX9_person_72 : decode cX9_person 72 = .ok (.iload_n 1, 1) := by decide +kernel
theorem dX9_person_73 : decode cX9_person 73 = .ok (.invokevirtual 132, 3) := by decide +kernel
theorem dX9_person_76 : decode cX9_person 76 = .ok (.ireturn, 1) := by decide +kernel
theorem dX9_person_77 : decode cX9_person 77 = .ok (.aload_n 0, 1) := by decide +kernel
theorem dX9_person_78 : decode cX9_person 78 = .ok (.iload_n 1, 1) := by decide +kernel
theorem dX9_person_79 : decode cX9_person 79 = .ok (.invokevirtual 135, 3) := by decide +kernel
theorem dX9_person_82 : decode cX9_person 82 = .ok (.ireturn, 1) := by decide +kernel
theorem dX9_person_83 : decode cX9_person 83 = .ok (.aload_n 0, 1) := by decide +kernel
theorem dX9_person_84 : decode cX9_person 84 = .ok (.iload_n 1, 1) := by decide +kernel
theorem dX9_person_85 : decode cX9_person 85 = .ok (.invokevirtual 116, 3) := by decide +kernel
theorem dX9_person_88 : decode cX9_person 88 = .ok (.ifCond .eq 7, 3) := by decide +kernel
theorem dX9_person_91 : decode cX9_person 91 = .ok (.iconst 1, 1) := by decide +kernel
theorem dX9_person_92 : decode cX9_person 92 = .ok (.goto 4, 3) := by decide +kernel
theorem dX9_person_95 : decode cX9_person 95 = .ok (.iconst 0, 1) := by decide +kernel
theorem dX9_person_96 : decode cX9_person 96 = .ok (.ireturn, 1) := by decide +kernel
theorem dX9_person_97 : decode cX9_person 97 = .ok (.iconst (-1), 1) := by decide +kernel
theorem dX9_person_98 : decode cX9_person 98 = .ok (.ireturn, 1) := by decide +kernel
set_option maxRecDepth 20000 in
theorem ggX9_secret_X9_isSecret : GoodIn wsX9_secret wsX9_isSecret := goodIn_r _ [7, 1, 8, 9, 6, 10, 11, 12, 13, 14, 15, 16, 17, 18, 19, 20, 21, 22, 23, 24, 25, 26, 27, 28, 29, 30] (by decide +kernel) (by decide +kernel)
set_option maxRecDepth 20000 in
theorem gX9_secret_X9_isSecret : GoodIn wsX9_secret (wsV RX9 138 RX9 yX9_isSecret wsX9_isSecret) := goodIn_app (goodIn_of _ (by decide +kernel)) ggX9_secret_X9_isSecret
set_option maxRecDepth 20000 in
theorem ggX9_secret_X9_in : GoodIn wsX9_secret wsX9_in := goodIn_r _ [10] (by decide +kernel) (by decide +kernel)
set_option maxRecDepth 20000 in
theorem gX9_secret_X9_in : GoodIn wsX9_secret (va_wsS RX9 62 yX9_in wsX9_in) := goodIn_app (goodIn_of _ (by decide +kernel)) ggX9_secret_X9_in
theorem dX9_secret_0 : decode cX9_secret 0 = .ok (.aload_n 0, 1) := by decide +kernel
theorem dX9_secret_1 : decode cX9_secret 1 = .ok (.iload_n 1, 1) := by decide +kernel
theorem dX9_secret_2 : decode cX9_secret 2 = .ok (.invokevirtual 138, 3) := by decide +kernel
theorem dX9_secret_5 : decode cX9_secret 5 = .ok (.ifCond .eq 40, 3) := by decide +kernel
theorem dX9_secret_8 : decode cX9_secret 8 = .ok (.iload_n 2, 1) := by decide +kernel
theorem dX9_secret_9 : decode cX9_secret 9 = .ok (.iconst 0, 1) := by decide +kernel
theorem dX9_secret_10 : decode cX9_secret 10 = .ok (.iconst 1, 1) := by decide +kernel
theorem dX9_secret_11 : decode cX9_secret 11 = .ok (.invokestatic 62, 3) := by decide +kernel
theorem dX9_secret_14 : decode cX9_secret 14 = .ok (.ifCond .eq 31, 3) := by decide +kernel
theorem dX9_secret_17 : decode cX9_secret 17 = .ok (.iload_n 2, 1) := by decide +kernel
theorem dX9_secret_18 : decode cX9_secret 18 = .ok (.ifCond .ne 15, 3) := by decide +kernel
theorem dX9_secret_21 : decode cX9_secret 21 = .ok (.aload_n 0, 1) := by decide +kernel
theorem dX9_secret_22 : decode cX9_secret 22 = .ok (.getfield 13, 3) := by decide +kernel
theorem dX9_secret_25 : decode cX9_secret 25 = .ok (.bipush 21, 2) := by decide +kernel
theorem dX9_secret_27 : decode cX9_secret 27 = .ok (.iload_n 1, 1) := by decide +kernel
theorem dX9_secret_28 : decode cX9_secret 28 = .ok (.iadd, 1) := by decide +kernel
theorem dX9_secret_29 : decode cX9_secret 29 = .ok (.iaload, 1) := by decide +kernel
theorem dX9_secret_30 : decode cX9_secret 30 = .ok (.goto 16, 3) := by decide +kernel
theorem dX9_secret_33 : decode cX9_secret 33 = .ok (.aload_n 0, 1) := by decide +kernel
theorem dX9_secret_34 : decode cX9_secret 34 = .ok (.getfield 19, 3) := by decide +kernel
theorem dX9_secret_37 : decode cX9_secret 37 = .ok (.bipush 6, 2) := by decide +kernel
theorem dX9_secret_39 : decode cX9_secret 39 = .ok (.iload_n 1, 1) := by decide +kernel
theorem dX9_secret_40 : decode cX9_secret 40 = .ok (.iadd, 1) := by decide +kernel
theorem dX9_secret_41 : decode cX9_secret 41 = .ok (.iaload, 1) := by decide +kernel
theorem dX9_secret_42 : decode cX9_secret 42 = .ok (.goto 4, 3) := by decide +kernel
theorem dX9_secret_45 : decode cX9_secret 45 = .ok (.iconst (-1), 1) := by decide +kernel
theorem dX9_secret_46 : decode cX9_secret 46 = .ok (.ireturn, 1) := by decide +kernel
theorem dX9_care_0 : decode cX9_care 0 = .ok (.iload_n 0, 1) := by decide +kernel
theorem dX9_care_1 : decode cX9_care 1 = .ok (.iconst 1, 1) := by decide +kernel
theorem dX9_care_2 : decode cX9_care 2 = .ok (.if_icmp .ne 7, 3) := by decide +kernel
theorem dX9_care_5 : decode cX9_care 5 = .ok (.iconst 2, 1) := by decide +kernel
theorem dX9_care_6 : decode cX9_care 6 = .ok (.goto 31, 3) := by decide +kernel
theorem dX9_care_9 : decode cX9_care 9 = .ok (.iload_n 0, 1) := by decide +kernel
theorem dX9_care_10 : decode cX9_care 10 = .ok (.iconst 2, 1) := by decide +kernel
theorem dX9_care_11 : decode cX9_care 11 = .ok (.if_icmp .ne 7, 3) := by decide +kernel
theorem dX9_care_14 : decode cX9_care 14 = .ok (.iconst 0, 1) := by decide +kernel
theorem dX9_care_15 : decode cX9_care 15 = .ok (.goto 22, 3) := by decide +kernel
theorem dX9_care_18 : decode cX9_care 18 = .ok (.iload_n 0, 1) := by decide +kernel
theorem dX9_care_19 : decode cX9_care 19 = .ok (.iconst 3, 1) := by decide +kernel
theorem dX9_care_20 : decode cX9_care 20 = .ok (.if_icmp .ne 16, 3) := by decide +kernel
theorem dX9_care_23 : decode cX9_care 23 = .ok (.iload_n 1, 1) := by decide +kernel
theorem dX9_care_24 : decode cX9_care 24 = .ok (.iconst 1, 1) := by decide +kernel
theorem dX9_care_25 : decode cX9_care 25 = .ok (.if_icmp .le 7, 3) := by decide +kernel
theorem dX9_care_28 : decode cX9_care 28 = .ok (.iconst 1, 1) := by decide +kernel
theorem dX9_care_29 : decode cX9_care 29 = .ok (.goto 8, 3) := by decide +kernel
theorem dX9_care_32 : decode cX9_care 32 = .ok (.iconst 0, 1) := by decide +kernel
theorem dX9_care_33 : decode cX9_care 33 = .ok (.goto 4, 3) := by decide +kernel
theorem dX9_care_36 : decode cX9_care 36 = .ok (.iconst 1, 1) := by decide +kernel
theorem dX9_care_37 : decode cX9_care 37 = .ok (.ireturn, 1) := by decide +kernel
set_option maxRecDepth 20000 in
theorem ggX9_others_X9_ones : GoodIn wsX9_others wsX9_ones := goodIn_r _ [6] (by decide +kernel) (by decide +kernel)
set_option maxRecDepth 20000 in
theorem gX9_others_X9_ones : GoodIn wsX9_others (va_wsS RX9 141 yX9_ones wsX9_ones) := goodIn_app (goodIn_of _ (by decide +kernel)) ggX9_others_X9_ones
theorem dX9_others_0 : decode cX9_others 0 = .ok (.aload_n 0, 1) := by decide +kernel
theorem dX9_others_1 : decode cX9_others 1 = .ok (.getfield 19, 3) := by decide +kernel
theorem dX9_others_4 : decode cX9_others 4 = .ok (.bipush 6, 2) := by decide +kernel
theorem dX9_others_6 : decode cX9_others 6 = .ok (.iload_n 1, 1) := by decide +kernel
theorem dX9_others_7 : decode cX9_others 7 = .ok (.iadd, 1) := by decide +kernel
theorem dX9_others_8 : decode cX9_others 8 = .ok (.iaload, 1) := by decide +kernel
theorem dX9_others_9 : decode cX9_others 9 = .ok (.iconst 1, 1) := by decide +kernel
theorem dX9_others_10 : decode cX9_others 10 = .ok (.aload_n 0, 1) := by decide +kernel
theorem dX9_others_11 : decode cX9_others 11 = .ok (.getfield 13, 3) := by decide +kernel
theorem dX9_others_14 : decode cX9_others 14 = .ok (.bipush 21, 2) := by decide +kernel
theorem dX9_others_16 : decode cX9_others 16 = .ok (.iload_n 1, 1) := by decide +kernel
theorem dX9_others_17 : decode cX9_others 17 = .ok (.iadd, 1) := by decide +kernel
theorem dX9_others_18 : decode cX9_others 18 = .ok (.iaload, 1) := by decide +kernel
theorem dX9_others_19 : decode cX9_others 19 = .ok (.ishl, 1) := by decide +kernel
theorem dX9_others_20 : decode cX9_others 20 = .ok (.iconst (-1), 1) := by decide +kernel
theorem dX9_others_21 : decode cX9_others 21 = .ok (.ixor, 1) := by decide +kernel
theorem dX9_others_22 : decode cX9_others 22 = .ok (.iand, 1) := by decide +kernel
theorem dX9_others_23 : decode cX9_others 23 = .ok (.invokestatic 141, 3) := by decide +kernel
theorem dX9_others_26 : decode cX9_others 26 = .ok (.ireturn, 1) := by decide +kernel
set_option maxRecDepth 20000 in
theorem ggX9_shades_X9_others : GoodIn wsX9_shades wsX9_others := goodIn_r _ [6, 7, 1, 8, 9, 5, 10, 22, 23, 24, 25, 26, 27, 28, 29, 30, 31, 32, 33, 34, 35, 36, 37, 38, 39, 40, 41] (by decide +kernel) (by decide +kernel)
set_option maxRecDepth 20000 in
theorem gX9_shades_X9_others : GoodIn wsX9_shades (wsV RX9 144 RX9 yX9_others wsX9_others) := goodIn_app (goodIn_of _ (by decide +kernel)) ggX9_shades_X9_others
set_option maxRecDepth 20000 in
theorem ggX9_shades_X9_knows : GoodIn wsX9_shades wsX9_knows := goodIn_r _ [14, 7, 22, 23, 24, 25, 26, 27, 28, 29, 30, 31, 32, 33, 34, 35, 36, 37, 38, 39, 40, 41] (by decide +kernel) (by decide +kernel)
set_option maxRecDepth 20000 in
theorem gX9_shades_X9_knows : GoodIn wsX9_shades (wsV RX9 122 RX9 yX9_knows wsX9_knows) := goodIn_app (goodIn_of _ (by decide +kernel)) ggX9_shades_X9_knows
set_option maxRecDepth 20000 in
theorem ggX9_shades_X9_care : GoodIn wsX9_shades wsX9_care := goodIn_r _ [17] (by decide +kernel) (by decide +kernel)
set_option maxRecDepth 20000 in
theorem gX9_shades_X9_care : GoodIn wsX9_shades (va_wsS RX9 147 yX9_care wsX9_care) := goodIn_app (goodIn_of _ (by decide +kernel)) ggX9_shades_X9_care
set_option maxRecDepth 20000 in
theorem ggX9_shades_X9_isAlive : GoodIn wsX9_shades wsX9_isAlive := goodIn_r _ [21, 7, 1, 22, 23, 24, 25, 26, 27, 28, 29, 30, 31, 32, 33, 34, 35, 36, 37, 38, 39, 40, 41] (by decide +kernel) (by decide +kernel)
set_option maxRecDepth 20000 in
theorem gX9_shades_X9_isAlive : GoodIn wsX9_shades (wsV RX9 116 RX9 yX9_isAlive wsX9_isAlive) := goodIn_app (goodIn_of _ (by decide +kernel)) ggX9_shades_X9_isAlive
theorem dX9_shades_0 : decode cX9_shades 0 = .ok (.iconst 0, 1) := by decide +kernel
theorem dX9_shades_1 : decode cX9_shades 1 = .ok (.istore_n 3, 1) := by decide +kernel
theorem dX9_shades_2 : decode cX9_shades 2 = .ok (.aload_n 0, 1) := by decide +kernel
theorem dX9_shades_3 : decode cX9_shades 3 = .ok (.iload_n 1, 1) := by decide +kernel
theorem dX9_shades_4 : decode cX9_shades 4 = .ok (.invokevirtual 144, 3) := by decide +kernel
theorem dX9_shades_7 : decode cX9_shades 7 = .ok (.istore 4, 2) := by decide +kernel
theorem dX9_shades_9 : decode cX9_shades 9 = .ok (.iconst 0, 1) := by decide +kernel
theorem dX9_shades_10 : decode cX9_shades 10 = .ok (.istore 5, 2) := by decide +kernel
theorem dX9_shades_12 : decode cX9_shades 12 = .ok (.iload 5, 2) := by decide +kernel
theorem dX9_shades_14 : decode cX9_shades 14 = .ok (.aload_n 0, 1) := by decide +kernel
theorem dX9_shades_15 : decode cX9_shades 15 = .ok (.getfield 13, 3) := by decide +kernel
theorem dX9_shades_18 : decode cX9_shades 18 = .ok (.iconst 0, 1) := by decide +kernel
theorem dX9_shades_19 : decode cX9_shades 19 = .ok (.iaload, 1) := by decide +kernel
theorem dX9_shades_20 : decode cX9_shades 20 = .ok (.if_icmp .ge 57, 3) := by decide +kernel
theorem dX9_shades_23 : decode cX9_shades 23 = .ok (.iload_n 2, 1) := by decide +kernel
theorem dX9_shades_24 : decode cX9_shades 24 = .ok (.iload 5, 2) := by decide +kernel
theorem dX9_shades_26 : decode cX9_shades 26 = .ok (.ishr, 1) := by decide +kernel
theorem dX9_shades_27 : decode cX9_shades 27 = .ok (.iconst 1, 1) := by decide +kernel
theorem dX9_shades_28 : decode cX9_shades 28 = .ok (.iand, 1) := by decide +kernel
theorem dX9_shades_29 : decode cX9_shades 29 = .ok (.iconst 1, 1) := by decide +kernel
theorem dX9_shades_30 : decode cX9_shades 30 = .ok (.if_icmp .ne 41, 3) := by decide +kernel
theorem dX9_shades_33 : decode cX9_shades 33 = .ok (.aload_n 0, 1) := by decide +kernel
theorem dX9_shades_34 : decode cX9_shades 34 = .ok (.iload 5, 2) := by decide +kernel
theorem dX9_shades_36 : decode cX9_shades 36 = .ok (.iload_n 1, 1) := by decide +kernel
theorem dX9_shades_37 : decode cX9_shades 37 = .ok (.invokevirtual 122, 3) := by decide +kernel
theorem dX9_shades_40 : decode cX9_shades 40 = .ok (.ifCond .ne 31, 3) := by decide +kernel
theorem dX9_shades_43 : decode cX9_shades 43 = .ok (.iload_n 3, 1) := by decide +kernel
theorem dX9_shades_44 : decode cX9_shades 44 = .ok (.aload_n 0, 1) := by decide +kernel
theorem dX9_shades_45 : decode cX9_shades 45 = .ok (.getfield 13, 3) := by decide +kernel
theorem dX9_shades_48 : decode cX9_shades 48 = .ok (.bipush 9, 2) := by decide +kernel
theorem dX9_shades_50 : decode cX9_shades 50 = .ok (.aload_n 0, 1) := by decide +kernel
theorem dX9_shades_51 : decode cX9_shades 51 = .ok (.getfield 13, 3) := by decide +kernel
theorem dX9_shades_54 : decode cX9_shades 54 = .ok (.bipush 21, 2) := by decide +kernel
theorem dX9_shades_56 : decode cX9_shades 56 = .ok (.iload_n 1, 1) := by decide +kernel
theorem dX9_shades_57 : decode cX9_shades 57 = .ok (.iadd, 1) := by decide +kernel
theorem dX9_shades_58 : decode cX9_shades 58 = .ok (.iaload, 1) := by decide +kernel
theorem dX9_shades_59 : decode cX9_shades 59 = .ok (.iadd, 1) := by decide +kernel
theorem dX9_shades_60 : decode cX9_shades 60 = .ok (.iaload, 1) := by decide +kernel
theorem dX9_shades_61 : decode cX9_shades 61 = .ok (.iload 4, 2) := by decide +kernel
theorem dX9_shades_63 : decode cX9_shades 63 = .ok (.invokestatic 147, 3) := by decide +kernel
theorem dX9_shades_66 : decode cX9_shades 66 = .ok (.iadd, 1) := by decide +kernel
theorem dX9_shades_67 : decode cX9_shades 67 = .ok (.istore_n 3, 1) := by decide +kernel
theorem dX9_shades_68 : decode cX9_shades 68 = .ok (.iinc 4 1, 3) := by decide +kernel
theorem dX9_shades_71 : decode cX9_shades 71 = .ok (.iinc 5 1, 3) := by decide +kernel
theorem dX9_shades_74 : decode cX9_shades 74 = .ok (.goto (-62), 3) := by decide +kernel
theorem dX9_shades_77 : decode cX9_shades 77 = .ok (.aload_n 0, 1) := by decide +kernel
theorem dX9_shades_78 : decode cX9_shades 78 = .ok (.aload_n 0, 1) := by decide +kernel
theorem dX9_shades_79 : decode cX9_shades 79 = .ok (.getfield 13, 3) := by decide +kernel
theorem dX9_shades_82 : decode cX9_shades 82 = .ok (.bipush 21, 2) := by decide +kernel
theorem dX9_shades_84 : decode cX9_shades 84 = .ok (.iload_n 1, 1) := by decide +kernel
theorem dX9_shades_85 : decode cX9_shades 85 = .ok (.iadd, 1) := by decide +kernel
theorem dX9_shades_86 : decode cX9_shades 86 = .ok (.iaload, 1) := by decide +kernel
theorem dX9_shades_87 : decode cX9_shades 87 = .ok (.invokevirtual 116, 3) := by decide +kernel
theorem dX9_shades_90 : decode cX9_shades 90 = .ok (.ifCond .eq 7, 3) := by decide +kernel
theorem dX9_shades_93 : decode cX9_shades 93 = .ok (.iload_n 3, 1) := by decide +kernel
theorem dX9_shades_94 : decode cX9_shades 94 = .ok (.goto 4, 3) := by decide +kernel
theorem dX9_shades_97 : decode cX9_shades 97 = .ok (.iconst 0, 1) := by decide +kernel
theorem dX9_shades_98 : decode cX9_shades 98 = .ok (.ireturn, 1) := by decide +kernel
set_option maxRecDepth 20000 in
theorem ggX9_tells_X9_shades : GoodIn wsX9_tells wsX9_shades := goodIn_r _ [7, 1, 8, 9, 10, 6, 11, 2, 12, 13, 14, 15, 16, 17, 18, 19, 20, 21, 22, 23, 24, 25, 26, 27, 28, 29, 30, 31, 32, 33, 34, 35, 36, 37, 38, 39, 40, 41, 42, 43, 44, 45] (by decide +kernel) (by decide +kernel)
set_option maxRecDepth 20000 in
theorem gX9_tells_X9_shades : GoodIn wsX9_tells (wsV RX9 151 RX9 yX9_shades wsX9_shades) := goodIn_app (goodIn_of _ (by decide +kernel)) ggX9_tells_X9_shades
set_option maxRecDepth 20000 in
theorem ggX9_tells_X9_ones : GoodIn wsX9_tells wsX9_ones := goodIn_r _ [14] (by decide +kernel) (by decide +kernel)
set_option maxRecDepth 20000 in
theorem gX9_tells_X9_ones : GoodIn wsX9_tells (va_wsS RX9 141 yX9_ones wsX9_ones) := goodIn_app (goodIn_of _ (by decide +kernel)) ggX9_tells_X9_ones
theorem dX9_tells_0 : decode cX9_tells 0 = .ok (.aload_n 0, 1) := by decide +kernel
theorem dX9_tells_1 : decode cX9_tells 1 = .ok (.getfield 13, 3) := by decide +kernel
theorem dX9_tells_4 : decode cX9_tells 4 = .ok (.bipush 21, 2) := by decide +kernel
theorem dX9_tells_6 : decode cX9_tells 6 = .ok (.iload_n 2, 1) := by decide +kernel
theorem dX9_tells_7 : decode cX9_tells 7 = .ok (.iadd, 1) := by decide +kernel
theorem dX9_tells_8 : decode cX9_tells 8 = .ok (.iaload, 1) := by decide +kernel
theorem dX9_tells_9 : decode cX9_tells 9 = .ok (.istore 4, 2) := by decide +kernel
theorem dX9_tells_11 : decode cX9_tells 11 = .ok (.aload_n 0, 1) := by decide +kernel
theorem dX9_tells_12 : decode cX9_tells 12 = .ok (.iload_n 2, 1) := by decide +kernel
theorem dX9_tells_13 : decode cX9_tells 13 = .ok (.iload_n 3, 1) := by decide +kernel
theorem dX9_tells_14 : decode cX9_tells 14 = .ok (.invokevirtual 151, 3) := by decide +kernel
theorem dX9_tells_17 : decode cX9_tells 17 = .ok (.istore 5, 2) := by decide +kernel
theorem dX9_tells_19 : decode cX9_tells 19 = .ok (.iload_n 3, 1) := by decide +kernel
theorem dX9_tells_20 : decode cX9_tells 20 = .ok (.aload_n 0, 1) := by decide +kernel
theorem dX9_tells_21 : decode cX9_tells 21 = .ok (.getfield 19, 3) := by decide +kernel
theorem dX9_tells_24 : decode cX9_tells 24 = .ok (.bipush 6, 2) := by decide +kernel
theorem dX9_tells_26 : decode cX9_tells 26 = .ok (.iload_n 2, 1) := by decide +kernel
theorem dX9_tells_27 : decode cX9_tells 27 = .ok (.iadd, 1) := by decide +kernel
theorem dX9_tells_28 : decode cX9_tells 28 = .ok (.iaload, 1) := by decide +kernel
theorem dX9_tells_29 : decode cX9_tells 29 = .ok (.iconst (-1), 1) := by decide +kernel
theorem dX9_tells_30 : decode cX9_tells 30 = .ok (.ixor, 1) := by decide +kernel
theorem dX9_tells_31 : decode cX9_tells 31 = .ok (.iand, 1) := by decide +kernel
theorem dX9_tells_32 : decode cX9_tells 32 = .ok (.istore 6, 2) := by decide +kernel
theorem dX9_tells_34 : decode cX9_tells 34 = .ok (.aload_n 0, 1) := by decide +kernel
theorem dX9_tells_35 : decode cX9_tells 35 = .ok (.getfield 19, 3) := by decide +kernel
theorem dX9_tells_38 : decode cX9_tells 38 = .ok (.iload 4, 2) := by decide +kernel
theorem dX9_tells_40 : decode cX9_tells 40 = .ok (.dup2, 1) := by decide +kernel
theorem dX9_tells_41 : decode cX9_tells 41 = .ok (.iaload, 1) := by decide +kernel
theorem dX9_tells_42 : decode cX9_tells 42 = .ok (.iload_n 1, 1) := by decide +kernel
theorem dX9_tells_43 : decode cX9_tells 43 = .ok (.iload 4, 2) := by decide +kernel
theorem dX9_tells_45 : decode cX9_tells 45 = .ok (.if_icmp .ne 10, 3) := by decide +kernel
theorem dX9_tells_48 : decode cX9_tells 48 = .ok (.iload 5, 2) := by decide +kernel
theorem dX9_tells_50 : decode cX9_tells 50 = .ok (.iconst 2, 1) := by decide +kernel
theorem dX9_tells_51 : decode cX9_tells 51 = .ok (.idiv, 1) := by decide +kernel
theorem dX9_tells_52 : decode cX9_tells 52 = .ok (.goto 5, 3) := by decide +kernel
theorem dX9_tells_55 : decode cX9_tells 55 = .ok (.iload 5, 2) := by decide +kernel
theorem dX9_tells_57 : decode cX9_tells 57 = .ok (.iadd, 1) := by decide +kernel
theorem dX9_tells_58 : decode cX9_tells 58 = .ok (.iastore, 1) := by decide +kernel
theorem dX9_tells_59 : decode cX9_tells 59 = .ok (.aload_n 0, 1) := by decide +kernel
theorem dX9_tells_60 : decode cX9_tells 60 = .ok (.getfield 19, 3) := by decide +kernel
theorem dX9_tells_63 : decode cX9_tells 63 = .ok (.bipush 6, 2) := by decide +kernel
theorem dX9_tells_65 : decode cX9_tells 65 = .ok (.iload_n 2, 1) := by decide +kernel
theorem dX9_tells_66 : decode cX9_tells 66 = .ok (.iadd, 1) := by decide +kernel
theorem dX9_tells_67 : decode cX9_tells 67 = .ok (.dup2, 1) := by decide +kernel
theorem dX9_tells_68 : decode cX9_tells 68 = .ok (.iaload, 1) := by decide +kernel
theorem dX9_tells_69 : decode cX9_tells 69 = .ok (.iload_n 3, 1) := by decide +kernel
theorem dX9_tells_70 : decode cX9_tells 70 = .ok (.ior, 1) := by decide +kernel
theorem dX9_tells_71 : decode cX9_tells 71 = .ok (.iastore, 1) := by decide +kernel
theorem dX9_tells_72 : decode cX9_tells 72 = .ok (.iconst 0, 1) := by decide +kernel
theorem dX9_tells_73 : decode cX9_tells 73 = .ok (.istore 7, 2) := by decide +kernel
theorem dX9_tells_75 : decode cX9_tells 75 = .ok (.iload 7, 2) := by decide +kernel
theorem dX9_tells_77 : decode cX9_tells 77 = .ok (.aload_n 0, 1) := by decide +kernel
theorem dX9_tells_78 : decode cX9_tells 78 = .ok (.getfield 13, 3) := by decide +kernel
theorem dX9_tells_81 : decode cX9_tells 81 = .ok (.iconst 0, 1) := by decide +kernel
theorem dX9_tells_82 : decode cX9_tells 82 = .ok (.iaload, 1) := by decide +kernel
theorem dX9_tells_83 : decode cX9_tells 83 = .ok (.if_icmp .ge 49, 3) := by decide +kernel
theorem dX9_tells_86 : decode cX9_tells 86 = .ok (.aload_n 0, 1) := by decide +kernel
theorem dX9_tells_87 : decode cX9_tells 87 = .ok (.getfield 19, 3) := by decide +kernel
theorem dX9_tells_90 : decode cX9_tells 90 = .ok (.iload 7, 2) := by decide +kernel
theorem dX9_tells_92 : decode cX9_tells 92 = .ok (.dup2, 1) := by decide +kernel
theorem dX9_tells_93 : decode cX9_tells 93 = .ok (.iaload, 1) := by decide +kernel
theorem dX9_tells_94 : decode cX9_tells 94 = .ok (.iload 6, 2) := by decide +kernel
theorem dX9_tells_96 : decode cX9_tells 96 = .ok (.iload 7, 2) := by decide +kernel
theorem dX9_tells_98 : decode cX9_tells 98 = .ok (.ishr, 1) := by decide +kernel
theorem dX9_tells_99 : decode cX9_tells 99 = .ok (.iconst 1, 1) := by decide +kernel
theorem dX9_tells_100 : decode cX9_tells 100 = .ok (.iand, 1) := by decide +kernel
theorem dX9_tells_101 : decode cX9_tells 101 = .ok (.iconst 1, 1) := by decide +kernel
theorem dX9_tells_102 : decode cX9_tells 102 = .ok (.if_icmp .ne 21, 3) := by decide +kernel
theorem dX9_tells_105 : decode cX9_tells 105 = .ok (.aload_n 0, 1) := by decide +kernel
theorem dX9_tells_106 : decode cX9_tells 106 = .ok (.getfield 13, 3) := by decide +kernel
theorem dX9_tells_109 : decode cX9_tells 109 = .ok (.bipush 9, 2) := by decide +kernel
theorem dX9_tells_111 : decode cX9_tells 111 = .ok (.iload 7, 2) := by decide +kernel
theorem dX9_tells_113 : decode cX9_tells 113 = .ok (.iadd, 1) := by decide +kernel
theorem dX9_tells_114 : decode cX9_tells 114 = .ok (.iaload, 1) := by decide +kernel
theorem dX9_tells_115 : decode cX9_tells 115 = .ok (.iconst 4, 1) := by decide +kernel
theorem dX9_tells_116 : decode cX9_tells 116 = .ok (.if_icmp .ne 7, 3) := by decide +kernel
theorem dX9_tells_119 : decode cX9_tells 119 = .ok (.iconst 1, 1) := by decide +kernel
theorem dX9_tells_120 : decode cX9_tells 120 = .ok (.goto 4, 3) := by decide +kernel
theorem dX9_tells_123 : decode cX9_tells 123 = .ok (.iconst 0, 1) := by decide +kernel
theorem dX9_tells_124 : decode cX9_tells 124 = .ok (.iadd, 1) := by decide +kernel
theorem dX9_tells_125 : decode cX9_tells 125 = .ok (.iastore, 1) := by decide +kernel
theorem dX9_tells_126 : decode cX9_tells 126 = .ok (.iinc 7 1, 3) := by decide +kernel
theorem dX9_tells_129 : decode cX9_tells 129 = .ok (.goto (-54), 3) := by decide +kernel
theorem dX9_tells_132 : decode cX9_tells 132 = .ok (.iload 6, 2) := by decide +kernel
theorem dX9_tells_134 : decode cX9_tells 134 = .ok (.invokestatic 141, 3) := by decide +kernel
theorem dX9_tells_137 : decode cX9_tells 137 = .ok (.ireturn, 1) := by decide +kernel
theorem dX9_keeps_0 : decode cX9_keeps 0 = .ok (.aload_n 0, 1) := by decide +kernel
theorem dX9_keeps_1 : decode cX9_keeps 1 = .ok (.getfield 104, 3) := by decide +kernel
theorem dX9_keeps_4 : decode cX9_keeps 4 = .ok (.bipush 8, 2) := by decide +kernel
theorem dX9_keeps_6 : decode cX9_keeps 6 = .ok (.if_icmp .ne 42, 3) := by decide +kernel
theorem dX9_keeps_9 : decode cX9_keeps 9 = .ok (.iconst 0, 1) := by decide +kernel
theorem dX9_keeps_10 : decode cX9_keeps 10 = .ok (.istore_n 1, 1) := by decide +kernel
theorem dX9_keeps_11 : decode cX9_keeps 11 = .ok (.iload_n 1, 1) := by decide +kernel
theorem dX9_keeps_12 : decode cX9_keeps 12 = .ok (.bipush 105, 2) := by decide +kernel
theorem dX9_keeps_14 : decode cX9_keeps 14 = .ok (.if_icmp .ge 24, 3) := by decide +kernel
theorem dX9_keeps_17 : decode cX9_keeps 17 = .ok (.aload_n 0, 1) := by decide +kernel
theorem dX9_keeps_18 : decode cX9_keeps 18 = .ok (.getfield 22, 3) := by decide +kernel
theorem dX9_keeps_21 : decode cX9_keeps 21 = .ok (.iload_n 1, 1) := by decide +kernel
theorem dX9_keeps_22 : decode cX9_keeps 22 = .ok (.aload_n 0, 1) := by decide +kernel
theorem dX9_keeps_23 : decode cX9_keeps 23 = .ok (.getfield 22, 3) := by decide +kernel
theorem dX9_keeps_26 : decode cX9_keeps 26 = .ok (.iload_n 1, 1) := by decide +kernel
theorem dX9_keeps_27 : decode cX9_keeps 27 = .ok (.bipush 15, 2) := by decide +kernel
theorem dX9_keeps_29 : decode cX9_keeps 29 = .ok (.iadd, 1) := by decide +kernel
theorem dX9_keeps_30 : decode cX9_keeps 30 = .ok (.iaload, 1) := by decide +kernel
theorem dX9_keeps_31 : decode cX9_keeps 31 = .ok (.iastore, 1) := by decide +kernel
theorem dX9_keeps_32 : decode cX9_keeps 32 = .ok (.iinc 1 1, 3) := by decide +kernel
theorem dX9_keeps_35 : decode cX9_keeps 35 = .ok (.goto (-24), 3) := by decide +kernel
theorem dX9_keeps_38 : decode cX9_keeps 38 = .ok (.aload_n 0, 1) := by decide +kernel
theorem dX9_keeps_39 : decode cX9_keeps 39 = .ok (.dup, 1) := by decide +kernel
theorem dX9_keeps_40 : decode cX9_keeps 40 = .ok (.getfield 104, 3) := by decide +kernel
theorem dX9_keeps_43 : decode cX9_keeps 43 = .ok (.iconst 1, 1) := by decide +kernel
theorem dX9_keeps_44 : decode cX9_keeps 44 = .ok (.isub, 1) := by decide +kernel
theorem dX9_keeps_45 : decode cX9_keeps 45 = .ok (.putfield 104, 3) := by decide +kernel
theorem dX9_keeps_48 : decode cX9_keeps 48 = .ok (.iconst 0, 1) := by decide +kernel
theorem dX9_keeps_49 : decode cX9_keeps 49 = .ok (.istore_n 1, 1) := by decide +kernel
theorem dX9_keeps_50 : decode cX9_keeps 50 = .ok (.iload_n 1, 1) := by decide +kernel
theorem dX9_keeps_51 : decode cX9_keeps 51 = .ok (.bipush 15, 2) := by decide +kernel
theorem dX9_keeps_53 : decode cX9_keeps 53 = .ok (.if_icmp .ge 29, 3) := by decide +kernel
theorem dX9_keeps_56 : decode cX9_keeps 56 = .ok (.aload_n 0, 1) := by decide +kernel
theorem dX9_keeps_57 : decode cX9_keeps 57 = .ok (.getfield 22, 3) := by decide +kernel
theorem dX9_keeps_60 : decode cX9_keeps 60 = .ok (.bipush 15, 2) := by decide +kernel
theorem dX9_keeps_62 : decode cX9_keeps 62 = .ok (.aload_n 0, 1) := by decide +kernel
theorem dX9_keeps_63 : decode cX9_keeps 63 = .ok (.getfield 104, 3) := by decide +kernel
theorem dX9_keeps_66 : decode cX9_keeps 66 = .ok (.imul, 1) := by decide +kernel
theorem dX9_keeps_67 : decode cX9_keeps 67 = .ok (.iload_n 1, 1) := by decide +kernel
theorem dX9_keeps_68 : decode cX9_keeps 68 = .ok (.iadd, 1) := by decide +kernel
theorem dX9_keeps_69 : decode cX9_keeps 69 = .ok (.aload_n 0, 1) := by decide +kernel
theorem dX9_keeps_70 : decode cX9_keeps 70 = .ok (.getfield 19, 3) := by decide +kernel
theorem dX9_keeps_73 : decode cX9_keeps 73 = .ok (.iload_n 1, 1) := by decide +kernel
theorem dX9_keeps_74 : decode cX9_keeps 74 = .ok (.iaload, 1) := by decide +kernel
theorem dX9_keeps_75 : decode cX9_keeps 75 = .ok (.iastore, 1) := by decide +kernel
theorem dX9_keeps_76 : decode cX9_keeps 76 = .ok (.iinc 1 1, 3) := by decide +kernel
theorem dX9_keeps_79 : decode cX9_keeps 79 = .ok (.goto (-29), 3) := by decide +kernel
theorem dX9_keeps_82 : decode cX9_keeps 82 = .ok (.aload_n 0, 1) := by decide +kernel
theorem dX9_keeps_83 : decode cX9_keeps 83 = .ok (.dup, 1) := by decide +kernel
theorem dX9_keeps_84 : decode cX9_keeps 84 = .ok (.getfield 104, 3) := by decide +kernel
theorem dX9_keeps_87 : decode cX9_keeps 87 = .ok (.iconst 1, 1) := by decide +kernel
theorem dX9_keeps_88 : decode cX9_keeps 88 = .ok (.iadd, 1) := by decide +kernel
theorem dX9_keeps_89 : decode cX9_keeps 89 = .ok (.putfield 104, 3) := by decide +kernel
theorem dX9_keeps_92 : decode cX9_keeps 92 = .ok (.return_, 1) := by decide +kernel
set_option maxRecDepth 20000 in
theorem ggX9_tell_X9_isPerson : GoodIn wsX9_tell wsX9_isPerson := goodIn_r _ [5, 6, 7, 8, 4, 9, 55, 56, 57, 58, 59, 60, 61, 62, 63, 64, 65, 66, 67, 68, 69, 70, 71, 72, 73, 74] (by decide +kernel) (by decide +kernel)
set_option maxRecDepth 20000 in
theorem gX9_tell_X9_isPerson : GoodIn wsX9_tell (wsV RX9 126 RX9 yX9_isPerson wsX9_isPerson) := goodIn_app (goodIn_of _ (by decide +kernel)) ggX9_tell_X9_isPerson
set_option maxRecDepth 20000 in
theorem ggX9_tell_X9_isSecret : GoodIn wsX9_tell wsX9_isSecret := goodIn_r _ [13, 6, 7, 8, 4, 9, 55, 56, 57, 58, 59, 60, 61, 62, 63, 64, 65, 66, 67, 68, 69, 70, 71, 72, 73, 74] (by decide +kernel) (by decide +kernel)
set_option maxRecDepth 20000 in
theorem gX9_tell_X9_isSecret : GoodIn wsX9_tell (wsV RX9 138 RX9 yX9_isSecret wsX9_isSecret) := goodIn_app (goodIn_of _ (by decide +kernel)) ggX9_tell_X9_isSecret
set_option maxRecDepth 20000 in
theorem ggX9_tell_X9_in : GoodIn wsX9_tell wsX9_in := goodIn_r _ [9] (by decide +kernel) (by decide +kernel)
set_option maxRecDepth 20000 in
theorem gX9_tell_X9_in : GoodIn wsX9_tell (va_wsS RX9 62 yX9_in wsX9_in) := goodIn_app (goodIn_of _ (by decide +kernel)) ggX9_tell_X9_in
set_option maxRecDepth 20000 in
theorem ggX9_tell_X9_met : GoodIn wsX9_tell wsX9_met := goodIn_r _ [17, 6, 18, 19, 20, 4, 21, 22, 23, 24, 25, 26, 55, 56, 57, 58, 59, 60, 61, 62, 63, 64, 65, 66, 67, 68, 69, 70, 71, 72, 73, 74] (by decide +kernel) (by decide +kernel)
set_option maxRecDepth 20000 in
theorem gX9_tell_X9_met : GoodIn wsX9_tell (wsV RX9 129 RX9 yX9_met wsX9_met) := goodIn_app (goodIn_of _ (by decide +kernel)) ggX9_tell_X9_met
set_option maxRecDepth 20000 in
theorem ggX9_tell_X9_knows : GoodIn wsX9_tell wsX9_knows := goodIn_r _ [30, 22, 55, 56, 57, 58, 59, 60, 61, 62, 63, 64, 65, 66, 67, 68, 69, 70, 71, 72, 73, 74] (by decide +kernel) (by decide +kernel)
set_option maxRecDepth 20000 in
theorem gX9_tell_X9_knows : GoodIn wsX9_tell (wsV RX9 122 RX9 yX9_knows wsX9_knows) := goodIn_app (goodIn_of _ (by decide +kernel)) ggX9_tell_X9_knows
set_option maxRecDepth 20000 in
theorem ggX9_tell_X9_keeps : GoodIn wsX9_tell wsX9_keeps := goodIn_r _ [34, 35, 36, 22, 55, 56, 57, 58, 59, 60, 61, 62, 63, 64, 65, 66, 67, 68, 69, 70, 71, 72, 73, 74] (by decide +kernel) (by decide +kernel)
set_option maxRecDepth 20000 in
theorem gX9_tell_X9_keeps : GoodIn wsX9_tell (wsV RX9 154 RX9 yX9_keeps wsX9_keeps) := goodIn_app (goodIn_of _ (by decide +kernel)) ggX9_tell_X9_keeps
set_option maxRecDepth 20000 in
theorem ggX9_tell_X9_tells : GoodIn wsX9_tell wsX9_tells := goodIn_r _ [40, 6, 22, 41, 42, 43, 4, 44, 45, 46, 47, 48, 49, 50, 51, 27, 28, 29, 30, 52, 53, 54, 18, 19, 20, 21, 55, 56, 57, 58, 59, 60, 61, 62, 63, 64, 65, 66, 67, 68, 69, 70, 71, 72, 73, 74] (by decide +kernel) (by decide +kernel)
set_option maxRecDepth 20000 in
theorem gX9_tell_X9_tells : GoodIn wsX9_tell (wsV RX9 157 RX9 yX9_tells wsX9_tells) := goodIn_app (goodIn_of _ (by decide +kernel)) ggX9_tell_X9_tells
theorem dX9_tell_0 : decode cX9_tell 0 = .ok (.aload_n 0, 1) := by decide +kernel
theorem dX9_tell_1 : decode cX9_tell 1 = .ok (.iload_n 1, 1) := by decide +kernel
theorem dX9_tell_2 : decode cX9_tell 2 = .ok (.invokevirtual 126, 3) := by decide +kernel
theorem dX9_tell_5 : decode cX9_tell 5 = .ok (.ifCond .eq 33, 3) := by decide +kernel
theorem dX9_tell_8 : decode cX9_tell 8 = .ok (.aload_n 0, 1) := by decide +kernel
theorem dX9_tell_9 : decode cX9_tell 9 = .ok (.iload_n 2, 1) := by decide +kernel
theorem dX9_tell_10 : decode cX9_tell 10 = .ok (.invokevirtual 138, 3) := by decide +kernel
theorem dX9_tell_13 : decode cX9_tell 13 = .ok (.ifCond .eq 25, 3) := by decide +kernel
theorem dX9_tell_16 : decode cX9_tell 16 = .ok (.iload_n 3, 1) := by decide +kernel
theorem dX9_tell_17 : decode cX9_tell 17 = .ok (.iconst 1, 1) := by decide +kernel
theorem dX9_tell_18 : decode cX9_tell 18 = .ok (.bipush 63, 2) := by decide +kernel
theorem dX9_tell_20 : decode cX9_tell 20 = .ok (.invokestatic 62, 3) := by decide +kernel
theorem dX9_tell_23 : decode cX9_tell 23 = .ok (.ifCond .eq 15, 3) := by decide +kernel
theorem dX9_tell_26 : decode cX9_tell 26 = .ok (.iload_n 3, 1) := by decide +kernel
theorem dX9_tell_27 : decode cX9_tell 27 = .ok (.aload_n 0, 1) := by decide +kernel
theorem dX9_tell_28 : decode cX9_tell 28 = .ok (.iload_n 1, 1) := by decide +kernel
theorem dX9_tell_29 : decode cX9_tell 29 = .ok (.invokevirtual 129, 3) := by decide +kernel
theorem dX9_tell_32 : decode cX9_tell 32 = .ok (.iconst (-1), 1) := by decide +kernel
theorem dX9_tell_33 : decode cX9_tell 33 = .ok (.ixor, 1) := by decide +kernel
theorem dX9_tell_34 : decode cX9_tell 34 = .ok (.iand, 1) := by decide +kernel
theorem dX9_tell_35 : decode cX9_tell 35 = .ok (.ifCond .eq 5, 3) := by decide +kernel
theorem dX9_tell_38 : decode cX9_tell 38 = .ok (.iconst (-1), 1) := by decide +kernel
theorem dX9_tell_39 : decode cX9_tell 39 = .ok (.ireturn, 1) := by decide +kernel
theorem dX9_tell_40 : decode cX9_tell 40 = .ok (.aload_n 0, 1) := by decide +kernel
theorem dX9_tell_41 : decode cX9_tell 41 = .ok (.iload_n 1, 1) := by decide +kernel
theorem dX9_tell_42 : decode cX9_tell 42 = .ok (.iload_n 2, 1) := by decide +kernel
theorem dX9_tell_43 : decode cX9_tell 43 = .ok (.invokevirtual 122, 3) := by decide +kernel
theorem dX9_tell_46 : decode cX9_tell 46 = .ok (.ifCond .ne 6, 3) := by decide +kernel
theorem dX9_tell_49 : decode cX9_tell 49 = .ok (.bipush (-2), 2) := by decide +kernel
theorem dX9_tell_51 : decode cX9_tell 51 = .ok (.ireturn, 1) := by decide +kernel
theorem dX9_tell_52 : decode cX9_tell 52 = .ok (.aload_n 0, 1) := by decide +kernel
theorem dX9_tell_53 : decode cX9_tell 53 = .ok (.invokevirtual 154, 3) := by decide +kernel
theorem dX9_tell_56 : decode cX9_tell 56 = .ok (.aload_n 0, 1) := by decide +kernel
theorem dX9_tell_57 : decode cX9_tell 57 = .ok (.iload_n 1, 1) := by decide +kernel
theorem dX9_tell_58 : decode cX9_tell 58 = .ok (.iload_n 2, 1) := by decide +kernel
theorem dX9_tell_59 : decode cX9_tell 59 = .ok (.iload_n 3, 1) := by decide +kernel
theorem dX9_tell_60 : decode cX9_tell 60 = .ok (.invokevirtual 157, 3) := by decide +kernel
theorem dX9_tell_63 : decode cX9_tell 63 = .ok (.ireturn, 1) := by decide +kernel
set_option maxRecDepth 20000 in
theorem ggX9_goes_X9_knows : GoodIn wsX9_goes wsX9_knows := goodIn_r _ [7, 2, 38, 39, 40, 41, 42, 43, 44, 45, 46, 47, 48, 49, 50, 51, 52, 53, 54, 55, 56, 57] (by decide +kernel) (by decide +kernel)
set_option maxRecDepth 20000 in
theorem gX9_goes_X9_knows : GoodIn wsX9_goes (wsV RX9 122 RX9 yX9_knows wsX9_knows) := goodIn_app (goodIn_of _ (by decide +kernel)) ggX9_goes_X9_knows
set_option maxRecDepth 20000 in
theorem ggX9_goes_X9_met : GoodIn wsX9_goes wsX9_met := goodIn_r _ [11, 1, 12, 13, 14, 6, 15, 2, 16, 17, 18, 19, 38, 39, 40, 41, 42, 43, 44, 45, 46, 47, 48, 49, 50, 51, 52, 53, 54, 55, 56, 57] (by decide +kernel) (by decide +kernel)
set_option maxRecDepth 20000 in
theorem gX9_goes_X9_met : GoodIn wsX9_goes (wsV RX9 129 RX9 yX9_met wsX9_met) := goodIn_app (goodIn_of _ (by decide +kernel)) ggX9_goes_X9_met
set_option maxRecDepth 20000 in
theorem ggX9_goes_X9_tells : GoodIn wsX9_goes wsX9_tells := goodIn_r _ [23, 1, 2, 24, 25, 26, 6, 27, 28, 29, 30, 31, 32, 33, 34, 3, 4, 5, 7, 35, 36, 37, 12, 13, 14, 15, 38, 39, 40, 41, 42, 43, 44, 45, 46, 47, 48, 49, 50, 51, 52, 53, 54, 55, 56, 57] (by decide +kernel) (by decide +kernel)
set_option maxRecDepth 20000 in
theorem gX9_goes_X9_tells : GoodIn wsX9_goes (wsV RX9 157 RX9 yX9_tells wsX9_tells) := goodIn_app (goodIn_of _ (by decide +kernel)) ggX9_goes_X9_tells
theorem dX9_goes_0 : decode cX9_goes 0 = .ok (.iconst 0, 1) := by decide +kernel
theorem dX9_goes_1 : decode cX9_goes 1 = .ok (.istore_n 1, 1) := by decide +kernel
theorem dX9_goes_2 : decode cX9_goes 2 = .ok (.iconst 0, 1) := by decide +kernel
theorem dX9_goes_3 : decode cX9_goes 3 = .ok (.istore_n 2, 1) := by decide +kernel
theorem dX9_goes_4 : decode cX9_goes 4 = .ok (.iload_n 2, 1) := by decide +kernel
theorem dX9_goes_5 : decode cX9_goes 5 = .ok (.aload_n 0, 1) := by decide +kernel
theorem dX9_goes_6 : decode cX9_goes 6 = .ok (.getfield 13, 3) := by decide +kernel
theorem dX9_goes_9 : decode cX9_goes 9 = .ok (.iconst 0, 1) := by decide +kernel
theorem dX9_goes_10 : decode cX9_goes 10 = .ok (.iaload, 1) := by decide +kernel
theorem dX9_goes_11 : decode cX9_goes 11 = .ok (.if_icmp .ge 151, 3) := by decide +kernel
theorem dX9_goes_14 : decode cX9_goes 14 = .ok (.iconst (-1), 1) := by decide +kernel
theorem dX9_goes_15 : decode cX9_goes 15 = .ok (.istore_n 3, 1) := by decide +kernel
theorem dX9_goes_16 : decode cX9_goes 16 = .ok (.aload_n 0, 1) := by decide +kernel
theorem dX9_goes_17 : decode cX9_goes 17 = .ok (.getfield 13, 3) := by decide +kernel
theorem dX9_goes_20 : decode cX9_goes 20 = .ok (.iconst 1, 1) := by decide +kernel
theorem dX9_goes_21 : decode cX9_goes 21 = .ok (.iaload, 1) := by decide +kernel
theorem dX9_goes_22 : decode cX9_goes 22 = .ok (.iconst 1, 1) := by decide +kernel
theorem dX9_goes_23 : decode cX9_goes 23 = .ok (.isub, 1) := by decide +kernel
theorem dX9_goes_24 : decode cX9_goes 24 = .ok (.istore 4, 2) := by decide +kernel
theorem dX9_goes_26 : decode cX9_goes 26 = .ok (.iload 4, 2) := by decide +kernel
theorem dX9_goes_28 : decode cX9_goes 28 = .ok (.ifCond .lt 102, 3) := by decide +kernel
theorem dX9_goes_31 : decode cX9_goes 31 = .ok (.aload_n 0, 1) := by decide +kernel
theorem dX9_goes_32 : decode cX9_goes 32 = .ok (.getfield 13, 3) := by decide +kernel
theorem dX9_goes_35 : decode cX9_goes 35 = .ok (.bipush 21, 2) := by decide +kernel
theorem dX9_goes_37 : decode cX9_goes 37 = .ok (.iload 4, 2) := by decide +kernel
theorem dX9_goes_39 : decode cX9_goes 39 = .ok (.iadd, 1) := by decide +kernel
theorem dX9_goes_40 : decode cX9_goes 40 = .ok (.iaload, 1) := by decide +kernel
theorem dX9_goes_41 : decode cX9_goes 41 = .ok (.iload_n 2, 1) := by decide +kernel
theorem dX9_goes_42 : decode cX9_goes 42 = .ok (.if_icmp .eq 34, 3) := by decide +kernel
theorem dX9_goes_45 : decode cX9_goes 45 = .ok (.aload_n 0, 1) := by decide +kernel
theorem dX9_goes_46 : decode cX9_goes 46 = .ok (.iload_n 2, 1) := by decide +kernel
theorem dX9_goes_47 : decode cX9_goes 47 = .ok (.iload 4, 2) := by decide +kernel
theorem dX9_goes_49 : decode cX9_goes 49 = .ok (.invokevirtual 122, 3) := by decide +kernel
theorem dX9_goes_52 : decode cX9_goes 52 = .ok (.ifCond .eq 24, 3) := by decide +kernel
theorem dX9_goes_55 : decode cX9_goes 55 = .ok (.aload_n 0, 1) := by decide +kernel
theorem dX9_goes_56 : decode cX9_goes 56 = .ok (.iload_n 2, 1) := by decide +kernel
theorem dX9_goes_57 : decode cX9_goes 57 = .ok (.invokevirtual 129, 3) := by decide +kernel
theorem dX9_goes_60 : decode cX9_goes 60 = .ok (.aload_n 0, 1) := by decide +kernel
theorem dX9_goes_61 : decode cX9_goes 61 = .ok (.getfield 19, 3) := by decide +kernel
theorem dX9_goes_64 : decode cX9_goes 64 = .ok (.bipush 6, 2) := by decide +kernel
theorem dX9_goes_66 : decode cX9_goes 66 = .ok (.iload 4, 2) := by decide +kernel
theorem dX9_goes_68 : decode cX9_goes 68 = .ok (.iadd, 1) := by decide +kernel
theorem dX9_goes_69 : decode cX9_goes 69 = .ok (.iaload, 1) := by decide +kernel
theorem dX9_goes_70 : decode cX9_goes 70 = .ok (.iconst (-1), 1) := by decide +kernel
theorem dX9_goes_71 : decode cX9_goes 71 = .ok (.ixor, 1) := by decide +kernel
theorem dX9_goes_72 : decode cX9_goes 72 = .ok (.iand, 1) := by decide +kernel
theorem dX9_goes_73 : decode cX9_goes 73 = .ok (.goto 4, 3) := by decide +kernel
theorem dX9_goes_76 : decode cX9_goes 76 = .ok (.iconst 0, 1) := by decide +kernel
theorem dX9_goes_77 : decode cX9_goes 77 = .ok (.istore 5, 2) := by decide +kernel
theorem dX9_goes_79 : decode cX9_goes 79 = .ok (.aload_n 0, 1) := by decide +kernel
theorem dX9_goes_80 : decode cX9_goes 80 = .ok (.getfield 13, 3) := by decide +kernel
theorem dX9_goes_83 : decode cX9_goes 83 = .ok (.iconst 0, 1) := by decide +kernel
theorem dX9_goes_84 : decode cX9_goes 84 = .ok (.iaload, 1) := by decide +kernel
theorem dX9_goes_85 : decode cX9_goes 85 = .ok (.iconst 1, 1) := by decide +kernel
theorem dX9_goes_86 : decode cX9_goes 86 = .ok (.isub, 1) := by decide +kernel
theorem dX9_goes_87 : decode cX9_goes 87 = .ok (.istore 6, 2) := by decide +kernel
theorem dX9_goes_89 : decode cX9_goes 89 = .ok (.iload 6, 2) := by decide +kernel
theorem dX9_goes_91 : decode cX9_goes 91 = .ok (.ifCond .lt 33, 3) := by decide +kernel
theorem dX9_goes_94 : decode cX9_goes 94 = .ok (.iload 5, 2) := by decide +kernel
theorem dX9_goes_96 : decode cX9_goes 96 = .ok (.iload 6, 2) := by decide +kernel
theorem dX9_goes_98 : decode cX9_goes 98 = .ok (.ishr, 1) := by decide +kernel
theorem dX9_goes_99 : decode cX9_goes 99 = .ok (.iconst 1, 1) := by decide +kernel
theorem dX9_goes_100 : decode cX9_goes 100 = .ok (.iand, 1) := by decide +kernel
theorem dX9_goes_101 : decode cX9_goes 101 = .ok (.iconst 1, 1) := by decide +kernel
theorem dX9_goes_102 : decode cX9_goes 102 = .ok (.if_icmp .ne 14, 3) := by decide +kernel
theorem dX9_goes_105 : decode cX9_goes 105 = .ok (.bipush 8, 2) := by decide +kernel
theorem dX9_goes_107 : decode cX9_goes 107 = .ok (.iload 4, 2) := by decide +kernel
theorem dX9_goes_109 : decode cX9_goes 109 = .ok (.imul, 1) := by decide +kernel
theorem dX9_goes_110 : decode cX9_goes 110 = .ok (.iload 6, 2) := by decide +kernel
theorem dX9_goes_112 : decode cX9_goes 112 = .ok (.iadd, 1) := by decide +kernel
theorem dX9_goes_113 : decode cX9_goes 113 = .ok (.goto 4, 3) := by decide +kernel
theorem dX9_goes_116 : decode cX9_goes 116 = .ok (.iload_n 3, 1) := by decide +kernel
theorem dX9_goes_117 : decode cX9_goes 117 = .ok (.istore_n 3, 1) := by decide +kernel
theorem dX9_goes_118 : decode cX9_goes 118 = .ok (.iinc 6 (-1), 3) := by decide +kernel
theorem dX9_goes_121 : decode cX9_goes 121 = .ok (.goto (-32), 3) := by decide +kernel
theorem dX9_goes_124 : decode cX9_goes 124 = .ok (.iinc 4 (-1), 3) := by decide +kernel
theorem dX9_goes_127 : decode cX9_goes 127 = .ok (.goto (-101), 3) := by decide +kernel
theorem dX9_goes_130 : decode cX9_goes 130 = .ok (.iload_n 1, 1) := by decide +kernel
theorem dX9_goes_131 : decode cX9_goes 131 = .ok (.iload_n 3, 1) := by decide +kernel
theorem dX9_goes_132 : decode cX9_goes 132 = .ok (.ifCond .ge 7, 3) := by decide +kernel
theorem dX9_goes_135 : decode cX9_goes 135 = .ok (.iconst 0, 1) := by decide +kernel
theorem dX9_goes_136 : decode cX9_goes 136 = .ok (.goto 18, 3) := by decide +kernel
theorem dX9_goes_139 : decode cX9_goes 139 = .ok (.aload_n 0, 1) := by decide +kernel
theorem dX9_goes_140 : decode cX9_goes 140 = .ok (.iload_n 2, 1) := by decide +kernel
theorem dX9_goes_141 : decode cX9_goes 141 = .ok (.iload_n 3, 1) := by decide +kernel
theorem dX9_goes_142 : decode cX9_goes 142 = .ok (.bipush 8, 2) := by decide +kernel
theorem dX9_goes_144 : decode cX9_goes 144 = .ok (.idiv, 1) := by decide +kernel
theorem dX9_goes_145 : decode cX9_goes 145 = .ok (.iconst 1, 1) := by decide +kernel
theorem dX9_goes_146 : decode cX9_goes 146 = .ok (.iload_n 3, 1) := by decide +kernel
theorem dX9_goes_147 : decode cX9_goes 147 = .ok (.bipush 8, 2) := by decide +kernel
theorem dX9_goes_149 : decode cX9_goes 149 = .ok (.irem, 1) := by decide +kernel
theorem dX9_goes_150 : decode cX9_goes 150 = .ok (.ishl, 1) := by decide +kernel
theorem dX9_goes_151 : decode cX9_goes 151 = .ok (.invokevirtual 157, 3) := by decide +kernel
theorem dX9_goes_154 : decode cX9_goes 154 = .ok (.iadd, 1) := by decide +kernel
theorem dX9_goes_155 : decode cX9_goes 155 = .ok (.istore_n 1, 1) := by decide +kernel
theorem dX9_goes_156 : decode cX9_goes 156 = .ok (.iinc 2 1, 3) := by decide +kernel
theorem dX9_goes_159 : decode cX9_goes 159 = .ok (.goto (-155), 3) := by decide +kernel
theorem dX9_goes_162 : decode cX9_goes 162 = .ok (.aload_n 0, 1) := by decide +kernel
theorem dX9_goes_163 : decode cX9_goes 163 = .ok (.getfield 19, 3) := by decide +kernel
theorem dX9_goes_166 : decode cX9_goes 166 = .ok (.bipush 14, 2) := by decide +kernel
theorem dX9_goes_168 : decode cX9_goes 168 = .ok (.dup2, 1) := by decide +kernel
theorem dX9_goes_169 : decode cX9_goes 169 = .ok (.iaload, 1) := by decide +kernel
theorem dX9_goes_170 : decode cX9_goes 170 = .ok (.iconst 1, 1) := by decide +kernel
theorem dX9_goes_171 : decode cX9_goes 171 = .ok (.iadd, 1) := by decide +kernel
theorem dX9_goes_172 : decode cX9_goes 172 = .ok (.iastore, 1) := by decide +kernel
theorem dX9_goes_173 : decode cX9_goes 173 = .ok (.iload_n 1, 1) := by decide +kernel
theorem dX9_goes_174 : decode cX9_goes 174 = .ok (.ireturn, 1) := by decide +kernel
set_option maxRecDepth 20000 in
theorem ggX9_day_X9_keeps : GoodIn wsX9_day wsX9_keeps := goodIn_r _ [5, 6, 7, 8, 48, 49, 50, 51, 52, 53, 54, 55, 56, 57, 58, 59, 60, 61, 62, 63, 64, 65, 66, 67] (by decide +kernel) (by decide +kernel)
set_option maxRecDepth 20000 in
theorem gX9_day_X9_keeps : GoodIn wsX9_day (wsV RX9 154 RX9 yX9_keeps wsX9_keeps) := goodIn_app (goodIn_of _ (by decide +kernel)) ggX9_day_X9_keeps
set_option maxRecDepth 20000 in
theorem ggX9_day_X9_goes : GoodIn wsX9_day wsX9_goes := goodIn_r _ [12, 13, 8, 14, 15, 16, 4, 17, 18, 19, 20, 21, 22, 23, 24, 25, 26, 27, 28, 29, 30, 31, 32, 33, 34, 35, 36, 37, 38, 39, 40, 41, 42, 43, 44, 45, 46, 47, 48, 49, 50, 51, 52, 53, 54, 55, 56, 57, 58, 59, 60, 61, 62, 63, 64, 65, 66, 67] (by decide +kernel) (by decide +kernel)
set_option maxRecDepth 20000 in
theorem gX9_day_X9_goes : GoodIn wsX9_day (wsV RX9 161 RX9 yX9_goes wsX9_goes) := goodIn_app (goodIn_of _ (by decide +kernel)) ggX9_day_X9_goes
theorem dX9_day_0 : decode cX9_day 0 = .ok (.aload_n 0, 1) := by decide +kernel
theorem dX9_day_1 : decode cX9_day 1 = .ok (.invokevirtual 154, 3) := by decide +kernel
theorem dX9_day_4 : decode cX9_day 4 = .ok (.aload_n 0, 1) := by decide +kernel
theorem dX9_day_5 : decode cX9_day 5 = .ok (.invokevirtual 161, 3) := by decide +kernel
theorem dX9_day_8 : decode cX9_day 8 = .ok (.ireturn, 1) := by decide +kernel
theorem dX9_undo_0 : decode cX9_undo 0 = .ok (.aload_n 0, 1) := by decide +kernel
theorem dX9_undo_1 : decode cX9_undo 1 = .ok (.getfield 104, 3) := by decide +kernel
theorem dX9_undo_4 : decode cX9_undo 4 = .ok (.ifCond .ne 6, 3) := by decide +kernel
theorem dX9_undo_7 : decode cX9_undo 7 = .ok (.bipush (-2), 2) := by decide +kernel
theorem dX9_undo_9 : decode cX9_undo 9 = .ok (.ireturn, 1) := by decide +kernel
theorem dX9_undo_10 : decode cX9_undo 10 = .ok (.aload_n 0, 1) := by decide +kernel
theorem dX9_undo_11 : decode cX9_undo 11 = .ok (.dup, 1) := by decide +kernel
theorem dX9_undo_12 : decode cX9_undo 12 = .ok (.getfield 104, 3) := by decide +kernel
theorem dX9_undo_15 : decode cX9_undo 15 = .ok (.iconst 1, 1) := by decide +kernel
theorem dX9_undo_16 : decode cX9_undo 16 = .ok (.isub, 1) := by decide +kernel
theorem dX9_undo_17 : decode cX9_undo 17 = .ok (.putfield 104, 3) := by decide +kernel
theorem dX9_undo_20 : decode cX9_undo 20 = .ok (.iconst 0, 1) := by decide +kernel
theorem dX9_undo_21 : decode cX9_undo 21 = .ok (.istore_n 1, 1) := by decide +kernel
theorem dX9_undo_22 : decode cX9_undo 22 = .ok (.iload_n 1, 1) := by decide +kernel
theorem dX9_undo_23 : decode cX9_undo 23 = .ok (.bipush 15, 2) := by decide +kernel
theorem dX9_undo_25 : decode cX9_undo 25 = .ok (.if_icmp .ge 29, 3) := by decide +kernel
theorem dX9_undo_28 : decode cX9_undo 28 = .ok (.aload_n 0, 1) := by decide +kernel
theorem dX9_undo_29 : decode cX9_undo 29 = .ok (.getfield 19, 3) := by decide +kernel
theorem dX9_undo_32 : decode cX9_undo 32 = .ok (.iload_n 1, 1) := by decide +kernel
theorem dX9_undo_33 : decode cX9_undo 33 = .ok (.aload_n 0, 1) := by decide +kernel
theorem dX9_undo_34 : decode cX9_undo 34 = .ok (.getfield 22, 3) := by decide +kernel
theorem dX9_undo_37 : decode cX9_undo 37 = .ok (.bipush 15, 2) := by decide +kernel
theorem dX9_undo_39 : decode cX9_undo 39 = .ok (.aload_n 0, 1) := by decide +kernel
theorem dX9_undo_40 : decode cX9_undo 40 = .ok (.getfield 104, 3) := by decide +kernel
theorem dX9_undo_43 : decode cX9_undo 43 = .ok (.imul, 1) := by decide +kernel
theorem dX9_undo_44 : decode cX9_undo 44 = .ok (.iload_n 1, 1) := by decide +kernel
theorem dX9_undo_45 : decode cX9_undo 45 = .ok (.iadd, 1) := by decide +kernel
theorem dX9_undo_46 : decode cX9_undo 46 = .ok (.iaload, 1) := by decide +kernel
theorem dX9_undo_47 : decode cX9_undo 47 = .ok (.iastore, 1) := by decide +kernel
theorem dX9_undo_48 : decode cX9_undo 48 = .ok (.iinc 1 1, 3) := by decide +kernel
theorem dX9_undo_51 : decode cX9_undo 51 = .ok (.goto (-29), 3) := by decide +kernel
theorem dX9_undo_54 : decode cX9_undo 54 = .ok (.aload_n 0, 1) := by decide +kernel
theorem dX9_undo_55 : decode cX9_undo 55 = .ok (.getfield 104, 3) := by decide +kernel
theorem dX9_undo_58 : decode cX9_undo 58 = .ok (.ireturn, 1) := by decide +kernel
theorem dX9_holds_0 : decode cX9_holds 0 = .ok (.iconst 0, 1) := by decide +kernel
theorem dX9_holds_1 : decode cX9_holds 1 = .ok (.istore_n 1, 1) := by decide +kernel
theorem dX9_holds_2 : decode cX9_holds 2 = .ok (.iload_n 1, 1) := by decide +kernel
theorem dX9_holds_3 : decode cX9_holds 3 = .ok (.bipush 15, 2) := by decide +kernel
theorem dX9_holds_5 : decode cX9_holds 5 = .ok (.if_icmp .ge 21, 3) := by decide +kernel
theorem dX9_holds_8 : decode cX9_holds 8 = .ok (.aload_n 0, 1) := by decide +kernel
theorem dX9_holds_9 : decode cX9_holds 9 = .ok (.getfield 34, 3) := by decide +kernel
theorem dX9_holds_12 : decode cX9_holds 12 = .ok (.iload_n 1, 1) := by decide +kernel
theorem dX9_holds_13 : decode cX9_holds 13 = .ok (.aload_n 0, 1) := by decide +kernel
theorem dX9_holds_14 : decode cX9_holds 14 = .ok (.getfield 19, 3) := by decide +kernel
theorem dX9_holds_17 : decode cX9_holds 17 = .ok (.iload_n 1, 1) := by decide +kernel
theorem dX9_holds_18 : decode cX9_holds 18 = .ok (.iaload, 1) := by decide +kernel
theorem dX9_holds_19 : decode cX9_holds 19 = .ok (.iastore, 1) := by decide +kernel
theorem dX9_holds_20 : decode cX9_holds 20 = .ok (.iinc 1 1, 3) := by decide +kernel
theorem dX9_holds_23 : decode cX9_holds 23 = .ok (.goto (-21), 3) := by decide +kernel
theorem dX9_holds_26 : decode cX9_holds 26 = .ok (.return_, 1) := by decide +kernel
theorem dX9_lets_0 : decode cX9_lets 0 = .ok (.iconst 0, 1) := by decide +kernel
theorem dX9_lets_1 : decode cX9_lets 1 = .ok (.istore_n 1, 1) := by decide +kernel
theorem dX9_lets_2 : decode cX9_lets 2 = .ok (.iload_n 1, 1) := by decide +kernel
theorem dX9_lets_3 : decode cX9_lets 3 = .ok (.bipush 15, 2) := by decide +kernel
theorem dX9_lets_5 : decode cX9_lets 5 = .ok (.if_icmp .ge 21, 3) := by decide +kernel
theorem dX9_lets_8 : decode cX9_lets 8 = .ok (.aload_n 0, 1) := by decide +kernel
theorem dX9_lets_9 : decode cX9_lets 9 = .ok (.getfield 19, 3) := by decide +kernel
theorem dX9_lets_12 : decode cX9_lets 12 = .ok (.iload_n 1, 1) := by decide +kernel
theorem dX9_lets_13 : decode cX9_lets 13 = .ok (.aload_n 0, 1) := by decide +kernel
theorem dX9_lets_14 : decode cX9_lets 14 = .ok (.getfield 34, 3) := by decide +kernel
theorem dX9_lets_17 : decode cX9_lets 17 = .ok (.iload_n 1, 1) := by decide +kernel
theorem dX9_lets_18 : decode cX9_lets 18 = .ok (.iaload, 1) := by decide +kernel
theorem dX9_lets_19 : decode cX9_lets 19 = .ok (.iastore, 1) := by decide +kernel
theorem dX9_lets_20 : decode cX9_lets 20 = .ok (.iinc 1 1, 3) := by decide +kernel
theorem dX9_lets_23 : decode cX9_lets 23 = .ok (.goto (-21), 3) := by decide +kernel
theorem dX9_lets_26 : decode cX9_lets 26 = .ok (.return_, 1) := by decide +kernel
set_option maxRecDepth 20000 in
theorem ggX9_gossip_X9_in : GoodIn wsX9_gossip wsX9_in := goodIn_r _ [5] (by decide +kernel) (by decide +kernel)
set_option maxRecDepth 20000 in
theorem gX9_gossip_X9_in : GoodIn wsX9_gossip (va_wsS RX9 62 yX9_in wsX9_in) := goodIn_app (goodIn_of _ (by decide +kernel)) ggX9_gossip_X9_in
set_option maxRecDepth 20000 in
theorem ggX9_gossip_X9_isPerson : GoodIn wsX9_gossip wsX9_isPerson := goodIn_r _ [9, 10, 2, 3, 4, 5, 62, 63, 64, 65, 66, 67, 68, 69, 70, 71, 72, 73, 74, 75, 76, 77, 78, 79, 80, 81] (by decide +kernel) (by decide +kernel)
set_option maxRecDepth 20000 in
theorem gX9_gossip_X9_isPerson : GoodIn wsX9_gossip (wsV RX9 126 RX9 yX9_isPerson wsX9_isPerson) := goodIn_app (goodIn_of _ (by decide +kernel)) ggX9_gossip_X9_isPerson
set_option maxRecDepth 20000 in
theorem ggX9_gossip_X9_holds : GoodIn wsX9_gossip wsX9_holds := goodIn_r _ [14, 15, 1, 62, 63, 64, 65, 66, 67, 68, 69, 70, 71, 72, 73, 74, 75, 76, 77, 78, 79, 80, 81] (by decide +kernel) (by decide +kernel)
set_option maxRecDepth 20000 in
theorem gX9_gossip_X9_holds : GoodIn wsX9_gossip (wsV RX9 164 RX9 yX9_holds wsX9_holds) := goodIn_app (goodIn_of _ (by decide +kernel)) ggX9_gossip_X9_holds
set_option maxRecDepth 20000 in
theorem ggX9_gossip_X9_goes : GoodIn wsX9_gossip wsX9_goes := goodIn_r _ [19, 10, 1, 20, 21, 22, 4, 23, 24, 25, 26, 27, 28, 29, 30, 31, 32, 33, 34, 35, 36, 37, 38, 39, 40, 41, 42, 43, 44, 45, 46, 47, 48, 49, 50, 51, 52, 53, 62, 63, 64, 65, 66, 67, 68, 69, 70, 71, 72, 73, 74, 75, 76, 77, 78, 79, 80, 81] (by decide +kernel) (by decide +kernel)
set_option maxRecDepth 20000 in
theorem gX9_gossip_X9_goes : GoodIn wsX9_gossip (wsV RX9 161 RX9 yX9_goes wsX9_goes) := goodIn_app (goodIn_of _ (by decide +kernel)) ggX9_gossip_X9_goes
set_option maxRecDepth 20000 in
theorem ggX9_gossip_X9_knownBy : GoodIn wsX9_gossip wsX9_knownBy := goodIn_r _ [57, 10, 20, 21, 22, 4, 23, 1, 62, 63, 64, 65, 66, 67, 68, 69, 70, 71, 72, 73, 74, 75, 76, 77, 78, 79, 80, 81] (by decide +kernel) (by decide +kernel)
set_option maxRecDepth 20000 in
theorem gX9_gossip_X9_knownBy : GoodIn wsX9_gossip (wsV RX9 132 RX9 yX9_knownBy wsX9_knownBy) := goodIn_app (goodIn_of _ (by decide +kernel)) ggX9_gossip_X9_knownBy
set_option maxRecDepth 20000 in
theorem ggX9_gossip_X9_lets : GoodIn wsX9_gossip wsX9_lets := goodIn_r _ [61, 1, 15, 62, 63, 64, 65, 66, 67, 68, 69, 70, 71, 72, 73, 74, 75, 76, 77, 78, 79, 80, 81] (by decide +kernel) (by decide +kernel)
set_option maxRecDepth 20000 in
theorem gX9_gossip_X9_lets : GoodIn wsX9_gossip (wsV RX9 167 RX9 yX9_lets wsX9_lets) := goodIn_app (goodIn_of _ (by decide +kernel)) ggX9_gossip_X9_lets
theorem dX9_gossip_0 : decode cX9_gossip 0 = .ok (.iload_n 1, 1) := by decide +kernel
theorem dX9_gossip_1 : decode cX9_gossip 1 = .ok (.iconst 0, 1) := by decide +kernel
theorem dX9_gossip_2 : decode cX9_gossip 2 = .ok (.bipush 60, 2) := by decide +kernel
theorem dX9_gossip_4 : decode cX9_gossip 4 = .ok (.invokestatic 62, 3) := by decide +kernel
theorem dX9_gossip_7 : decode cX9_gossip 7 = .ok (.ifCond .eq 20, 3) := by decide +kernel
theorem dX9_gossip_10 : decode cX9_gossip 10 = .ok (.aload_n 0, 1) := by decide +kernel
theorem dX9_gossip_11 : decode cX9_gossip 11 = .ok (.iload_n 2, 1) := by decide +kernel
theorem dX9_gossip_12 : decode cX9_gossip 12 = .ok (.invokevirtual 126, 3) := by decide +kernel
theorem dX9_gossip_15 : decode cX9_gossip 15 = .ok (.ifCond .eq 12, 3) := by decide +kernel
theorem dX9_gossip_18 : decode cX9_gossip 18 = .ok (.iload_n 3, 1) := by decide +kernel
theorem dX9_gossip_19 : decode cX9_gossip 19 = .ok (.iconst 0, 1) := by decide +kernel
theorem dX9_gossip_20 : decode cX9_gossip 20 = .ok (.iconst 1, 1) := by decide +kernel
theorem dX9_gossip_21 : decode cX9_gossip 21 = .ok (.invokestatic 62, 3) := by decide +kernel
theorem dX9_gossip_24 : decode cX9_gossip 24 = .ok (.ifCond .ne 5, 3) := by decide +kernel
theorem dX9_gossip_27 : decode cX9_gossip 27 = .ok (.iconst (-1), 1) := by decide +kernel
theorem dX9_gossip_28 : decode cX9_gossip 28 = .ok (.ireturn, 1) := by decide +kernel
theorem dX9_gossip_29 : decode cX9_gossip 29 = .ok (.aload_n 0, 1) := by decide +kernel
theorem dX9_gossip_30 : decode cX9_gossip 30 = .ok (.invokevirtual 164, 3) := by decide +kernel
theorem dX9_gossip_33 : decode cX9_gossip 33 = .ok (.iconst 0, 1) := by decide +kernel
theorem dX9_gossip_34 : decode cX9_gossip 34 = .ok (.istore 4, 2) := by decide +kernel
theorem dX9_gossip_36 : decode cX9_gossip 36 = .ok (.iload 4, 2) := by decide +kernel
theorem dX9_gossip_38 : decode cX9_gossip 38 = .ok (.iload_n 1, 1) := by decide +kernel
theorem dX9_gossip_39 : decode cX9_gossip 39 = .ok (.if_icmp .ge 14, 3) := by decide +kernel
theorem dX9_gossip_42 : decode cX9_gossip 42 = .ok (.aload_n 0, 1) := by decide +kernel
theorem dX9_gossip_43 : decode cX9_gossip 43 = .ok (.invokevirtual 161, 3) := by decide +kernel
theorem dX9_gossip_46 : decode cX9_gossip 46 = .ok (.pop, 1) := by decide +kernel
theorem dX9_gossip_47 : decode cX9_gossip 47 = .ok (.iinc 4 1, 3) := by decide +kernel
theorem dX9_gossip_50 : decode cX9_gossip 50 = .ok (.goto (-14), 3) := by decide +kernel
theorem dX9_gossip_53 : decode cX9_gossip 53 = .ok (.iload_n 3, 1) := by decide +kernel
theorem dX9_gossip_54 : decode cX9_gossip 54 = .ok (.ifCond .ne 12, 3) := by decide +kernel
theorem dX9_gossip_57 : decode cX9_gossip 57 = .ok (.aload_n 0, 1) := by decide +kernel
theorem dX9_gossip_58 : decode cX9_gossip 58 = .ok (.getfield 19, 3) := by decide +kernel
theorem dX9_gossip_61 : decode cX9_gossip 61 = .ok (.iload_n 2, 1) := by decide +kernel
theorem dX9_gossip_62 : decode cX9_gossip 62 = .ok (.iaload, 1) := by decide +kernel
theorem dX9_gossip_63 : decode cX9_gossip 63 = .ok (.goto 8, 3) := by decide +kernel
theorem dX9_gossip_66 : decode cX9_gossip 66 = .ok (.aload_n 0, 1) := by decide +kernel
theorem dX9_gossip_67 : decode cX9_gossip 67 = .ok (.iload_n 2, 1) := by decide +kernel
theorem dX9_gossip_68 : decode cX9_gossip 68 = .ok (.invokevirtual 132, 3) := by decide +kernel
theorem dX9_gossip_71 : decode cX9_gossip 71 = .ok (.istore 4, 2) := by decide +kernel
theorem dX9_gossip_73 : decode cX9_gossip 73 = .ok (.aload_n 0, 1) := by decide +kernel
theorem dX9_gossip_74 : decode cX9_gossip 74 = .ok (.invokevirtual 167, 3) := by decide +kernel
theorem dX9_gossip_77 : decode cX9_gossip 77 = .ok (.iload 4, 2) := by decide +kernel
theorem dX9_gossip_79 : decode cX9_gossip 79 = .ok (.ireturn, 1) := by decide +kernel
set_option maxRecDepth 20000 in
theorem ggX9_first_X9_in : GoodIn wsX9_first wsX9_in := goodIn_r _ [5] (by decide +kernel) (by decide +kernel)
set_option maxRecDepth 20000 in
theorem gX9_first_X9_in : GoodIn wsX9_first (va_wsS RX9 62 yX9_in wsX9_in) := goodIn_app (goodIn_of _ (by decide +kernel)) ggX9_first_X9_in
set_option maxRecDepth 20000 in
theorem ggX9_first_X9_holds : GoodIn wsX9_first wsX9_holds := goodIn_r _ [9, 10, 11, 54, 55, 56, 57, 58, 59, 60, 61, 62, 63, 64, 65, 66, 67, 68, 69, 70, 71, 72, 73] (by decide +kernel) (by decide +kernel)
set_option maxRecDepth 20000 in
theorem gX9_first_X9_holds : GoodIn wsX9_first (wsV RX9 164 RX9 yX9_holds wsX9_holds) := goodIn_app (goodIn_of _ (by decide +kernel)) ggX9_first_X9_holds
set_option maxRecDepth 20000 in
theorem ggX9_first_X9_alive : GoodIn wsX9_first wsX9_alive := goodIn_r _ [15, 1, 16, 17, 18, 4, 19, 11, 54, 55, 56, 57, 58, 59, 60, 61, 62, 63, 64, 65, 66, 67, 68, 69, 70, 71, 72, 73] (by decide +kernel) (by decide +kernel)
set_option maxRecDepth 20000 in
theorem gX9_first_X9_alive : GoodIn wsX9_first (wsV RX9 119 RX9 yX9_alive wsX9_alive) := goodIn_app (goodIn_of _ (by decide +kernel)) ggX9_first_X9_alive
set_option maxRecDepth 20000 in
theorem ggX9_first_X9_goes : GoodIn wsX9_first wsX9_goes := goodIn_r _ [23, 1, 11, 24, 25, 26, 4, 27, 28, 29, 30, 31, 16, 17, 18, 19, 12, 13, 14, 15, 32, 33, 34, 35, 36, 37, 38, 39, 40, 41, 42, 43, 44, 45, 46, 47, 48, 49, 54, 55, 56, 57, 58, 59, 60, 61, 62, 63, 64, 65, 66, 67, 68, 69, 70, 71, 72, 73] (by decide +kernel) (by decide +kernel)
set_option maxRecDepth 20000 in
theorem gX9_first_X9_goes : GoodIn wsX9_first (wsV RX9 161 RX9 yX9_goes wsX9_goes) := goodIn_app (goodIn_of _ (by decide +kernel)) ggX9_first_X9_goes
set_option maxRecDepth 20000 in
theorem ggX9_first_X9_lets : GoodIn wsX9_first wsX9_lets := goodIn_r _ [53, 11, 10, 54, 55, 56, 57, 58, 59, 60, 61, 62, 63, 64, 65, 66, 67, 68, 69, 70, 71, 72, 73] (by decide +kernel) (by decide +kernel)
set_option maxRecDepth 20000 in
theorem gX9_first_X9_lets : GoodIn wsX9_first (wsV RX9 167 RX9 yX9_lets wsX9_lets) := goodIn_app (goodIn_of _ (by decide +kernel)) ggX9_first_X9_lets
theorem dX9_first_0 : decode cX9_first 0 = .ok (.iload_n 1, 1) := by decide +kernel
theorem dX9_first_1 : decode cX9_first 1 = .ok (.iconst 0, 1) := by decide +kernel
theorem dX9_first_2 : decode cX9_first 2 = .ok (.iconst 1, 1) := by decide +kernel
theorem dX9_first_3 : decode cX9_first 3 = .ok (.invokestatic 62, 3) := by decide +kernel
theorem dX9_first_6 : decode cX9_first 6 = .ok (.ifCond .ne 5, 3) := by decide +kernel
theorem dX9_first_9 : decode cX9_first 9 = .ok (.iconst (-1), 1) := by decide +kernel
theorem dX9_first_10 : decode cX9_first 10 = .ok (.ireturn, 1) := by decide +kernel
theorem dX9_first_11 : decode cX9_first 11 = .ok (.aload_n 0, 1) := by decide +kernel
theorem dX9_first_12 : decode cX9_first 12 = .ok (.invokevirtual 164, 3) := by decide +kernel
theorem dX9_first_15 : decode cX9_first 15 = .ok (.bipush (-4), 2) := by decide +kernel
theorem dX9_first_17 : decode cX9_first 17 = .ok (.istore_n 2, 1) := by decide +kernel
theorem dX9_first_18 : decode cX9_first 18 = .ok (.iconst 1, 1) := by decide +kernel
theorem dX9_first_19 : decode cX9_first 19 = .ok (.istore_n 3, 1) := by decide +kernel
theorem dX9_first_20 : decode cX9_first 20 = .ok (.iload_n 3, 1) := by decide +kernel
theorem dX9_first_21 : decode cX9_first 21 = .ok (.bipush 61, 2) := by decide +kernel
theorem dX9_first_23 : decode cX9_first 23 = .ok (.if_icmp .ge 84, 3) := by decide +kernel
theorem dX9_first_26 : decode cX9_first 26 = .ok (.iload_n 2, 1) := by decide +kernel
theorem dX9_first_27 : decode cX9_first 27 = .ok (.bipush (-4), 2) := by decide +kernel
theorem dX9_first_29 : decode cX9_first 29 = .ok (.if_icmp .ne 78, 3) := by decide +kernel
theorem dX9_first_32 : decode cX9_first 32 = .ok (.aload_n 0, 1) := by decide +kernel
theorem dX9_first_33 : decode cX9_first 33 = .ok (.invokevirtual 119, 3) := by decide +kernel
theorem dX9_first_36 : decode cX9_first 36 = .ok (.istore 4, 2) := by decide +kernel
theorem dX9_first_38 : decode cX9_first 38 = .ok (.aload_n 0, 1) := by decide +kernel
theorem dX9_first_39 : decode cX9_first 39 = .ok (.invokevirtual 161, 3) := by decide +kernel
theorem dX9_first_42 : decode cX9_first 42 = .ok (.pop, 1) := by decide +kernel
theorem dX9_first_43 : decode cX9_first 43 = .ok (.iload 4, 2) := by decide +kernel
theorem dX9_first_45 : decode cX9_first 45 = .ok (.aload_n 0, 1) := by decide +kernel
theorem dX9_first_46 : decode cX9_first 46 = .ok (.invokevirtual 119, 3) := by decide +kernel
theorem dX9_first_49 : decode cX9_first 49 = .ok (.iconst (-1), 1) := by decide +kernel
theorem dX9_first_50 : decode cX9_first 50 = .ok (.ixor, 1) := by decide +kernel
theorem dX9_first_51 : decode cX9_first 51 = .ok (.iand, 1) := by decide +kernel
theorem dX9_first_52 : decode cX9_first 52 = .ok (.istore 5, 2) := by decide +kernel
theorem dX9_first_54 : decode cX9_first 54 = .ok (.aload_n 0, 1) := by decide +kernel
theorem dX9_first_55 : decode cX9_first 55 = .ok (.getfield 13, 3) := by decide +kernel
theorem dX9_first_58 : decode cX9_first 58 = .ok (.iconst 0, 1) := by decide +kernel
theorem dX9_first_59 : decode cX9_first 59 = .ok (.iaload, 1) := by decide +kernel
theorem dX9_first_60 : decode cX9_first 60 = .ok (.iconst 1, 1) := by decide +kernel
theorem dX9_first_61 : decode cX9_first 61 = .ok (.isub, 1) := by decide +kernel
theorem dX9_first_62 : decode cX9_first 62 = .ok (.istore 6, 2) := by decide +kernel
theorem dX9_first_64 : decode cX9_first 64 = .ok (.iload 6, 2) := by decide +kernel
theorem dX9_first_66 : decode cX9_first 66 = .ok (.ifCond .lt 35, 3) := by decide +kernel
theorem dX9_first_69 : decode cX9_first 69 = .ok (.iload 5, 2) := by decide +kernel
theorem dX9_first_71 : decode cX9_first 71 = .ok (.iload 6, 2) := by decide +kernel
theorem dX9_first_73 : decode cX9_first 73 = .ok (.ishr, 1) := by decide +kernel
theorem dX9_first_74 : decode cX9_first 74 = .ok (.iconst 1, 1) := by decide +kernel
theorem dX9_first_75 : decode cX9_first 75 = .ok (.iand, 1) := by decide +kernel
theorem dX9_first_76 : decode cX9_first 76 = .ok (.iconst 1, 1) := by decide +kernel
theorem dX9_first_77 : decode cX9_first 77 = .ok (.if_icmp .ne 16, 3) := by decide +kernel
theorem dX9_first_80 : decode cX9_first 80 = .ok (.iload_n 1, 1) := by decide +kernel
theorem dX9_first_81 : decode cX9_first 81 = .ok (.ifCond .ne 8, 3) := by decide +kernel
theorem dX9_first_84 : decode cX9_first 84 = .ok (.iload 6, 2) := by decide +kernel
theorem dX9_first_86 : decode cX9_first 86 = .ok (.goto 8, 3) := by decide +kernel
theorem dX9_first_89 : decode cX9_first 89 = .ok (.iload_n 3, 1) := by decide +kernel
theorem dX9_first_90 : decode cX9_first 90 = .ok (.goto 4, 3) := by decide +kernel
theorem dX9_first_93 : decode cX9_first 93 = .ok (.iload_n 2, 1) := by decide +kernel
theorem dX9_first_94 : decode cX9_first 94 = .ok (.istore_n 2, 1) := by decide +kernel
theorem dX9_first_95 : decode cX9_first 95 = .ok (.iinc 6 (-1), 3) := by decide +kernel
theorem dX9_first_98 : decode cX9_first 98 = .ok (.goto (-34), 3) := by decide +kernel
theorem dX9_first_101 : decode cX9_first 101 = .ok (.iinc 3 1, 3) := by decide +kernel
theorem dX9_first_104 : decode cX9_first 104 = .ok (.goto (-84), 3) := by decide +kernel
theorem dX9_first_107 : decode cX9_first 107 = .ok (.aload_n 0, 1) := by decide +kernel
theorem dX9_first_108 : decode cX9_first 108 = .ok (.invokevirtual 167, 3) := by decide +kernel
theorem dX9_first_111 : decode cX9_first 111 = .ok (.iload_n 2, 1) := by decide +kernel
theorem dX9_first_112 : decode cX9_first 112 = .ok (.ireturn, 1) := by decide +kernel
set_option maxRecDepth 20000 in
theorem ggX9_reaches_X9_knows : GoodIn wsX9_reaches wsX9_knows := goodIn_r _ [8, 2, 35, 36, 37, 38, 39, 40, 41, 42, 43, 44, 45, 46, 47, 48, 49, 50, 51, 52, 53, 54] (by decide +kernel) (by decide +kernel)
set_option maxRecDepth 20000 in
theorem gX9_reaches_X9_knows : GoodIn wsX9_reaches (wsV RX9 122 RX9 yX9_knows wsX9_knows) := goodIn_app (goodIn_of _ (by decide +kernel)) ggX9_reaches_X9_knows
set_option maxRecDepth 20000 in
theorem ggX9_reaches_X9_alive : GoodIn wsX9_reaches wsX9_alive := goodIn_r _ [12, 1, 13, 14, 15, 7, 16, 2, 35, 36, 37, 38, 39, 40, 41, 42, 43, 44, 45, 46, 47, 48, 49, 50, 51, 52, 53, 54] (by decide +kernel) (by decide +kernel)
set_option maxRecDepth 20000 in
theorem gX9_reaches_X9_alive : GoodIn wsX9_reaches (wsV RX9 119 RX9 yX9_alive wsX9_alive) := goodIn_app (goodIn_of _ (by decide +kernel)) ggX9_reaches_X9_alive
set_option maxRecDepth 20000 in
theorem ggX9_reaches_X9_shades : GoodIn wsX9_reaches wsX9_shades := goodIn_r _ [20, 1, 21, 22, 23, 7, 24, 2, 25, 26, 27, 4, 5, 6, 8, 28, 29, 30, 13, 14, 15, 16, 35, 36, 37, 38, 39, 40, 41, 42, 43, 44, 45, 46, 47, 48, 49, 50, 51, 52, 53, 54] (by decide +kernel) (by decide +kernel)
set_option maxRecDepth 20000 in
theorem gX9_reaches_X9_shades : GoodIn wsX9_reaches (wsV RX9 151 RX9 yX9_shades wsX9_shades) := goodIn_app (goodIn_of _ (by decide +kernel)) ggX9_reaches_X9_shades
set_option maxRecDepth 20000 in
theorem ggX9_reaches_X9_met : GoodIn wsX9_reaches wsX9_met := goodIn_r _ [34, 1, 13, 14, 15, 7, 16, 2, 9, 10, 11, 12, 35, 36, 37, 38, 39, 40, 41, 42, 43, 44, 45, 46, 47, 48, 49, 50, 51, 52, 53, 54] (by decide +kernel) (by decide +kernel)
set_option maxRecDepth 20000 in
theorem gX9_reaches_X9_met : GoodIn wsX9_reaches (wsV RX9 129 RX9 yX9_met wsX9_met) := goodIn_app (goodIn_of _ (by decide +kernel)) ggX9_reaches_X9_met
theorem dX9_reaches_0 : decode cX9_reaches 0 = .ok (.aload_n 0, 1) := by decide +kernel
theorem dX9_reaches_1 : decode cX9_reaches 1 = .ok (.iload_n 2, 1) := by decide +kernel
theorem dX9_reaches_2 : decode cX9_reaches 2 = .ok (.iload_n 1, 1) := by decide +kernel
theorem dX9_reaches_3 : decode cX9_reaches 3 = .ok (.invokevirtual 122, 3) := by decide +kernel
theorem dX9_reaches_6 : decode cX9_reaches 6 = .ok (.ifCond .eq 5, 3) := by decide +kernel
theorem dX9_reaches_9 : decode cX9_reaches 9 = .ok (.iconst 0, 1) := by decide +kernel
theorem dX9_reaches_10 : decode cX9_reaches 10 = .ok (.ireturn, 1) := by decide +kernel
theorem dX9_reaches_11 : decode cX9_reaches 11 = .ok (.bipush (-4), 2) := by decide +kernel
theorem dX9_reaches_13 : decode cX9_reaches 13 = .ok (.istore_n 3, 1) := by decide +kernel
theorem dX9_reaches_14 : decode cX9_reaches 14 = .ok (.iconst 1, 1) := by decide +kernel
theorem dX9_reaches_15 : decode cX9_reaches 15 = .ok (.istore 4, 2) := by decide +kernel
theorem dX9_reaches_17 : decode cX9_reaches 17 = .ok (.iload 4, 2) := by decide +kernel
theorem dX9_reaches_19 : decode cX9_reaches 19 = .ok (.iconst 1, 1) := by decide +kernel
theorem dX9_reaches_20 : decode cX9_reaches 20 = .ok (.aload_n 0, 1) := by decide +kernel
theorem dX9_reaches_21 : decode cX9_reaches 21 = .ok (.getfield 13, 3) := by decide +kernel
theorem dX9_reaches_24 : decode cX9_reaches 24 = .ok (.iconst 0, 1) := by decide +kernel
theorem dX9_reaches_25 : decode cX9_reaches 25 = .ok (.iaload, 1) := by decide +kernel
theorem dX9_reaches_26 : decode cX9_reaches 26 = .ok (.ishl, 1) := by decide +kernel
theorem dX9_reaches_27 : decode cX9_reaches 27 = .ok (.if_icmp .ge 339, 3) := by decide +kernel
theorem dX9_reaches_30 : decode cX9_reaches 30 = .ok (.iload 4, 2) := by decide +kernel
theorem dX9_reaches_32 : decode cX9_reaches 32 = .ok (.aload_n 0, 1) := by decide +kernel
theorem dX9_reaches_33 : decode cX9_reaches 33 = .ok (.getfield 19, 3) := by decide +kernel
theorem dX9_reaches_36 : decode cX9_reaches 36 = .ok (.bipush 6, 2) := by decide +kernel
theorem dX9_reaches_38 : decode cX9_reaches 38 = .ok (.iload_n 1, 1) := by decide +kernel
theorem dX9_reaches_39 : decode cX9_reaches 39 = .ok (.iadd, 1) := by decide +kernel
theorem dX9_reaches_40 : decode cX9_reaches 40 = .ok (.iaload, 1) := by decide +kernel
theorem dX9_reaches_41 : decode cX9_reaches 41 = .ok (.iand, 1) := by decide +kernel
theorem dX9_reaches_42 : decode cX9_reaches 42 = .ok (.ifCond .ne 19, 3) := by decide +kernel
theorem dX9_reaches_45 : decode cX9_reaches 45 = .ok (.iload 4, 2) := by decide +kernel
theorem dX9_reaches_47 : decode cX9_reaches 47 = .ok (.aload_n 0, 1) := by decide +kernel
theorem dX9_reaches_48 : decode cX9_reaches 48 = .ok (.invokevirtual 119, 3) := by decide +kernel
theorem dX9_reaches_51 : decode cX9_reaches 51 = .ok (.iconst (-1), 1) := by decide +kernel
theorem dX9_reaches_52 : decode cX9_reaches 52 = .ok (.ixor, 1) := by decide +kernel
theorem dX9_reaches_53 : decode cX9_reaches 53 = .ok (.iand, 1) := by decide +kernel
theorem dX9_reaches_54 : decode cX9_reaches 54 = .ok (.ifCond .ne 7, 3) := by decide +kernel
theorem dX9_reaches_57 : decode cX9_reaches 57 = .ok (.iconst 1, 1) := by decide +kernel
theorem dX9_reaches_58 : decode cX9_reaches 58 = .ok (.goto 4, 3) := by decide +kernel
theorem dX9_reaches_61 : decode cX9_reaches 61 = .ok (.iconst 0, 1) := by decide +kernel
theorem dX9_reaches_62 : decode cX9_reaches 62 = .ok (.istore 5, 2) := by decide +kernel
theorem dX9_reaches_64 : decode cX9_reaches 64 = .ok (.iload 5, 2) := by decide +kernel
theorem dX9_reaches_66 : decode cX9_reaches 66 = .ok (.ifCond .eq 13, 3) := by decide +kernel
theorem dX9_reaches_69 : decode cX9_reaches 69 = .ok (.aload_n 0, 1) := by decide +kernel
theorem dX9_reaches_70 : decode cX9_reaches 70 = .ok (.iload_n 1, 1) := by decide +kernel
theorem dX9_reaches_71 : decode cX9_reaches 71 = .ok (.iload 4, 2) := by decide +kernel
theorem dX9_reaches_73 : decode cX9_reaches 73 = .ok (.invokevirtual 151, 3) := by decide +kernel
theorem dX9_reaches_76 : decode cX9_reaches 76 = .ok (.goto 4, 3) := by decide +kernel
theorem dX9_reaches_79 : decode cX9_reaches 79 = .ok (.iconst 0, 1) := by decide +kernel
theorem dX9_reaches_80 : decode cX9_reaches 80 = .ok (.istore 6, 2) := by decide +kernel
theorem dX9_reaches_82 : decode cX9_reaches 82 = .ok (.iconst 0, 1) := by decide +kernel
theorem dX9_reaches_83 : decode cX9_reaches 83 = .ok (.istore 7, 2) := by decide +kernel
theorem dX9_reaches_85 : decode cX9_reaches 85 = .ok (.iload 7, 2) := by decide +kernel
theorem dX9_reaches_87 : decode cX9_reaches 87 = .ok (.aload_n 0, 1) := by decide +kernel
theorem dX9_reaches_88 : decode cX9_reaches 88 = .ok (.getfield 13, 3) := by decide +kernel
theorem dX9_reaches_91 : decode cX9_reaches 91 = .ok (.iconst 0, 1) := by decide +kernel
theorem dX9_reaches_92 : decode cX9_reaches 92 = .ok (.iaload, 1) := by decide +kernel
theorem dX9_reaches_93 : decode cX9_reaches 93 = .ok (.if_icmp .ge 207, 3) := by decide +kernel
theorem dX9_reaches_96 : decode cX9_reaches 96 = .ok (.aload_n 0, 1) := by decide +kernel
theorem dX9_reaches_97 : decode cX9_reaches 97 = .ok (.getfield 13, 3) := by decide +kernel
theorem dX9_reaches_100 : decode cX9_reaches 100 = .ok (.bipush 9, 2) := by decide +kernel
theorem dX9_reaches_102 : decode cX9_reaches 102 = .ok (.iload 7, 2) := by decide +kernel
theorem dX9_reaches_104 : decode cX9_reaches 104 = .ok (.iadd, 1) := by decide +kernel
theorem dX9_reaches_105 : decode cX9_reaches 105 = .ok (.iaload, 1) := by decide +kernel
theorem dX9_reaches_106 : decode cX9_reaches 106 = .ok (.iconst 4, 1) := by decide +kernel
theorem dX9_reaches_107 : decode cX9_reaches 107 = .ok (.if_icmp .ne 7, 3) := by decide +kernel
theorem dX9_reaches_110 : decode cX9_reaches 110 = .ok (.iconst 1, 1) := by decide +kernel
theorem dX9_reaches_111 : decode cX9_reaches 111 = .ok (.goto 4, 3) := by decide +kernel
theorem dX9_reaches_114 : decode cX9_reaches 114 = .ok (.iconst 0, 1) := by decide +kernel
theorem dX9_reaches_115 : decode cX9_reaches 115 = .ok (.istore 8, 2) := by decide +kernel
theorem dX9_reaches_117 : decode cX9_reaches 117 = .ok (.iconst (-1), 1) := by decide +kernel
theorem dX9_reaches_118 : decode cX9_reaches 118 = .ok (.istore 9, 2) := by decide +kernel
theorem dX9_reaches_120 : decode cX9_reaches 120 = .ok (.iload 5, 2) := by decide +kernel
theorem dX9_reaches_122 : decode cX9_reaches 122 = .ok (.ifCond .eq 157, 3) := by decide +kernel
theorem dX9_reaches_125 : decode cX9_reaches 125 = .ok (.iload 4, 2) := by decide +kernel
theorem dX9_reaches_127 : decode cX9_reaches 127 = .ok (.iload 7, 2) := by decide +kernel
theorem dX9_reaches_129 : decode cX9_reaches 129 = .ok (.ishr, 1) := by decide +kernel
theorem dX9_reaches_130 : decode cX9_reaches 130 = .ok (.iconst 1, 1) := by decide +kernel
theorem dX9_reaches_131 : decode cX9_reaches 131 = .ok (.iand, 1) := by decide +kernel
theorem dX9_reaches_132 : decode cX9_reaches 132 = .ok (.iconst 1, 1) := by decide +kernel
theorem dX9_reaches_133 : decode cX9_reaches 133 = .ok (.if_icmp .ne 146, 3) := by decide +kernel
theorem dX9_reaches_136 : decode cX9_reaches 136 = .ok (.iload 4, 2) := by decide +kernel
theorem dX9_reaches_138 : decode cX9_reaches 138 = .ok (.iconst 1, 1) := by decide +kernel
theorem dX9_reaches_139 : decode cX9_reaches 139 = .ok (.iload 7, 2) := by decide +kernel
theorem dX9_reaches_141 : decode cX9_reaches 141 = .ok (.ishl, 1) := by decide +kernel
theorem dX9_reaches_142 : decode cX9_reaches 142 = .ok (.ixor, 1) := by decide +kernel
theorem dX9_reaches_143 : decode cX9_reaches 143 = .ok (.istore 10, 2) := by decide +kernel
theorem dX9_reaches_145 : decode cX9_reaches 145 = .ok (.iload 10, 2) := by decide +kernel
theorem dX9_reaches_147 : decode cX9_reaches 147 = .ok (.ifCond .ne 27, 3) := by decide +kernel
theorem dX9_reaches_150 : decode cX9_reaches 150 = .ok (.aload_n 0, 1) := by decide +kernel
theorem dX9_reaches_151 : decode cX9_reaches 151 = .ok (.iload 7, 2) := by decide +kernel
theorem dX9_reaches_153 : decode cX9_reaches 153 = .ok (.invokevirtual 129, 3) := by decide +kernel
theorem dX9_reaches_156 : decode cX9_reaches 156 = .ok (.aload_n 0, 1) := by decide +kernel
theorem dX9_reaches_157 : decode cX9_reaches 157 = .ok (.getfield 19, 3) := by decide +kernel
theorem dX9_reaches_160 : decode cX9_reaches 160 = .ok (.bipush 6, 2) := by decide +kernel
theorem dX9_reaches_162 : decode cX9_reaches 162 = .ok (.iload_n 1, 1) := by decide +kernel
theorem dX9_reaches_163 : decode cX9_reaches 163 = .ok (.iadd, 1) := by decide +kernel
theorem dX9_reaches_164 : decode cX9_reaches 164 = .ok (.iaload, 1) := by decide +kernel
theorem dX9_reaches_165 : decode cX9_reaches 165 = .ok (.iand, 1) := by decide +kernel
theorem dX9_reaches_166 : decode cX9_reaches 166 = .ok (.ifCond .eq 8, 3) := by decide +kernel
theorem dX9_reaches_169 : decode cX9_reaches 169 = .ok (.iload 8, 2) := by decide +kernel
theorem dX9_reaches_171 : decode cX9_reaches 171 = .ok (.goto 4, 3) := by decide +kernel
theorem dX9_reaches_174 : decode cX9_reaches 174 = .ok (.iconst (-1), 1) := by decide +kernel
theorem dX9_reaches_175 : decode cX9_reaches 175 = .ok (.istore 9, 2) := by decide +kernel
theorem dX9_reaches_177 : decode cX9_reaches 177 = .ok (.iconst 0, 1) := by decide +kernel
theorem dX9_reaches_178 : decode cX9_reaches 178 = .ok (.istore 11, 2) := by decide +kernel
theorem dX9_reaches_180 : decode cX9_reaches 180 = .ok (.iload 11, 2) := by decide +kernel
theorem dX9_reaches_182 : decode cX9_reaches 182 = .ok (.aload_n 0, 1) := by decide +kernel
theorem dX9_reaches_183 : decode cX9_reaches 183 = .ok (.getfield 13, 3) := by decide +kernel
theorem dX9_reaches_186 : decode cX9_reaches 186 = .ok (.iconst 0, 1) := by decide +kernel
theorem dX9_reaches_187 : decode cX9_reaches 187 = .ok (.iaload, 1) := by decide +kernel
theorem dX9_reaches_188 : decode cX9_reaches 188 = .ok (.if_icmp .ge 91, 3) := by decide +kernel
theorem dX9_reaches_191 : decode cX9_reaches 191 = .ok (.iload 10, 2) := by decide +kernel
theorem dX9_reaches_193 : decode cX9_reaches 193 = .ok (.ifCond .eq 86, 3) := by decide +kernel
theorem dX9_reaches_196 : decode cX9_reaches 196 = .ok (.iload 10, 2) := by decide +kernel
theorem dX9_reaches_198 : decode cX9_reaches 198 = .ok (.iload 11, 2) := by decide +kernel
theorem dX9_reaches_200 : decode cX9_reaches 200 = .ok (.ishr, 1) := by decide +kernel
theorem dX9_reaches_201 : decode cX9_reaches 201 = .ok (.iconst 1, 1) := by decide +kernel
theorem dX9_reaches_202 : decode cX9_reaches 202 = .ok (.iand, 1) := by decide +kernel
theorem dX9_reaches_203 : decode cX9_reaches 203 = .ok (.iconst 1, 1) := by decide +kernel
theorem dX9_reaches_204 : decode cX9_reaches 204 = .ok (.if_icmp .ne 34, 3) := by decide +kernel
theorem dX9_reaches_207 : decode cX9_reaches 207 = .ok (.aload_n 0, 1) := by decide +kernel
theorem dX9_reaches_208 : decode cX9_reaches 208 = .ok (.iload 7, 2) := by decide +kernel
theorem dX9_reaches_210 : decode cX9_reaches 210 = .ok (.invokevirtual 129, 3) := by decide +kernel
theorem dX9_reaches_213 : decode cX9_reaches 213 = .ok (.iload 11, 2) := by decide +kernel
theorem dX9_reaches_215 : decode cX9_reaches 215 = .ok (.ishr, 1) := by decide +kernel
theorem dX9_reaches_216 : decode cX9_reaches 216 = .ok (.iconst 1, 1) := by decide +kernel
theorem dX9_reaches_217 : decode cX9_reaches 217 = .ok (.iand, 1) := by decide +kernel
theorem dX9_reaches_218 : decode cX9_reaches 218 = .ok (.iconst 1, 1) := by decide +kernel
theorem dX9_reaches_219 : decode cX9_reaches 219 = .ok (.if_icmp .ne 19, 3) := by decide +kernel
theorem dX9_reaches_222 : decode cX9_reaches 222 = .ok (.aload_n 0, 1) := by decide +kernel
theorem dX9_reaches_223 : decode cX9_reaches 223 = .ok (.getfield 37, 3) := by decide +kernel
theorem dX9_reaches_226 : decode cX9_reaches 226 = .ok (.bipush 6, 2) := by decide +kernel
theorem dX9_reaches_228 : decode cX9_reaches 228 = .ok (.iload 10, 2) := by decide +kernel
theorem dX9_reaches_230 : decode cX9_reaches 230 = .ok (.imul, 1) := by decide +kernel
theorem dX9_reaches_231 : decode cX9_reaches 231 = .ok (.iload 11, 2) := by decide +kernel
theorem dX9_reaches_233 : decode cX9_reaches 233 = .ok (.iadd, 1) := by decide +kernel
theorem dX9_reaches_234 : decode cX9_reaches 234 = .ok (.iaload, 1) := by decide +kernel
theorem dX9_reaches_235 : decode cX9_reaches 235 = .ok (.goto 4, 3) := by decide +kernel
theorem dX9_reaches_238 : decode cX9_reaches 238 = .ok (.iconst (-1), 1) := by decide +kernel
theorem dX9_reaches_239 : decode cX9_reaches 239 = .ok (.istore 12, 2) := by decide +kernel
theorem dX9_reaches_241 : decode cX9_reaches 241 = .ok (.iload 12, 2) := by decide +kernel
theorem dX9_reaches_243 : decode cX9_reaches 243 = .ok (.ifCond .lt 26, 3) := by decide +kernel
theorem dX9_reaches_246 : decode cX9_reaches 246 = .ok (.iload 9, 2) := by decide +kernel
theorem dX9_reaches_248 : decode cX9_reaches 248 = .ok (.ifCond .lt 13, 3) := by decide +kernel
theorem dX9_reaches_251 : decode cX9_reaches 251 = .ok (.iload 12, 2) := by decide +kernel
theorem dX9_reaches_253 : decode cX9_reaches 253 = .ok (.iload 8, 2) := by decide +kernel
theorem dX9_reaches_255 : decode cX9_reaches 255 = .ok (.iadd, 1) := by decide +kernel
theorem dX9_reaches_256 : decode cX9_reaches 256 = .ok (.iload 9, 2) := by decide +kernel
theorem dX9_reaches_258 : decode cX9_reaches 258 = .ok (.if_icmp .ge 11, 3) := by decide +kernel
theorem dX9_reaches_261 : decode cX9_reaches 261 = .ok (.iload 12, 2) := by decide +kernel
theorem dX9_reaches_263 : decode cX9_reaches 263 = .ok (.iload 8, 2) := by decide +kernel
theorem dX9_reaches_265 : decode cX9_reaches 265 = .ok (.iadd, 1) := by decide +kernel
theorem dX9_reaches_266 : decode cX9_reaches 266 = .ok (.goto 5, 3) := by decide +kernel
theorem dX9_reaches_269 : decode cX9_reaches 269 = .ok (.iload 9, 2) := by decide +kernel
theorem dX9_reaches_271 : decode cX9_reaches 271 = .ok (.istore 9, 2) := by decide +kernel
theorem dX9_reaches_273 : decode cX9_reaches 273 = .ok (.iinc 11 1, 3) := by decide +kernel
theorem dX9_reaches_276 : decode cX9_reaches 276 = .ok (.goto (-96), 3) := by decide +kernel
theorem dX9_reaches_279 : decode cX9_reaches 279 = .ok (.aload_n 0, 1) := by decide +kernel
theorem dX9_reaches_280 : decode cX9_reaches 280 = .ok (.getfield 37, 3) := by decide +kernel
theorem dX9_reaches_283 : decode cX9_reaches 283 = .ok (.bipush 6, 2) := by decide +kernel
theorem dX9_reaches_285 : decode cX9_reaches 285 = .ok (.iload 4, 2) := by decide +kernel
theorem dX9_reaches_287 : decode cX9_reaches 287 = .ok (.imul, 1) := by decide +kernel
theorem dX9_reaches_288 : decode cX9_reaches 288 = .ok (.iload 7, 2) := by decide +kernel
theorem dX9_reaches_290 : decode cX9_reaches 290 = .ok (.iadd, 1) := by decide +kernel
theorem dX9_reaches_291 : decode cX9_reaches 291 = .ok (.iload 9, 2) := by decide +kernel
theorem dX9_reaches_293 : decode cX9_reaches 293 = .ok (.iastore, 1) := by decide +kernel
theorem dX9_reaches_294 : decode cX9_reaches 294 = .ok (.iinc 7 1, 3) := by decide +kernel
theorem dX9_reaches_297 : decode cX9_reaches 297 = .ok (.goto (-212), 3) := by decide +kernel
theorem dX9_reaches_300 : decode cX9_reaches 300 = .ok (.aload_n 0, 1) := by decide +kernel
theorem dX9_reaches_301 : decode cX9_reaches 301 = .ok (.getfield 37, 3) := by decide +kernel
theorem dX9_reaches_304 : decode cX9_reaches 304 = .ok (.bipush 6, 2) := by decide +kernel
theorem dX9_reaches_306 : decode cX9_reaches 306 = .ok (.iload 4, 2) := by decide +kernel
theorem dX9_reaches_308 : decode cX9_reaches 308 = .ok (.imul, 1) := by decide +kernel
theorem dX9_reaches_309 : decode cX9_reaches 309 = .ok (.iload_n 2, 1) := by decide +kernel
theorem dX9_reaches_310 : decode cX9_reaches 310 = .ok (.iadd, 1) := by decide +kernel
theorem dX9_reaches_311 : decode cX9_reaches 311 = .ok (.iaload, 1) := by decide +kernel
theorem dX9_reaches_312 : decode cX9_reaches 312 = .ok (.ifCond .ge 7, 3) := by decide +kernel
theorem dX9_reaches_315 : decode cX9_reaches 315 = .ok (.iconst (-1), 1) := by decide +kernel
theorem dX9_reaches_316 : decode cX9_reaches 316 = .ok (.goto 18, 3) := by decide +kernel
theorem dX9_reaches_319 : decode cX9_reaches 319 = .ok (.aload_n 0, 1) := by decide +kernel
theorem dX9_reaches_320 : decode cX9_reaches 320 = .ok (.getfield 37, 3) := by decide +kernel

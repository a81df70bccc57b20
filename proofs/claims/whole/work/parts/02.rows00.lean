theorem dX0_init_0 : decode cX0_init 0 = .ok (.aload_n 0, 1) := by decide +kernel
theorem dX0_init_1 : decode cX0_init 1 = .ok (.invokespecial 3, 3) := by decide +kernel
theorem dX0_init_4 : decode cX0_init 4 = .ok (.aload_n 0, 1) := by decide +kernel
theorem dX0_init_5 : decode cX0_init 5 = .ok (.bipush 6, 2) := by decide +kernel
theorem dX0_init_7 : decode cX0_init 7 = .ok (.newarray .int, 2) := by decide +kernel
theorem dX0_init_9 : decode cX0_init 9 = .ok (.putfield 9, 3) := by decide +kernel
theorem dX0_init_12 : decode cX0_init 12 = .ok (.aload_n 0, 1) := by decide +kernel
theorem dX0_init_13 : decode cX0_init 13 = .ok (.bipush 6, 2) := by decide +kernel
theorem dX0_init_15 : decode cX0_init 15 = .ok (.newarray .int, 2) := by decide +kernel
theorem dX0_init_17 : decode cX0_init 17 = .ok (.putfield 15, 3) := by decide +kernel
theorem dX0_init_20 : decode cX0_init 20 = .ok (.return_, 1) := by decide +kernel
set_option maxRecDepth 20000 in
theorem ggX0_fewestShades_X6_knows : GoodIn wsX0_fewestShades wsX6_knows := goodIn_r _ [11, 12, 13, 14, 15, 16, 17, 18, 19, 20, 21, 10, 22, 23, 24, 25, 26, 27, 28, 29, 30, 31, 100, 101, 102, 103, 104, 105, 106, 107, 108, 109] (by decide +kernel) (by decide +kernel)
set_option maxRecDepth 20000 in
theorem gX0_fewestShades_X6_knows : GoodIn wsX0_fewestShades (wsV RX0 18 RX6 yX6_knows wsX6_knows) := goodIn_app (goodIn_of _ (by decide +kernel)) ggX0_fewestShades_X6_knows
set_option maxRecDepth 20000 in
theorem ggX0_fewestShades_X6_isAlive : GoodIn wsX0_fewestShades wsX6_isAlive := goodIn_r _ [35, 12, 23, 13, 14, 15, 16, 17, 18, 36, 37, 38, 39, 40, 100, 101, 102, 103, 104, 105, 106, 107, 108, 109] (by decide +kernel) (by decide +kernel)
set_option maxRecDepth 20000 in
theorem gX0_fewestShades_X6_isAlive : GoodIn wsX0_fewestShades (wsV RX0 24 RX6 yX6_isAlive wsX6_isAlive) := goodIn_app (goodIn_of _ (by decide +kernel)) ggX0_fewestShades_X6_isAlive
set_option maxRecDepth 20000 in
theorem ggX0_fewestShades_X0_ownersCare : GoodIn wsX0_fewestShades wsX0_ownersCare := goodIn_r _ [44, 45, 46, 47, 10, 48, 12, 49, 50, 51, 16, 52, 53, 54, 25, 26, 27, 28, 32, 33, 34, 35, 23, 13, 14, 15, 17, 18, 36, 37, 38, 39, 40, 55, 56, 57, 58, 59, 60, 61, 62, 63, 64, 19, 20, 21, 22, 24, 65, 66, 67, 68, 69, 70, 71, 72, 73, 30, 74, 100, 101, 102, 103, 104, 105, 106, 107, 108, 109] (by decide +kernel) (by decide +kernel)
set_option maxRecDepth 20000 in
theorem gX0_fewestShades_X0_ownersCare : GoodIn wsX0_fewestShades (va_wsS RX0 29 yX0_ownersCare wsX0_ownersCare) := goodIn_app (goodIn_of _ (by decide +kernel)) ggX0_fewestShades_X0_ownersCare
set_option maxRecDepth 20000 in
theorem ggX0_fewestShades_X0_passOn : GoodIn wsX0_fewestShades wsX0_passOn := goodIn_r _ [78, 79, 2, 3, 4, 5, 6, 1, 32, 33, 34, 10, 35, 12, 23, 13, 14, 15, 16, 17, 18, 36, 37, 38, 39, 40, 7, 8, 9, 11, 19, 20, 21, 22, 24, 25, 26, 27, 28, 29, 30, 31, 45, 46, 47, 48, 55, 56, 57, 58, 59, 60, 80, 81, 82, 83, 84, 85, 86, 87, 88, 89, 90, 91, 92, 93, 94, 95, 96, 43, 97, 98, 99, 100, 101, 102, 103, 104, 105, 106, 107, 108, 109] (by decide +kernel) (by decide +kernel)
set_option maxRecDepth 20000 in
theorem gX0_fewestShades_X0_passOn : GoodIn wsX0_fewestShades (wsV RX0 33 RX0 yX0_passOn wsX0_passOn) := goodIn_app (goodIn_of _ (by decide +kernel)) ggX0_fewestShades_X0_passOn
theorem dX0_fewestShades_0 : decode cX0_fewestShades 0 = .ok (.iload_n 3, 1) := by decide +kernel
theorem dX0_fewestShades_1 : decode cX0_fewestShades 1 = .ok (.ifCond .lt 9, 3) := by decide +kernel
theorem dX0_fewestShades_4 : decode cX0_fewestShades 4 = .ok (.iload_n 3, 1) := by decide +kernel
theorem dX0_fewestShades_5 : decode cX0_fewestShades 5 = .ok (.bipush 6, 2) := by decide +kernel
theorem dX0_fewestShades_7 : decode cX0_fewestShades 7 = .ok (.if_icmp .lt 6, 3) := by decide +kernel
theorem dX0_fewestShades_10 : decode cX0_fewestShades 10 = .ok (.bipush (-4), 2) := by decide +kernel
theorem dX0_fewestShades_12 : decode cX0_fewestShades 12 = .ok (.ireturn, 1) := by decide +kernel
theorem dX0_fewestShades_13 : decode cX0_fewestShades 13 = .ok (.iconst 0, 1) := by decide +kernel
theorem dX0_fewestShades_14 : decode cX0_fewestShades 14 = .ok (.istore 4, 2) := by decide +kernel
theorem dX0_fewestShades_16 : decode cX0_fewestShades 16 = .ok (.iload 4, 2) := by decide +kernel
theorem dX0_fewestShades_18 : decode cX0_fewestShades 18 = .ok (.bipush 6, 2) := by decide +kernel
theorem dX0_fewestShades_20 : decode cX0_fewestShades 20 = .ok (.if_icmp .ge 41, 3) := by decide +kernel
theorem dX0_fewestShades_23 : decode cX0_fewestShades 23 = .ok (.aload_n 0, 1) := by decide +kernel
theorem dX0_fewestShades_24 : decode cX0_fewestShades 24 = .ok (.getfield 9, 3) := by decide +kernel
theorem dX0_fewestShades_27 : decode cX0_fewestShades 27 = .ok (.iload 4, 2) := by decide +kernel
theorem dX0_fewestShades_29 : decode cX0_fewestShades 29 = .ok (.aload_n 1, 1) := by decide +kernel
theorem dX0_fewestShades_30 : decode cX0_fewestShades 30 = .ok (.iload 4, 2) := by decide +kernel
theorem dX0_fewestShades_32 : decode cX0_fewestShades 32 = .ok (.iload_n 2, 1) := by decide +kernel
theorem dX0_fewestShades_33 : decode cX0_fewestShades 33 = .ok (.invokevirtual 18, 3) := by decide +kernel
theorem dX0_fewestShades_36 : decode cX0_fewestShades 36 = .ok (.ifCond .eq 16, 3) := by decide +kernel
theorem dX0_fewestShades_39 : decode cX0_fewestShades 39 = .ok (.aload_n 1, 1) := by decide +kernel
theorem dX0_fewestShades_40 : decode cX0_fewestShades 40 = .ok (.iload 4, 2) := by decide +kernel
theorem dX0_fewestShades_42 : decode cX0_fewestShades 42 = .ok (.invokevirtual 24, 3) := by decide +kernel
theorem dX0_fewestShades_45 : decode cX0_fewestShades 45 = .ok (.ifCond .eq 7, 3) := by decide +kernel
theorem dX0_fewestShades_48 : decode cX0_fewestShades 48 = .ok (.iconst 0, 1) := by decide +kernel
theorem dX0_fewestShades_49 : decode cX0_fewestShades 49 = .ok (.goto 5, 3) := by decide +kernel
theorem dX0_fewestShades_52 : decode cX0_fewestShades 52 = .ok (.ldc 28, 2) := by decide +kernel
theorem dX0_fewestShades_54 : decode cX0_fewestShades 54 = .ok (.iastore, 1) := by decide +kernel
theorem dX0_fewestShades_55 : decode cX0_fewestShades 55 = .ok (.iinc 4 1, 3) := by decide +kernel
theorem dX0_fewestShades_58 : decode cX0_fewestShades 58 = .ok (.goto (-42), 3) := by decide +kernel
theorem dX0_fewestShades_61 : decode cX0_fewestShades 61 = .ok (.aload_n 0, 1) := by decide +kernel
theorem dX0_fewestShades_62 : decode cX0_fewestShades 62 = .ok (.getfield 9, 3) := by decide +kernel
theorem dX0_fewestShades_65 : decode cX0_fewestShades 65 = .ok (.iload_n 3, 1) := by decide +kernel
theorem dX0_fewestShades_66 : decode cX0_fewestShades 66 = .ok (.iaload, 1) := by decide +kernel
theorem dX0_fewestShades_67 : decode cX0_fewestShades 67 = .ok (.istore 4, 2) := by decide +kernel
theorem dX0_fewestShades_69 : decode cX0_fewestShades 69 = .ok (.iconst 0, 1) := by decide +kernel
theorem dX0_fewestShades_70 : decode cX0_fewestShades 70 = .ok (.istore 5, 2) := by decide +kernel
theorem dX0_fewestShades_72 : decode cX0_fewestShades 72 = .ok (.iload 5, 2) := by decide +kernel
theorem dX0_fewestShades_74 : decode cX0_fewestShades 74 = .ok (.bipush 6, 2) := by decide +kernel
theorem dX0_fewestShades_76 : decode cX0_fewestShades 76 = .ok (.if_icmp .ge 35, 3) := by decide +kernel
theorem dX0_fewestShades_79 : decode cX0_fewestShades 79 = .ok (.aload_n 0, 1) := by decide +kernel
theorem dX0_fewestShades_80 : decode cX0_fewestShades 80 = .ok (.aload_n 1, 1) := by decide +kernel
theorem dX0_fewestShades_81 : decode cX0_fewestShades 81 = .ok (.iload_n 2, 1) := by decide +kernel
theorem dX0_fewestShades_82 : decode cX0_fewestShades 82 = .ok (.aload_n 1, 1) := by decide +kernel
theorem dX0_fewestShades_83 : decode cX0_fewestShades 83 = .ok (.iload_n 2, 1) := by decide +kernel
theorem dX0_fewestShades_84 : decode cX0_fewestShades 84 = .ok (.iload 5, 2) := by decide +kernel
theorem dX0_fewestShades_86 : decode cX0_fewestShades 86 = .ok (.invokestatic 29, 3) := by decide +kernel
theorem dX0_fewestShades_89 : decode cX0_fewestShades 89 = .ok (.invokevirtual 33, 3) := by decide +kernel
theorem dX0_fewestShades_92 : decode cX0_fewestShades 92 = .ok (.iload 4, 2) := by decide +kernel
theorem dX0_fewestShades_94 : decode cX0_fewestShades 94 = .ok (.aload_n 0, 1) := by decide +kernel
theorem dX0_fewestShades_95 : decode cX0_fewestShades 95 = .ok (.getfield 9, 3) := by decide +kernel
theorem dX0_fewestShades_98 : decode cX0_fewestShades 98 = .ok (.iload_n 3, 1) := by decide +kernel
theorem dX0_fewestShades_99 : decode cX0_fewestShades 99 = .ok (.iaload, 1) := by decide +kernel
theorem dX0_fewestShades_100 : decode cX0_fewestShades 100 = .ok (.invokestatic 37, 3) := by decide +kernel
theorem dX0_fewestShades_103 : decode cX0_fewestShades 103 = .ok (.istore 4, 2) := by decide +kernel
theorem dX0_fewestShades_105 : decode cX0_fewestShades 105 = .ok (.iinc 5 1, 3) := by decide +kernel
theorem dX0_fewestShades_108 : decode cX0_fewestShades 108 = .ok (.goto (-36), 3) := by decide +kernel
theorem dX0_fewestShades_111 : decode cX0_fewestShades 111 = .ok (.iload 4, 2) := by decide +kernel
theorem dX0_fewestShades_113 : decode cX0_fewestShades 113 = .ok (.ldc 28, 2) := by decide +kernel
theorem dX0_fewestShades_115 : decode cX0_fewestShades 115 = .ok (.if_icmp .lt 8, 3) := by decide +kernel
theorem dX0_fewestShades_118 : decode cX0_fewestShades 118 = .ok (.bipush (-4), 2) := by decide +kernel
theorem dX0_fewestShades_120 : decode cX0_fewestShades 120 = .ok (.goto 5, 3) := by decide +kernel
theorem dX0_fewestShades_123 : decode cX0_fewestShades 123 = .ok (.iload 4, 2) := by decide +kernel
theorem dX0_fewestShades_125 : decode cX0_fewestShades 125 = .ok (.ireturn, 1) := by decide +kernel
set_option maxRecDepth 20000 in
theorem ggX0_ownersCare_X6_home : GoodIn wsX0_ownersCare wsX6_home := goodIn_r _ [5, 6, 59, 60] (by decide +kernel) (by decide +kernel)
set_option maxRecDepth 20000 in
theorem gX0_ownersCare_X6_home : GoodIn wsX0_ownersCare (wsV RX0 43 RX6 yX6_home wsX6_home) := goodIn_app (goodIn_of _ (by decide +kernel)) ggX0_ownersCare_X6_home
set_option maxRecDepth 20000 in
theorem ggX0_ownersCare_X7_ownerOf : GoodIn wsX0_ownersCare wsX7_ownerOf := goodIn_r _ [11, 12, 13, 14, 15, 10, 16, 17, 61, 62, 63, 64, 65, 66, 67, 68] (by decide +kernel) (by decide +kernel)
set_option maxRecDepth 20000 in
theorem gX0_ownersCare_X7_ownerOf : GoodIn wsX0_ownersCare (wsV RX0 47 RX7 yX7_ownerOf wsX7_ownerOf) := goodIn_app (goodIn_of _ (by decide +kernel)) ggX0_ownersCare_X7_ownerOf
set_option maxRecDepth 20000 in
theorem ggX0_ownersCare_X6_isAlive : GoodIn wsX0_ownersCare wsX6_isAlive := goodIn_r _ [21, 6, 22, 23, 24, 25, 10, 26, 27, 28, 29, 30, 31, 32, 59, 60, 61, 62, 63, 64, 65, 66, 67, 68] (by decide +kernel) (by decide +kernel)
set_option maxRecDepth 20000 in
theorem gX0_ownersCare_X6_isAlive : GoodIn wsX0_ownersCare (wsV RX0 24 RX6 yX6_isAlive wsX6_isAlive) := goodIn_app (goodIn_of _ (by decide +kernel)) ggX0_ownersCare_X6_isAlive
set_option maxRecDepth 20000 in
theorem ggX0_ownersCare_X7_kindOf : GoodIn wsX0_ownersCare wsX7_kindOf := goodIn_r _ [36, 37, 38, 24, 25, 10, 26, 27, 61, 62, 63, 64, 65, 66, 67, 68] (by decide +kernel) (by decide +kernel)
set_option maxRecDepth 20000 in
theorem gX0_ownersCare_X7_kindOf : GoodIn wsX0_ownersCare (wsV RX0 53 RX7 yX7_kindOf wsX7_kindOf) := goodIn_app (goodIn_of _ (by decide +kernel)) ggX0_ownersCare_X7_kindOf
set_option maxRecDepth 20000 in
theorem ggX0_ownersCare_X6_othersKnowing : GoodIn wsX0_ownersCare wsX6_othersKnowing := goodIn_r _ [42, 6, 43, 44, 45, 4, 46, 22, 47, 14, 15, 10, 16, 17, 48, 8, 9, 11, 12, 13, 49, 50, 51, 52, 53, 54, 55, 59, 60, 61, 62, 63, 64, 65, 66, 67, 68] (by decide +kernel) (by decide +kernel)
set_option maxRecDepth 20000 in
theorem gX0_ownersCare_X6_othersKnowing : GoodIn wsX0_ownersCare (wsV RX0 56 RX6 yX6_othersKnowing wsX6_othersKnowing) := goodIn_app (goodIn_of _ (by decide +kernel)) ggX0_ownersCare_X6_othersKnowing
set_option maxRecDepth 20000 in
theorem ggX0_ownersCare_X8_care : GoodIn wsX0_ownersCare wsX8_care := goodIn_r _ [58] (by decide +kernel) (by decide +kernel)
set_option maxRecDepth 20000 in
theorem gX0_ownersCare_X8_care_n59 : GoodIn wsX0_ownersCare (wsX8_care) := ggX0_ownersCare_X8_care
theorem dX0_ownersCare_0 : decode cX0_ownersCare 0 = .ok (.aload_n 0, 1) := by decide +kernel
theorem dX0_ownersCare_1 : decode cX0_ownersCare 1 = .ok (.invokevirtual 43, 3) := by decide +kernel
theorem dX0_ownersCare_4 : decode cX0_ownersCare 4 = .ok (.iload_n 1, 1) := by decide +kernel
theorem dX0_ownersCare_5 : decode cX0_ownersCare 5 = .ok (.invokevirtual 47, 3) := by decide +kernel
theorem dX0_ownersCare_8 : decode cX0_ownersCare 8 = .ok (.istore_n 3, 1) := by decide +kernel
theorem dX0_ownersCare_9 : decode cX0_ownersCare 9 = .ok (.aload_n 0, 1) := by decide +kernel
theorem dX0_ownersCare_10 : decode cX0_ownersCare 10 = .ok (.iload_n 3, 1) := by decide +kernel
theorem dX0_ownersCare_11 : decode cX0_ownersCare 11 = .ok (.invokevirtual 24, 3) := by decide +kernel
theorem dX0_ownersCare_14 : decode cX0_ownersCare 14 = .ok (.ifCond .ne 5, 3) := by decide +kernel
theorem dX0_ownersCare_17 : decode cX0_ownersCare 17 = .ok (.iconst 0, 1) := by decide +kernel
theorem dX0_ownersCare_18 : decode cX0_ownersCare 18 = .ok (.ireturn, 1) := by decide +kernel
theorem dX0_ownersCare_19 : decode cX0_ownersCare 19 = .ok (.aload_n 0, 1) := by decide +kernel
theorem dX0_ownersCare_20 : decode cX0_ownersCare 20 = .ok (.invokevirtual 43, 3) := by decide +kernel
theorem dX0_ownersCare_23 : decode cX0_ownersCare 23 = .ok (.iload_n 3, 1) := by decide +kernel
theorem dX0_ownersCare_24 : decode cX0_ownersCare 24 = .ok (.invokevirtual 53, 3) := by decide +kernel
theorem dX0_ownersCare_27 : decode cX0_ownersCare 27 = .ok (.aload_n 0, 1) := by decide +kernel
theorem dX0_ownersCare_28 : decode cX0_ownersCare 28 = .ok (.iload_n 1, 1) := by decide +kernel
theorem dX0_ownersCare_29 : decode cX0_ownersCare 29 = .ok (.invokevirtual 56, 3) := by decide +kernel
theorem dX0_ownersCare_32 : decode cX0_ownersCare 32 = .ok (.iload_n 2, 1) := by decide +kernel
theorem dX0_ownersCare_33 : decode cX0_ownersCare 33 = .ok (.iadd, 1) := by decide +kernel
theorem dX0_ownersCare_34 : decode cX0_ownersCare 34 = .ok (.invokestatic 59, 3) := by decide +kernel
theorem dX0_ownersCare_37 : decode cX0_ownersCare 37 = .ok (.ireturn, 1) := by decide +kernel
set_option maxRecDepth 20000 in
theorem ggX0_passOn_X6_isAlive : GoodIn wsX0_passOn wsX6_isAlive := goodIn_r _ [12, 13, 14, 15, 16, 17, 18, 19, 20, 21, 22, 23, 24, 25, 73, 74, 75, 76, 77, 78, 79, 80, 81, 82] (by decide +kernel) (by decide +kernel)
set_option maxRecDepth 20000 in
theorem gX0_passOn_X6_isAlive : GoodIn wsX0_passOn (wsV RX0 24 RX6 yX6_isAlive wsX6_isAlive) := goodIn_app (goodIn_of _ (by decide +kernel)) ggX0_passOn_X6_isAlive
set_option maxRecDepth 20000 in
theorem ggX0_passOn_X6_knows : GoodIn wsX0_passOn wsX6_knows := goodIn_r _ [29, 13, 15, 16, 17, 18, 19, 20, 30, 31, 32, 11, 33, 14, 34, 35, 36, 37, 38, 39, 40, 41, 73, 74, 75, 76, 77, 78, 79, 80, 81, 82] (by decide +kernel) (by decide +kernel)
set_option maxRecDepth 20000 in
theorem gX0_passOn_X6_knows : GoodIn wsX0_passOn (wsV RX0 18 RX6 yX6_knows wsX6_knows) := goodIn_app (goodIn_of _ (by decide +kernel)) ggX0_passOn_X6_knows
set_option maxRecDepth 20000 in
theorem ggX0_passOn_X6_home : GoodIn wsX0_passOn wsX6_home := goodIn_r _ [45, 13, 73, 74] (by decide +kernel) (by decide +kernel)
set_option maxRecDepth 20000 in
theorem gX0_passOn_X6_home : GoodIn wsX0_passOn (wsV RX0 43 RX6 yX6_home wsX6_home) := goodIn_app (goodIn_of _ (by decide +kernel)) ggX0_passOn_X6_home
set_option maxRecDepth 20000 in
theorem ggX0_passOn_X7_kindOf : GoodIn wsX0_passOn wsX7_kindOf := goodIn_r _ [49, 50, 51, 16, 17, 18, 19, 20, 75, 76, 77, 78, 79, 80, 81, 82] (by decide +kernel) (by decide +kernel)
set_option maxRecDepth 20000 in
theorem gX0_passOn_X7_kindOf : GoodIn wsX0_passOn (wsV RX0 53 RX7 yX7_kindOf wsX7_kindOf) := goodIn_app (goodIn_of _ (by decide +kernel)) ggX0_passOn_X7_kindOf
set_option maxRecDepth 20000 in
theorem ggX0_passOn_X6_meetsOf : GoodIn wsX0_passOn wsX6_meetsOf := goodIn_r _ [55, 13, 56, 9, 10, 11, 12, 14, 15, 16, 17, 18, 19, 20, 21, 22, 23, 24, 25, 57, 58, 59, 60, 61, 51, 62, 63, 64, 65, 73, 74, 75, 76, 77, 78, 79, 80, 81, 82] (by decide +kernel) (by decide +kernel)
set_option maxRecDepth 20000 in
theorem gX0_passOn_X6_meetsOf : GoodIn wsX0_passOn (wsV RX0 62 RX6 yX6_meetsOf wsX6_meetsOf) := goodIn_app (goodIn_of _ (by decide +kernel)) ggX0_passOn_X6_meetsOf
set_option maxRecDepth 20000 in
theorem ggX0_passOn_X0_cheapest : GoodIn wsX0_passOn wsX0_cheapest := goodIn_r _ [70, 2, 7, 3, 4, 5, 6, 39, 40, 41, 71, 72] (by decide +kernel) (by decide +kernel)
set_option maxRecDepth 20000 in
theorem gX0_passOn_X0_cheapest : GoodIn wsX0_passOn (wsV RX0 65 RX0 yX0_cheapest wsX0_cheapest) := goodIn_app (goodIn_of _ (by decide +kernel)) ggX0_passOn_X0_cheapest
theorem dX0_passOn_0 : decode cX0_passOn 0 = .ok (.iconst 0, 1) := by decide +kernel
theorem dX0_passOn_1 : decode cX0_passOn 1 = .ok (.istore 4, 2) := by decide +kernel
theorem dX0_passOn_3 : decode cX0_passOn 3 = .ok (.iload 4, 2) := by decide +kernel
theorem dX0_passOn_5 : decode cX0_passOn 5 = .ok (.bipush 6, 2) := by decide +kernel
theorem dX0_passOn_7 : decode cX0_passOn 7 = .ok (.if_icmp .ge 84, 3) := by decide +kernel
theorem dX0_passOn_10 : decode cX0_passOn 10 = .ok (.aload_n 0, 1) := by decide +kernel
theorem dX0_passOn_11 : decode cX0_passOn 11 = .ok (.getfield 15, 3) := by decide +kernel
theorem dX0_passOn_14 : decode cX0_passOn 14 = .ok (.iload 4, 2) := by decide +kernel
theorem dX0_passOn_16 : decode cX0_passOn 16 = .ok (.ldc 28, 2) := by decide +kernel
theorem dX0_passOn_18 : decode cX0_passOn 18 = .ok (.iastore, 1) := by decide +kernel
theorem dX0_passOn_19 : decode cX0_passOn 19 = .ok (.aload_n 1, 1) := by decide +kernel
theorem dX0_passOn_20 : decode cX0_passOn 20 = .ok (.iload 4, 2) := by decide +kernel
theorem dX0_passOn_22 : decode cX0_passOn 22 = .ok (.invokevirtual 24, 3) := by decide +kernel
theorem dX0_passOn_25 : decode cX0_passOn 25 = .ok (.ifCond .eq 60, 3) := by decide +kernel
theorem dX0_passOn_28 : decode cX0_passOn 28 = .ok (.aload_n 1, 1) := by decide +kernel
theorem dX0_passOn_29 : decode cX0_passOn 29 = .ok (.iload 4, 2) := by decide +kernel
theorem dX0_passOn_31 : decode cX0_passOn 31 = .ok (.iload_n 2, 1) := by decide +kernel
theorem dX0_passOn_32 : decode cX0_passOn 32 = .ok (.invokevirtual 18, 3) := by decide +kernel
theorem dX0_passOn_35 : decode cX0_passOn 35 = .ok (.ifCond .ne 50, 3) := by decide +kernel
theorem dX0_passOn_38 : decode cX0_passOn 38 = .ok (.aload_n 1, 1) := by decide +kernel
theorem dX0_passOn_39 : decode cX0_passOn 39 = .ok (.invokevirtual 43, 3) := by decide +kernel
theorem dX0_passOn_42 : decode cX0_passOn 42 = .ok (.iload 4, 2) := by decide +kernel
theorem dX0_passOn_44 : decode cX0_passOn 44 = .ok (.invokevirtual 53, 3) := by decide +kernel
theorem dX0_passOn_47 : decode cX0_passOn 47 = .ok (.iconst 4, 1) := by decide +kernel
theorem dX0_passOn_48 : decode cX0_passOn 48 = .ok (.if_icmp .ne 7, 3) := by decide +kernel
theorem dX0_passOn_51 : decode cX0_passOn 51 = .ok (.iconst 1, 1) := by decide +kernel
theorem dX0_passOn_52 : decode cX0_passOn 52 = .ok (.goto 4, 3) := by decide +kernel
theorem dX0_passOn_55 : decode cX0_passOn 55 = .ok (.iconst 0, 1) := by decide +kernel
theorem dX0_passOn_56 : decode cX0_passOn 56 = .ok (.istore 5, 2) := by decide +kernel
theorem dX0_passOn_58 : decode cX0_passOn 58 = .ok (.aload_n 0, 1) := by decide +kernel
theorem dX0_passOn_59 : decode cX0_passOn 59 = .ok (.getfield 15, 3) := by decide +kernel
theorem dX0_passOn_62 : decode cX0_passOn 62 = .ok (.iload 4, 2) := by decide +kernel
theorem dX0_passOn_64 : decode cX0_passOn 64 = .ok (.ldc 28, 2) := by decide +kernel
theorem dX0_passOn_66 : decode cX0_passOn 66 = .ok (.aload_n 0, 1) := by decide +kernel
theorem dX0_passOn_67 : decode cX0_passOn 67 = .ok (.aload_n 1, 1) := by decide +kernel
theorem dX0_passOn_68 : decode cX0_passOn 68 = .ok (.iload 4, 2) := by decide +kernel
theorem dX0_passOn_70 : decode cX0_passOn 70 = .ok (.invokevirtual 62, 3) := by decide +kernel
theorem dX0_passOn_73 : decode cX0_passOn 73 = .ok (.invokevirtual 65, 3) := by decide +kernel
theorem dX0_passOn_76 : decode cX0_passOn 76 = .ok (.iload_n 3, 1) := by decide +kernel
theorem dX0_passOn_77 : decode cX0_passOn 77 = .ok (.iadd, 1) := by decide +kernel
theorem dX0_passOn_78 : decode cX0_passOn 78 = .ok (.iload 5, 2) := by decide +kernel
theorem dX0_passOn_80 : decode cX0_passOn 80 = .ok (.iadd, 1) := by decide +kernel
theorem dX0_passOn_81 : decode cX0_passOn 81 = .ok (.invokestatic 37, 3) := by decide +kernel
theorem dX0_passOn_84 : decode cX0_passOn 84 = .ok (.iastore, 1) := by decide +kernel
theorem dX0_passOn_85 : decode cX0_passOn 85 = .ok (.iinc 4 1, 3) := by decide +kernel
theorem dX0_passOn_88 : decode cX0_passOn 88 = .ok (.goto (-85), 3) := by decide +kernel
theorem dX0_passOn_91 : decode cX0_passOn 91 = .ok (.aload_n 0, 1) := by decide +kernel
theorem dX0_passOn_92 : decode cX0_passOn 92 = .ok (.getfield 9, 3) := by decide +kernel
theorem dX0_passOn_95 : decode cX0_passOn 95 = .ok (.astore 4, 2) := by decide +kernel
theorem dX0_passOn_97 : decode cX0_passOn 97 = .ok (.aload_n 0, 1) := by decide +kernel
theorem dX0_passOn_98 : decode cX0_passOn 98 = .ok (.aload_n 0, 1) := by decide +kernel
theorem dX0_passOn_99 : decode cX0_passOn 99 = .ok (.getfield 15, 3) := by decide +kernel
theorem dX0_passOn_102 : decode cX0_passOn 102 = .ok (.putfield 9, 3) := by decide +kernel
theorem dX0_passOn_105 : decode cX0_passOn 105 = .ok (.aload_n 0, 1) := by decide +kernel
theorem dX0_passOn_106 : decode cX0_passOn 106 = .ok (.aload 4, 2) := by decide +kernel
theorem dX0_passOn_108 : decode cX0_passOn 108 = .ok (.putfield 15, 3) := by decide +kernel
theorem dX0_passOn_111 : decode cX0_passOn 111 = .ok (.return_, 1) := by decide +kernel
set_option maxRecDepth 20000 in
theorem ggX0_cheapest_X8_has : GoodIn wsX0_cheapest wsX8_has := goodIn_r _ [9] (by decide +kernel) (by decide +kernel)
set_option maxRecDepth 20000 in
theorem gX0_cheapest_X8_has_n68 : GoodIn wsX0_cheapest (wsX8_has) := ggX0_cheapest_X8_has
theorem dX0_cheapest_0 : decode cX0_cheapest 0 = .ok (.ldc 28, 2) := by decide +kernel
theorem dX0_cheapest_2 : decode cX0_cheapest 2 = .ok (.istore_n 2, 1) := by decide +kernel
theorem dX0_cheapest_3 : decode cX0_cheapest 3 = .ok (.iconst 0, 1) := by decide +kernel
theorem dX0_cheapest_4 : decode cX0_cheapest 4 = .ok (.istore_n 3, 1) := by decide +kernel
theorem dX0_cheapest_5 : decode cX0_cheapest 5 = .ok (.iload_n 3, 1) := by decide +kernel
theorem dX0_cheapest_6 : decode cX0_cheapest 6 = .ok (.bipush 6, 2) := by decide +kernel
theorem dX0_cheapest_8 : decode cX0_cheapest 8 = .ok (.if_icmp .ge 28, 3) := by decide +kernel
theorem dX0_cheapest_11 : decode cX0_cheapest 11 = .ok (.iload_n 1, 1) := by decide +kernel
theorem dX0_cheapest_12 : decode cX0_cheapest 12 = .ok (.iload_n 3, 1) := by decide +kernel
theorem dX0_cheapest_13 : decode cX0_cheapest 13 = .ok (.invokestatic 68, 3) := by decide +kernel
theorem dX0_cheapest_16 : decode cX0_cheapest 16 = .ok (.ifCond .eq 14, 3) := by decide +kernel
theorem dX0_cheapest_19 : decode cX0_cheapest 19 = .ok (.iload_n 2, 1) := by decide +kernel
theorem dX0_cheapest_20 : decode cX0_cheapest 20 = .ok (.aload_n 0, 1) := by decide +kernel
theorem dX0_cheapest_21 : decode cX0_cheapest 21 = .ok (.getfield 9, 3) := by decide +kernel
theorem dX0_cheapest_24 : decode cX0_cheapest 24 = .ok (.iload_n 3, 1) := by decide +kernel
theorem dX0_cheapest_25 : decode cX0_cheapest 25 = .ok (.iaload, 1) := by decide +kernel
theorem dX0_cheapest_26 : decode cX0_cheapest 26 = .ok (.invokestatic 37, 3) := by decide +kernel
theorem dX0_cheapest_29 : decode cX0_cheapest 29 = .ok (.istore_n 2, 1) := by decide +kernel
theorem dX0_cheapest_30 : decode cX0_cheapest 30 = .ok (.iinc 3 1, 3) := by decide +kernel
theorem dX0_cheapest_33 : decode cX0_cheapest 33 = .ok (.goto (-28), 3) := by decide +kernel
theorem dX0_cheapest_36 : decode cX0_cheapest 36 = .ok (.iload_n 2, 1) := by decide +kernel
theorem dX0_cheapest_37 : decode cX0_cheapest 37 = .ok (.ireturn, 1) := by decide +kernel
theorem dX1_init_0 : decode cX1_init 0 = .ok (.aload_n 0, 1) := by decide +kernel
theorem dX1_init_1 : decode cX1_init 1 = .ok (.invokespecial 3, 3) := by decide +kernel
theorem dX1_init_4 : decode cX1_init 4 = .ok (.aload_n 0, 1) := by decide +kernel
theorem dX1_init_5 : decode cX1_init 5 = .ok (.iconst 5, 1) := by decide +kernel
theorem dX1_init_6 : decode cX1_init 6 = .ok (.newarray .int, 2) := by decide +kernel
theorem dX1_init_8 : decode cX1_init 8 = .ok (.putfield 9, 3) := by decide +kernel
theorem dX1_init_11 : decode cX1_init 11 = .ok (.aload_n 0, 1) := by decide +kernel
theorem dX1_init_12 : decode cX1_init 12 = .ok (.iconst 5, 1) := by decide +kernel
theorem dX1_init_13 : decode cX1_init 13 = .ok (.newarray .int, 2) := by decide +kernel
theorem dX1_init_15 : decode cX1_init 15 = .ok (.putfield 15, 3) := by decide +kernel
theorem dX1_init_18 : decode cX1_init 18 = .ok (.aload_n 0, 1) := by decide +kernel
theorem dX1_init_19 : decode cX1_init 19 = .ok (.iconst 5, 1) := by decide +kernel
theorem dX1_init_20 : decode cX1_init 20 = .ok (.newarray .int, 2) := by decide +kernel
theorem dX1_init_22 : decode cX1_init 22 = .ok (.putfield 18, 3) := by decide +kernel
theorem dX1_init_25 : decode cX1_init 25 = .ok (.aload_n 0, 1) := by decide +kernel
theorem dX1_init_26 : decode cX1_init 26 = .ok (.iconst 5, 1) := by decide +kernel
theorem dX1_init_27 : decode cX1_init 27 = .ok (.newarray .int, 2) := by decide +kernel
theorem dX1_init_29 : decode cX1_init 29 = .ok (.putfield 21, 3) := by decide +kernel
theorem dX1_init_32 : decode cX1_init 32 = .ok (.aload_n 0, 1) := by decide +kernel
theorem dX1_init_33 : decode cX1_init 33 = .ok (.iconst 0, 1) := by decide +kernel
theorem dX1_init_34 : decode cX1_init 34 = .ok (.putfield 24, 3) := by decide +kernel
theorem dX1_init_37 : decode cX1_init 37 = .ok (.return_, 1) := by decide +kernel
theorem dX1_size_0 : decode cX1_size 0 = .ok (.aload_n 0, 1) := by decide +kernel
theorem dX1_size_1 : decode cX1_size 1 = .ok (.getfield 24, 3) := by decide +kernel
theorem dX1_size_4 : decode cX1_size 4 = .ok (.ireturn, 1) := by decide +kernel
theorem dX1_clear_0 : decode cX1_clear 0 = .ok (.aload_n 0, 1) := by decide +kernel
theorem dX1_clear_1 : decode cX1_clear 1 = .ok (.iconst 0, 1) := by decide +kernel
theorem dX1_clear_2 : decode cX1_clear 2 = .ok (.putfield 24, 3) := by decide +kernel
theorem dX1_clear_5 : decode cX1_clear 5 = .ok (.return_, 1) := by decide +kernel
theorem dX1_add_0 : decode cX1_add 0 = .ok (.aload_n 0, 1) := by decide +kernel
theorem dX1_add_1 : decode cX1_add 1 = .ok (.getfield 24, 3) := by decide +kernel
theorem dX1_add_4 : decode cX1_add 4 = .ok (.ifCond .lt 11, 3) := by decide +kernel
theorem dX1_add_7 : decode cX1_add 7 = .ok (.aload_n 0, 1) := by decide +kernel
theorem dX1_add_8 : decode cX1_add 8 = .ok (.getfield 24, 3) := by decide +kernel
theorem dX1_add_11 : decode cX1_add 11 = .ok (.iconst 5, 1) := by decide +kernel
theorem dX1_add_12 : decode cX1_add 12 = .ok (.if_icmp .lt 5, 3) := by decide +kernel
theorem dX1_add_15 : decode cX1_add 15 = .ok (.iconst 0, 1) := by decide +kernel
theorem dX1_add_16 : decode cX1_add 16 = .ok (.ireturn, 1) := by decide +kernel
theorem dX1_add_17 : decode cX1_add 17 = .ok (.aload_n 0, 1) := by decide +kernel
theorem dX1_add_18 : decode cX1_add 18 = .ok (.getfield 9, 3) := by decide +kernel
theorem dX1_add_21 : decode cX1_add 21 = .ok (.aload_n 0, 1) := by decide +kernel
theorem dX1_add_22 : decode cX1_add 22 = .ok (.getfield 24, 3) := by decide +kernel
theorem dX1_add_25 : decode cX1_add 25 = .ok (.iload_n 1, 1) := by decide +kernel
theorem dX1_add_26 : decode cX1_add 26 = .ok (.iastore, 1) := by decide +kernel
theorem dX1_add_27 : decode cX1_add 27 = .ok (.aload_n 0, 1) := by decide +kernel
theorem dX1_add_28 : decode cX1_add 28 = .ok (.getfield 15, 3) := by decide +kernel
theorem dX1_add_31 : decode cX1_add 31 = .ok (.aload_n 0, 1) := by decide +kernel
theorem dX1_add_32 : decode cX1_add 32 = .ok (.getfield 24, 3) := by decide +kernel
theorem dX1_add_35 : decode cX1_add 35 = .ok (.iload_n 2, 1) := by decide +kernel
theorem dX1_add_36 : decode cX1_add 36 = .ok (.iastore, 1) := by decide +kernel
theorem dX1_add_37 : decode cX1_add 37 = .ok (.aload_n 0, 1) := by decide +kernel
theorem dX1_add_38 : decode cX1_add 38 = .ok (.dup, 1) := by decide +kernel
theorem dX1_add_39 : decode cX1_add 39 = .ok (.getfield 24, 3) := by decide +kernel
theorem dX1_add_42 : decode cX1_add 42 = .ok (.iconst 1, 1) := by decide +kernel
theorem dX1_add_43 : decode cX1_add 43 = .ok (.iadd, 1) := by decide +kernel
theorem dX1_add_44 : decode cX1_add 44 = .ok (.putfield 24, 3) := by decide +kernel
theorem dX1_add_47 : decode cX1_add 47 = .ok (.iconst 1, 1) := by decide +kernel
theorem dX1_add_48 : decode cX1_add 48 = .ok (.ireturn, 1) := by decide +kernel
theorem dX1_bestAt_0 : decode cX1_bestAt 0 = .ok (.iload_n 1, 1) := by decide +kernel
theorem dX1_bestAt_1 : decode cX1_bestAt 1 = .ok (.ifCond .lt 25, 3) := by decide +kernel
theorem dX1_bestAt_4 : decode cX1_bestAt 4 = .ok (.iload_n 1, 1) := by decide +kernel
theorem dX1_bestAt_5 : decode cX1_bestAt 5 = .ok (.aload_n 0, 1) := by decide +kernel
theorem dX1_bestAt_6 : decode cX1_bestAt 6 = .ok (.getfield 24, 3) := by decide +kernel
theorem dX1_bestAt_9 : decode cX1_bestAt 9 = .ok (.if_icmp .ge 17, 3) := by decide +kernel
theorem dX1_bestAt_12 : decode cX1_bestAt 12 = .ok (.iload_n 1, 1) := by decide +kernel
theorem dX1_bestAt_13 : decode cX1_bestAt 13 = .ok (.iconst 5, 1) := by decide +kernel
theorem dX1_bestAt_14 : decode cX1_bestAt 14 = .ok (.if_icmp .ge 12, 3) := by decide +kernel
theorem dX1_bestAt_17 : decode cX1_bestAt 17 = .ok (.aload_n 0, 1) := by decide +kernel
theorem dX1_bestAt_18 : decode cX1_bestAt 18 = .ok (.getfield 21, 3) := by decide +kernel
theorem dX1_bestAt_21 : decode cX1_bestAt 21 = .ok (.iload_n 1, 1) := by decide +kernel
theorem dX1_bestAt_22 : decode cX1_bestAt 22 = .ok (.iaload, 1) := by decide +kernel
theorem dX1_bestAt_23 : decode cX1_bestAt 23 = .ok (.goto 4, 3) := by decide +kernel
theorem dX1_bestAt_26 : decode cX1_bestAt 26 = .ok (.iconst (-1), 1) := by decide +kernel
theorem dX1_bestAt_27 : decode cX1_bestAt 27 = .ok (.ireturn, 1) := by decide +kernel
set_option maxRecDepth 20000 in
theorem ggX1_findBest_X6_copy : GoodIn wsX1_findBest wsX6_copy := goodIn_r _ [12, 13, 14, 15, 16, 11, 17, 132, 133] (by decide +kernel) (by decide +kernel)
set_option maxRecDepth 20000 in
theorem gX1_findBest_X6_copy : GoodIn wsX1_findBest (wsV RX1 29 RX6 yX6_copy wsX6_copy) := goodIn_app (goodIn_of _ (by decide +kernel)) ggX1_findBest_X6_copy
set_option maxRecDepth 20000 in
theorem ggX1_findBest_X1_hear : GoodIn wsX1_findBest wsX1_hear := goodIn_r _ [22, 23, 24, 25, 26, 21, 27, 1, 28, 29, 30, 31, 32, 33, 34, 35, 36, 11, 37, 38, 13, 39, 40, 41, 42, 43, 44, 45, 46, 47, 48, 49, 50, 51, 52, 53, 54, 55, 56, 57, 58, 59, 60, 61, 62, 63, 64, 65, 66, 67, 68, 69, 70, 71, 72, 73, 74, 75, 76, 77, 78, 79, 80, 81, 82, 83, 84, 85, 86, 87, 88, 89, 90, 91, 92, 93, 94, 95, 96, 97, 98, 99, 100, 101, 102, 103, 104, 105, 106, 107, 108, 109, 110, 127, 128, 129, 130, 131, 132, 133, 134, 135, 136, 137, 138, 139, 140, 141] (by decide +kernel) (by decide +kernel)
set_option maxRecDepth 20000 in
theorem gX1_findBest_X1_hear : GoodIn wsX1_findBest (wsV RX1 35 RX1 yX1_hear wsX1_hear) := goodIn_app (goodIn_of _ (by decide +kernel)) ggX1_findBest_X1_hear
set_option maxRecDepth 20000 in
theorem ggX1_findBest_X6_agesTogether : GoodIn wsX1_findBest wsX6_agesTogether := goodIn_r _ [114, 115, 116, 117, 11, 118, 38, 13, 39, 40, 41, 42, 43, 44, 132, 133, 134, 135, 136, 137, 138, 139, 140, 141] (by decide +kernel) (by decide +kernel)
set_option maxRecDepth 20000 in
theorem gX1_findBest_X6_agesTogether : GoodIn wsX1_findBest (wsV RX1 38 RX6 yX6_agesTogether wsX6_agesTogether) := goodIn_app (goodIn_of _ (by decide +kernel)) ggX1_findBest_X6_agesTogether
set_option maxRecDepth 20000 in
theorem ggX1_findBest_X1_nextTurn : GoodIn wsX1_findBest wsX1_nextTurn := goodIn_r _ [122, 23, 1, 123, 124, 125, 21, 126, 127, 128, 129, 130, 131] (by decide +kernel) (by decide +kernel)
set_option maxRecDepth 20000 in
theorem gX1_findBest_X1_nextTurn : GoodIn wsX1_findBest (wsV RX1 48 RX1 yX1_nextTurn wsX1_nextTurn) := goodIn_app (goodIn_of _ (by decide +kernel)) ggX1_findBest_X1_nextTurn
theorem dX1_findBest_0 : decode cX1_findBest 0 = .ok (.iconst 0, 1) := by decide +kernel
theorem dX1_findBest_1 : decode cX1_findBest 1 = .ok (.istore_n 3, 1) := by decide +kernel
theorem dX1_findBest_2 : decode cX1_findBest 2 = .ok (.iload_n 3, 1) := by decide +kernel
theorem dX1_findBest_3 : decode cX1_findBest 3 = .ok (.iconst 5, 1) := by decide +kernel
theorem dX1_findBest_4 : decode cX1_findBest 4 = .ok (.if_icmp .ge 16, 3) := by decide +kernel
theorem dX1_findBest_7 : decode cX1_findBest 7 = .ok (.aload_n 0, 1) := by decide +kernel
theorem dX1_findBest_8 : decode cX1_findBest 8 = .ok (.getfield 18, 3) := by decide +kernel
theorem dX1_findBest_11 : decode cX1_findBest 11 = .ok (.iload_n 3, 1) := by decide +kernel
theorem dX1_findBest_12 : decode cX1_findBest 12 = .ok (.iload_n 3, 1) := by decide +kernel
theorem dX1_findBest_13 : decode cX1_findBest 13 = .ok (.iastore, 1) := by decide +kernel
theorem dX1_findBest_14 : decode cX1_findBest 14 = .ok (.iinc 3 1, 3) := by decide +kernel
theorem dX1_findBest_17 : decode cX1_findBest 17 = .ok (.goto (-15), 3) := by decide +kernel
theorem dX1_findBest_20 : decode cX1_findBest 20 = .ok (.ldc 28, 2) := by decide +kernel
theorem dX1_findBest_22 : decode cX1_findBest 22 = .ok (.istore_n 3, 1) := by decide +kernel
theorem dX1_findBest_23 : decode cX1_findBest 23 = .ok (.iconst 1, 1) := by decide +kernel
theorem dX1_findBest_24 : decode cX1_findBest 24 = .ok (.istore 4, 2) := by decide +kernel
theorem dX1_findBest_26 : decode cX1_findBest 26 = .ok (.iconst 0, 1) := by decide +kernel
theorem dX1_findBest_27 : decode cX1_findBest 27 = .ok (.istore 5, 2) := by decide +kernel
theorem dX1_findBest_29 : decode cX1_findBest 29 = .ok (.iload 5, 2) := by decide +kernel
theorem dX1_findBest_31 : decode cX1_findBest 31 = .ok (.bipush 120, 2) := by decide +kernel
theorem dX1_findBest_33 : decode cX1_findBest 33 = .ok (.if_icmp .ge 64, 3) := by decide +kernel
theorem dX1_findBest_36 : decode cX1_findBest 36 = .ok (.iload 4, 2) := by decide +kernel
theorem dX1_findBest_38 : decode cX1_findBest 38 = .ok (.ifCond .eq 59, 3) := by decide +kernel
theorem dX1_findBest_41 : decode cX1_findBest 41 = .ok (.aload_n 2, 1) := by decide +kernel
theorem dX1_findBest_42 : decode cX1_findBest 42 = .ok (.aload_n 1, 1) := by decide +kernel
theorem dX1_findBest_43 : decode cX1_findBest 43 = .ok (.invokevirtual 29, 3) := by decide +kernel
theorem dX1_findBest_46 : decode cX1_findBest 46 = .ok (.aload_n 0, 1) := by decide +kernel
theorem dX1_findBest_47 : decode cX1_findBest 47 = .ok (.aload_n 2, 1) := by decide +kernel
theorem dX1_findBest_48 : decode cX1_findBest 48 = .ok (.invokevirtual 35, 3) := by decide +kernel
theorem dX1_findBest_51 : decode cX1_findBest 51 = .ok (.aload_n 2, 1) := by decide +kernel
theorem dX1_findBest_52 : decode cX1_findBest 52 = .ok (.invokevirtual 38, 3) := by decide +kernel
theorem dX1_findBest_55 : decode cX1_findBest 55 = .ok (.aload_n 1, 1) := by decide +kernel
theorem dX1_findBest_56 : decode cX1_findBest 56 = .ok (.invokevirtual 38, 3) := by decide +kernel
theorem dX1_findBest_59 : decode cX1_findBest 59 = .ok (.isub, 1) := by decide +kernel
theorem dX1_findBest_60 : decode cX1_findBest 60 = .ok (.istore 6, 2) := by decide +kernel
theorem dX1_findBest_62 : decode cX1_findBest 62 = .ok (.iload 6, 2) := by decide +kernel
theorem dX1_findBest_64 : decode cX1_findBest 64 = .ok (.iload_n 3, 1) := by decide +kernel
theorem dX1_findBest_65 : decode cX1_findBest 65 = .ok (.if_icmp .ge 20, 3) := by decide +kernel
theorem dX1_findBest_68 : decode cX1_findBest 68 = .ok (.iload 6, 2) := by decide +kernel
theorem dX1_findBest_70 : decode cX1_findBest 70 = .ok (.istore_n 3, 1) := by decide +kernel
theorem dX1_findBest_71 : decode cX1_findBest 71 = .ok (.aload_n 0, 1) := by decide +kernel
theorem dX1_findBest_72 : decode cX1_findBest 72 = .ok (.getfield 18, 3) := by decide +kernel
theorem dX1_findBest_75 : decode cX1_findBest 75 = .ok (.iconst 0, 1) := by decide +kernel
theorem dX1_findBest_76 : decode cX1_findBest 76 = .ok (.aload_n 0, 1) := by decide +kernel
theorem dX1_findBest_77 : decode cX1_findBest 77 = .ok (.getfield 21, 3) := by decide +kernel
theorem dX1_findBest_80 : decode cX1_findBest 80 = .ok (.iconst 0, 1) := by decide +kernel
theorem dX1_findBest_81 : decode cX1_findBest 81 = .ok (.iconst 5, 1) := by decide +kernel
theorem dX1_findBest_82 : decode cX1_findBest 82 = .ok (.invokestatic 42, 3) := by decide +kernel
theorem dX1_findBest_85 : decode cX1_findBest 85 = .ok (.aload_n 0, 1) := by decide +kernel
theorem dX1_findBest_86 : decode cX1_findBest 86 = .ok (.invokevirtual 48, 3) := by decide +kernel
theorem dX1_findBest_89 : decode cX1_findBest 89 = .ok (.istore 4, 2) := by decide +kernel
theorem dX1_findBest_91 : decode cX1_findBest 91 = .ok (.iinc 5 1, 3) := by decide +kernel
theorem dX1_findBest_94 : decode cX1_findBest 94 = .ok (.goto (-65), 3) := by decide +kernel
theorem dX1_findBest_97 : decode cX1_findBest 97 = .ok (.iload_n 3, 1) := by decide +kernel
theorem dX1_findBest_98 : decode cX1_findBest 98 = .ok (.ireturn, 1) := by decide +kernel
set_option maxRecDepth 20000 in
theorem ggX1_hear_X1_personAt : GoodIn wsX1_hear wsX1_personAt := goodIn_r _ [6, 7, 8, 93, 94, 95, 96, 97] (by decide +kernel) (by decide +kernel)
set_option maxRecDepth 20000 in
theorem gX1_hear_X1_personAt : GoodIn wsX1_hear (wsV RX1 52 RX1 yX1_personAt wsX1_personAt) := goodIn_app (goodIn_of _ (by decide +kernel)) ggX1_hear_X1_personAt
set_option maxRecDepth 20000 in
theorem ggX1_hear_X1_taleAt : GoodIn wsX1_hear wsX1_taleAt := goodIn_r _ [12, 7, 13, 93, 94, 95, 96, 97] (by decide +kernel) (by decide +kernel)
set_option maxRecDepth 20000 in
theorem gX1_hear_X1_taleAt : GoodIn wsX1_hear (wsV RX1 56 RX1 yX1_taleAt wsX1_taleAt) := goodIn_app (goodIn_of _ (by decide +kernel)) ggX1_hear_X1_taleAt
set_option maxRecDepth 20000 in
theorem ggX1_hear_X6_isAlive : GoodIn wsX1_hear wsX6_isAlive := goodIn_r _ [18, 19, 20, 21, 22, 23, 24, 25, 26, 27, 28, 29, 30, 31, 98, 99, 100, 101, 102, 103, 104, 105, 106, 107] (by decide +kernel) (by decide +kernel)
set_option maxRecDepth 20000 in
theorem gX1_hear_X6_isAlive : GoodIn wsX1_hear (wsV RX1 59 RX6 yX6_isAlive wsX6_isAlive) := goodIn_app (goodIn_of _ (by decide +kernel)) ggX1_hear_X6_isAlive
set_option maxRecDepth 20000 in
theorem ggX1_hear_X6_knows : GoodIn wsX1_hear wsX6_knows := goodIn_r _ [35, 19, 21, 22, 23, 24, 25, 26, 36, 37, 38, 17, 39, 20, 40, 41, 42, 43, 44, 45, 46, 47, 98, 99, 100, 101, 102, 103, 104, 105, 106, 107] (by decide +kernel) (by decide +kernel)
set_option maxRecDepth 20000 in
theorem gX1_hear_X6_knows : GoodIn wsX1_hear (wsV RX1 63 RX6 yX6_knows wsX6_knows) := goodIn_app (goodIn_of _ (by decide +kernel)) ggX1_hear_X6_knows
set_option maxRecDepth 20000 in
theorem ggX1_hear_X1_personsBehind : GoodIn wsX1_hear wsX1_personsBehind := goodIn_r _ [51, 1, 2, 3, 4, 5, 6, 7, 8, 93, 94, 95, 96, 97] (by decide +kernel) (by decide +kernel)
set_option maxRecDepth 20000 in
theorem gX1_hear_X1_personsBehind : GoodIn wsX1_hear (wsV RX1 67 RX1 yX1_personsBehind wsX1_personsBehind) := goodIn_app (goodIn_of _ (by decide +kernel)) ggX1_hear_X1_personsBehind
set_option maxRecDepth 20000 in
theorem ggX1_hear_X6_speak : GoodIn wsX1_hear wsX6_speak := goodIn_r _ [55, 19, 20, 40, 41, 42, 24, 43, 44, 56, 57, 58, 59, 60, 61, 62, 63, 64, 17, 65, 66, 15, 16, 18, 21, 22, 23, 25, 26, 27, 28, 29, 30, 31, 36, 37, 38, 39, 67, 68, 69, 70, 71, 72, 73, 74, 75, 76, 77, 78, 79, 80, 81, 82, 83, 84, 46, 85, 86, 87, 88, 89, 90, 91, 92, 45, 47, 98, 99, 100, 101, 102, 103, 104, 105, 106, 107] (by decide +kernel) (by decide +kernel)
set_option maxRecDepth 20000 in
theorem gX1_hear_X6_speak : GoodIn wsX1_hear (wsV RX1 70 RX6 yX6_speak wsX6_speak) := goodIn_app (goodIn_of _ (by decide +kernel)) ggX1_hear_X6_speak
theorem dX1_hear_0 : decode cX1_hear 0 = .ok (.iconst 0, 1) := by decide +kernel
theorem dX1_hear_1 : decode cX1_hear 1 = .ok (.istore_n 2, 1) := by decide +kernel
theorem dX1_hear_2 : decode cX1_hear 2 = .ok (.iload_n 2, 1) := by decide +kernel
theorem dX1_hear_3 : decode cX1_hear 3 = .ok (.iconst 5, 1) := by decide +kernel
theorem dX1_hear_4 : decode cX1_hear 4 = .ok (.if_icmp .ge 67, 3) := by decide +kernel
theorem dX1_hear_7 : decode cX1_hear 7 = .ok (.iload_n 2, 1) := by decide +kernel
theorem dX1_hear_8 : decode cX1_hear 8 = .ok (.aload_n 0, 1) := by decide +kernel
theorem dX1_hear_9 : decode cX1_hear 9 = .ok (.getfield 24, 3) := by decide +kernel
theorem dX1_hear_12 : decode cX1_hear 12 = .ok (.if_icmp .ge 53, 3) := by decide +kernel
theorem dX1_hear_15 : decode cX1_hear 15 = .ok (.aload_n 0, 1) := by decide +kernel
theorem dX1_hear_16 : decode cX1_hear 16 = .ok (.iload_n 2, 1) := by decide +kernel
theorem dX1_hear_17 : decode cX1_hear 17 = .ok (.invokevirtual 52, 3) := by decide +kernel
theorem dX1_hear_20 : decode cX1_hear 20 = .ok (.istore_n 3, 1) := by decide +kernel
theorem dX1_hear_21 : decode cX1_hear 21 = .ok (.aload_n 0, 1) := by decide +kernel
theorem dX1_hear_22 : decode cX1_hear 22 = .ok (.iload_n 2, 1) := by decide +kernel
theorem dX1_hear_23 : decode cX1_hear 23 = .ok (.invokevirtual 56, 3) := by decide +kernel
theorem dX1_hear_26 : decode cX1_hear 26 = .ok (.istore 4, 2) := by decide +kernel
theorem dX1_hear_28 : decode cX1_hear 28 = .ok (.aload_n 1, 1) := by decide +kernel
theorem dX1_hear_29 : decode cX1_hear 29 = .ok (.iload_n 3, 1) := by decide +kernel
theorem dX1_hear_30 : decode cX1_hear 30 = .ok (.invokevirtual 59, 3) := by decide +kernel
theorem dX1_hear_33 : decode cX1_hear 33 = .ok (.ifCond .eq 32, 3) := by decide +kernel
theorem dX1_hear_36 : decode cX1_hear 36 = .ok (.aload_n 1, 1) := by decide +kernel
theorem dX1_hear_37 : decode cX1_hear 37 = .ok (.iload_n 3, 1) := by decide +kernel
theorem dX1_hear_38 : decode cX1_hear 38 = .ok (.iload 4, 2) := by decide +kernel
theorem dX1_hear_40 : decode cX1_hear 40 = .ok (.invokevirtual 63, 3) := by decide +kernel
theorem dX1_hear_43 : decode cX1_hear 43 = .ok (.ifCond .eq 22, 3) := by decide +kernel
theorem dX1_hear_46 : decode cX1_hear 46 = .ok (.aload_n 1, 1) := by decide +kernel
theorem dX1_hear_47 : decode cX1_hear 47 = .ok (.iload_n 3, 1) := by decide +kernel
theorem dX1_hear_48 : decode cX1_hear 48 = .ok (.iload 4, 2) := by decide +kernel
theorem dX1_hear_50 : decode cX1_hear 50 = .ok (.aload_n 0, 1) := by decide +kernel
theorem dX1_hear_51 : decode cX1_hear 51 = .ok (.iload_n 2, 1) := by decide +kernel
theorem dX1_hear_52 : decode cX1_hear 52 = .ok (.invokevirtual 67, 3) := by decide +kernel
theorem dX1_hear_55 : decode cX1_hear 55 = .ok (.iconst 1, 1) := by decide +kernel
theorem dX1_hear_56 : decode cX1_hear 56 = .ok (.iload_n 3, 1) := by decide +kernel
theorem dX1_hear_57 : decode cX1_hear 57 = .ok (.ishl, 1) := by decide +kernel
theorem dX1_hear_58 : decode cX1_hear 58 = .ok (.iconst (-1), 1) := by decide +kernel
theorem dX1_hear_59 : decode cX1_hear 59 = .ok (.ixor, 1) := by decide +kernel
theorem dX1_hear_60 : decode cX1_hear 60 = .ok (.iand, 1) := by decide +kernel
theorem dX1_hear_61 : decode cX1_hear 61 = .ok (.invokevirtual 70, 3) := by decide +kernel
theorem dX1_hear_64 : decode cX1_hear 64 = .ok (.pop, 1) := by decide +kernel
theorem dX1_hear_65 : decode cX1_hear 65 = .ok (.iinc 2 1, 3) := by decide +kernel
theorem dX1_hear_68 : decode cX1_hear 68 = .ok (.goto (-66), 3) := by decide +kernel
theorem dX1_hear_71 : decode cX1_hear 71 = .ok (.return_, 1) := by decide +kernel
set_option maxRecDepth 20000 in
theorem ggX1_personsBehind_X1_personAt : GoodIn wsX1_personsBehind wsX1_personAt := goodIn_r _ [6, 7, 8, 9, 10, 11, 12, 13] (by decide +kernel) (by decide +kernel)
set_option maxRecDepth 20000 in
theorem gX1_personsBehind_X1_personAt : GoodIn wsX1_personsBehind (wsV RX1 52 RX1 yX1_personAt wsX1_personAt) := goodIn_app (goodIn_of _ (by decide +kernel)) ggX1_personsBehind_X1_personAt
theorem dX1_personsBehind_0 : decode cX1_personsBehind 0 = .ok (.iconst 0, 1) := by decide +kernel
theorem dX1_personsBehind_1 : decode cX1_personsBehind 1 = .ok (.istore_n 2, 1) := by decide +kernel
theorem dX1_personsBehind_2 : decode cX1_personsBehind 2 = .ok (.iconst 0, 1) := by decide +kernel
theorem dX1_personsBehind_3 : decode cX1_personsBehind 3 = .ok (.istore_n 3, 1) := by decide +kernel
theorem dX1_personsBehind_4 : decode cX1_personsBehind 4 = .ok (.iload_n 3, 1) := by decide +kernel
theorem dX1_personsBehind_5 : decode cX1_personsBehind 5 = .ok (.iconst 5, 1) := by decide +kernel
theorem dX1_personsBehind_6 : decode cX1_personsBehind 6 = .ok (.if_icmp .ge 32, 3) := by decide +kernel
theorem dX1_personsBehind_9 : decode cX1_personsBehind 9 = .ok (.iload_n 3, 1) := by decide +kernel
theorem dX1_personsBehind_10 : decode cX1_personsBehind 10 = .ok (.iload_n 1, 1) := by decide +kernel
theorem dX1_personsBehind_11 : decode cX1_personsBehind 11 = .ok (.if_icmp .le 21, 3) := by decide +kernel
theorem dX1_personsBehind_14 : decode cX1_personsBehind 14 = .ok (.iload_n 3, 1) := by decide +kernel
theorem dX1_personsBehind_15 : decode cX1_personsBehind 15 = .ok (.aload_n 0, 1) := by decide +kernel
theorem dX1_personsBehind_16 : decode cX1_personsBehind 16 = .ok (.getfield 24, 3) := by decide +kernel
theorem dX1_personsBehind_19 : decode cX1_personsBehind 19 = .ok (.if_icmp .ge 13, 3) := by decide +kernel
theorem dX1_personsBehind_22 : decode cX1_personsBehind 22 = .ok (.iload_n 2, 1) := by decide +kernel
theorem dX1_personsBehind_23 : decode cX1_personsBehind 23 = .ok (.iconst 1, 1) := by decide +kernel
theorem dX1_personsBehind_24 : decode cX1_personsBehind 24 = .ok (.aload_n 0, 1) := by decide +kernel
theorem dX1_personsBehind_25 : decode cX1_personsBehind 25 = .ok (.iload_n 3, 1) := by decide +kernel
theorem dX1_personsBehind_26 : decode cX1_personsBehind 26 = .ok (.invokevirtual 52, 3) := by decide +kernel
theorem dX1_personsBehind_29 : decode cX1_personsBehind 29 = .ok (.ishl, 1) := by decide +kernel
theorem dX1_personsBehind_30 : decode cX1_personsBehind 30 = .ok (.ior, 1) := by decide +kernel
theorem dX1_personsBehind_31 : decode cX1_personsBehind 31 = .ok (.istore_n 2, 1) := by decide +kernel
theorem dX1_personsBehind_32 : decode cX1_personsBehind 32 = .ok (.iinc 3 1, 3) := by decide +kernel
theorem dX1_personsBehind_35 : decode cX1_personsBehind 35 = .ok (.goto (-31), 3) := by decide +kernel
theorem dX1_personsBehind_38 : decode cX1_personsBehind 38 = .ok (.iload_n 2, 1) := by decide +kernel
theorem dX1_personsBehind_39 : decode cX1_personsBehind 39 = .ok (.ireturn, 1) := by decide +kernel
theorem dX1_personAt_0 : decode cX1_personAt 0 = .ok (.iload_n 1, 1) := by decide +kernel
theorem dX1_personAt_1 : decode cX1_personAt 1 = .ok (.ifCond .lt 17, 3) := by decide +kernel
theorem dX1_personAt_4 : decode cX1_personAt 4 = .ok (.iload_n 1, 1) := by decide +kernel
theorem dX1_personAt_5 : decode cX1_personAt 5 = .ok (.iconst 5, 1) := by decide +kernel
theorem dX1_personAt_6 : decode cX1_personAt 6 = .ok (.if_icmp .ge 12, 3) := by decide +kernel
theorem dX1_personAt_9 : decode cX1_personAt 9 = .ok (.aload_n 0, 1) := by decide +kernel
theorem dX1_personAt_10 : decode cX1_personAt 10 = .ok (.getfield 18, 3) := by decide +kernel
theorem dX1_personAt_13 : decode cX1_personAt 13 = .ok (.iload_n 1, 1) := by decide +kernel
theorem dX1_personAt_14 : decode cX1_personAt 14 = .ok (.iaload, 1) := by decide +kernel
theorem dX1_personAt_15 : decode cX1_personAt 15 = .ok (.goto 4, 3) := by decide +kernel
theorem dX1_personAt_18 : decode cX1_personAt 18 = .ok (.iconst 0, 1) := by decide +kernel
theorem dX1_personAt_19 : decode cX1_personAt 19 = .ok (.istore_n 2, 1) := by decide +kernel
theorem dX1_personAt_20 : decode cX1_personAt 20 = .ok (.iload_n 2, 1) := by decide +kernel
theorem dX1_personAt_21 : decode cX1_personAt 21 = .ok (.ifCond .lt 17, 3) := by decide +kernel
theorem dX1_personAt_24 : decode cX1_personAt 24 = .ok (.iload_n 2, 1) := by decide +kernel
theorem dX1_personAt_25 : decode cX1_personAt 25 = .ok (.iconst 5, 1) := by decide +kernel
theorem dX1_personAt_26 : decode cX1_personAt 26 = .ok (.if_icmp .ge 12, 3) := by decide +kernel
theorem dX1_personAt_29 : decode cX1_personAt 29 = .ok (.aload_n 0, 1) := by decide +kernel
theorem dX1_personAt_30 : decode cX1_personAt 30 = .ok (.getfield 9, 3) := by decide +kernel
theorem dX1_personAt_33 : decode cX1_personAt 33 = .ok (.iload_n 2, 1) := by decide +kernel
theorem dX1_personAt_34 : decode cX1_personAt 34 = .ok (.iaload, 1) := by decide +kernel
theorem dX1_personAt_35 : decode cX1_personAt 35 = .ok (.goto 4, 3) := by decide +kernel
theorem dX1_personAt_38 : decode cX1_personAt 38 = .ok (.iconst 0, 1) := by decide +kernel
theorem dX1_personAt_39 : decode cX1_personAt 39 = .ok (.ireturn, 1) := by decide +kernel
theorem dX1_taleAt_0 : decode cX1_taleAt 0 = .ok (.iload_n 1, 1) := by decide +kernel
theorem dX1_taleAt_1 : decode cX1_taleAt 1 = .ok (.ifCond .lt 17, 3) := by decide +kernel
theorem dX1_taleAt_4 : decode cX1_taleAt 4 = .ok (.iload_n 1, 1) := by decide +kernel
theorem dX1_taleAt_5 : decode cX1_taleAt 5 = .ok (.iconst 5, 1) := by decide +kernel
theorem dX1_taleAt_6 : decode cX1_taleAt 6 = .ok (.if_icmp .ge 12, 3) := by decide +kernel
theorem dX1_taleAt_9 : decode cX1_taleAt 9 = .ok (.aload_n 0, 1) := by decide +kernel
theorem dX1_taleAt_10 : decode cX1_taleAt 10 = .ok (.getfield 18, 3) := by decide +kernel
theorem dX1_taleAt_13 : decode cX1_taleAt 13 = .ok (.iload_n 1, 1) := by decide +kernel
theorem dX1_taleAt_14 : decode cX1_taleAt 14 = .ok (.iaload, 1) := by decide +kernel
theorem dX1_taleAt_15 : decode cX1_taleAt 15 = .ok (.goto 4, 3) := by decide +kernel
theorem dX1_taleAt_18 : decode cX1_taleAt 18 = .ok (.iconst 0, 1) := by decide +kernel
theorem dX1_taleAt_19 : decode cX1_taleAt 19 = .ok (.istore_n 2, 1) := by decide +kernel
theorem dX1_taleAt_20 : decode cX1_taleAt 20 = .ok (.iload_n 2, 1) := by decide +kernel
theorem dX1_taleAt_21 : decode cX1_taleAt 21 = .ok (.ifCond .lt 17, 3) := by decide +kernel
theorem dX1_taleAt_24 : decode cX1_taleAt 24 = .ok (.iload_n 2, 1) := by decide +kernel
theorem dX1_taleAt_25 : decode cX1_taleAt 25 = .ok (.iconst 5, 1) := by decide +kernel
theorem dX1_taleAt_26 : decode cX1_taleAt 26 = .ok (.if_icmp .ge 12, 3) := by decide +kernel
theorem dX1_taleAt_29 : decode cX1_taleAt 29 = .ok (.aload_n 0, 1) := by decide +kernel
theorem dX1_taleAt_30 : decode cX1_taleAt 30 = .ok (.getfield 15, 3) := by decide +kernel
theorem dX1_taleAt_33 : decode cX1_taleAt 33 = .ok (.iload_n 2, 1) := by decide +kernel
theorem dX1_taleAt_34 : decode cX1_taleAt 34 = .ok (.iaload, 1) := by decide +kernel
theorem dX1_taleAt_35 : decode cX1_taleAt 35 = .ok (.goto 4, 3) := by decide +kernel
theorem dX1_taleAt_38 : decode cX1_taleAt 38 = .ok (.iconst 0, 1) := by decide +kernel
theorem dX1_taleAt_39 : decode cX1_taleAt 39 = .ok (.ireturn, 1) := by decide +kernel
set_option maxRecDepth 20000 in
theorem ggX1_nextTurn_X1_swap : GoodIn wsX1_nextTurn wsX1_swap := goodIn_r _ [7, 2, 8, 9, 10, 11, 12] (by decide +kernel) (by decide +kernel)
set_option maxRecDepth 20000 in
theorem gX1_nextTurn_X1_swap : GoodIn wsX1_nextTurn (wsV RX1 74 RX1 yX1_swap wsX1_swap) := goodIn_app (goodIn_of _ (by decide +kernel)) ggX1_nextTurn_X1_swap
theorem dX1_nextTurn_0 : decode cX1_nextTurn 0 = .ok (.iconst (-1), 1) := by decide +kernel
theorem dX1_nextTurn_1 : decode cX1_nextTurn 1 = .ok (.istore_n 1, 1) := by decide +kernel
theorem dX1_nextTurn_2 : decode cX1_nextTurn 2 = .ok (.iconst 0, 1) := by decide +kernel
theorem dX1_nextTurn_3 : decode cX1_nextTurn 3 = .ok (.istore_n 2, 1) := by decide +kernel
theorem dX1_nextTurn_4 : decode cX1_nextTurn 4 = .ok (.iload_n 2, 1) := by decide +kernel
theorem dX1_nextTurn_5 : decode cX1_nextTurn 5 = .ok (.iconst 1, 1) := by decide +kernel
theorem dX1_nextTurn_6 : decode cX1_nextTurn 6 = .ok (.iadd, 1) := by decide +kernel
theorem dX1_nextTurn_7 : decode cX1_nextTurn 7 = .ok (.iconst 5, 1) := by decide +kernel
theorem dX1_nextTurn_8 : decode cX1_nextTurn 8 = .ok (.if_icmp .ge 38, 3) := by decide +kernel
theorem dX1_nextTurn_11 : decode cX1_nextTurn 11 = .ok (.iload_n 2, 1) := by decide +kernel
theorem dX1_nextTurn_12 : decode cX1_nextTurn 12 = .ok (.iconst 1, 1) := by decide +kernel
theorem dX1_nextTurn_13 : decode cX1_nextTurn 13 = .ok (.iadd, 1) := by decide +kernel
theorem dX1_nextTurn_14 : decode cX1_nextTurn 14 = .ok (.aload_n 0, 1) := by decide +kernel
theorem dX1_nextTurn_15 : decode cX1_nextTurn 15 = .ok (.getfield 24, 3) := by decide +kernel
theorem dX1_nextTurn_18 : decode cX1_nextTurn 18 = .ok (.if_icmp .ge 22, 3) := by decide +kernel
theorem dX1_nextTurn_21 : decode cX1_nextTurn 21 = .ok (.aload_n 0, 1) := by decide +kernel
theorem dX1_nextTurn_22 : decode cX1_nextTurn 22 = .ok (.getfield 18, 3) := by decide +kernel
theorem dX1_nextTurn_25 : decode cX1_nextTurn 25 = .ok (.iload_n 2, 1) := by decide +kernel
theorem dX1_nextTurn_26 : decode cX1_nextTurn 26 = .ok (.iaload, 1) := by decide +kernel
theorem dX1_nextTurn_27 : decode cX1_nextTurn 27 = .ok (.aload_n 0, 1) := by decide +kernel
theorem dX1_nextTurn_28 : decode cX1_nextTurn 28 = .ok (.getfield 18, 3) := by decide +kernel
theorem dX1_nextTurn_31 : decode cX1_nextTurn 31 = .ok (.iload_n 2, 1) := by decide +kernel
theorem dX1_nextTurn_32 : decode cX1_nextTurn 32 = .ok (.iconst 1, 1) := by decide +kernel
theorem dX1_nextTurn_33 : decode cX1_nextTurn 33 = .ok (.iadd, 1) := by decide +kernel
theorem dX1_nextTurn_34 : decode cX1_nextTurn 34 = .ok (.iaload, 1) := by decide +kernel
theorem dX1_nextTurn_35 : decode cX1_nextTurn 35 = .ok (.if_icmp .ge 5, 3) := by decide +kernel
theorem dX1_nextTurn_38 : decode cX1_nextTurn 38 = .ok (.iload_n 2, 1) := by decide +kernel
theorem dX1_nextTurn_39 : decode cX1_nextTurn 39 = .ok (.istore_n 1, 1) := by decide +kernel
theorem dX1_nextTurn_40 : decode cX1_nextTurn 40 = .ok (.iinc 2 1, 3) := by decide +kernel
theorem dX1_nextTurn_43 : decode cX1_nextTurn 43 = .ok (.goto (-39), 3) := by decide +kernel
theorem dX1_nextTurn_46 : decode cX1_nextTurn 46 = .ok (.iload_n 1, 1) := by decide +kernel
theorem dX1_nextTurn_47 : decode cX1_nextTurn 47 = .ok (.ifCond .ge 5, 3) := by decide +kernel
theorem dX1_nextTurn_50 : decode cX1_nextTurn 50 = .ok (.iconst 0, 1) := by decide +kernel
theorem dX1_nextTurn_51 : decode cX1_nextTurn 51 = .ok (.ireturn, 1) := by decide +kernel
theorem dX1_nextTurn_52 : decode cX1_nextTurn 52 = .ok (.iload_n 1, 1) := by decide +kernel
theorem dX1_nextTurn_53 : decode cX1_nextTurn 53 = .ok (.istore_n 2, 1) := by decide +kernel
theorem dX1_nextTurn_54 : decode cX1_nextTurn 54 = .ok (.iconst 0, 1) := by decide +kernel
theorem dX1_nextTurn_55 : decode cX1_nextTurn 55 = .ok (.istore_n 3, 1) := by decide +kernel
theorem dX1_nextTurn_56 : decode cX1_nextTurn 56 = .ok (.iload_n 3, 1) := by decide +kernel
theorem dX1_nextTurn_57 : decode cX1_nextTurn 57 = .ok (.iconst 5, 1) := by decide +kernel
theorem dX1_nextTurn_58 : decode cX1_nextTurn 58 = .ok (.if_icmp .ge 39, 3) := by decide +kernel
theorem dX1_nextTurn_61 : decode cX1_nextTurn 61 = .ok (.iload_n 3, 1) := by decide +kernel
theorem dX1_nextTurn_62 : decode cX1_nextTurn 62 = .ok (.iload_n 1, 1) := by decide +kernel
theorem dX1_nextTurn_63 : decode cX1_nextTurn 63 = .ok (.if_icmp .le 28, 3) := by decide +kernel
theorem dX1_nextTurn_66 : decode cX1_nextTurn 66 = .ok (.iload_n 3, 1) := by decide +kernel
theorem dX1_nextTurn_67 : decode cX1_nextTurn 67 = .ok (.aload_n 0, 1) := by decide +kernel
theorem dX1_nextTurn_68 : decode cX1_nextTurn 68 = .ok (.getfield 24, 3) := by decide +kernel
theorem dX1_nextTurn_71 : decode cX1_nextTurn 71 = .ok (.if_icmp .ge 20, 3) := by decide +kernel
theorem dX1_nextTurn_74 : decode cX1_nextTurn 74 = .ok (.aload_n 0, 1) := by decide +kernel
theorem dX1_nextTurn_75 : decode cX1_nextTurn 75 = .ok (.getfield 18, 3) := by decide +kernel
theorem dX1_nextTurn_78 : decode cX1_nextTurn 78 = .ok (.iload_n 3, 1) := by decide +kernel
theorem dX1_nextTurn_79 : decode cX1_nextTurn 79 = .ok (.iaload, 1) := by decide +kernel
theorem dX1_nextTurn_80 : decode cX1_nextTurn 80 = .ok (.aload_n 0, 1) := by decide +kernel
theorem dX1_nextTurn_81 : decode cX1_nextTurn 81 = .ok (.getfield 18, 3) := by decide +kernel
theorem dX1_nextTurn_84 : decode cX1_nextTurn 84 = .ok (.iload_n 1, 1) := by decide +kernel
theorem dX1_nextTurn_85 : decode cX1_nextTurn 85 = .ok (.iaload, 1) := by decide +kernel
theorem dX1_nextTurn_86 : decode cX1_nextTurn 86 = .ok (.if_icmp .le 5, 3) := by decide +kernel
theorem dX1_nextTurn_89 : decode cX1_nextTurn 89 = .ok (.iload_n 3, 1) := by decide +kernel
theorem dX1_nextTurn_90 : decode cX1_nextTurn 90 = .ok (.istore_n 2, 1) := by decide +kernel
theorem dX1_nextTurn_91 : decode cX1_nextTurn 91 = .ok (.iinc 3 1, 3) := by decide +kernel
theorem dX1_nextTurn_94 : decode cX1_nextTurn 94 = .ok (.goto (-38), 3) := by decide +kernel
theorem dX1_nextTurn_97 : decode cX1_nextTurn 97 = .ok (.aload_n 0, 1) := by decide +kernel
theorem dX1_nextTurn_98 : decode cX1_nextTurn 98 = .ok (.iload_n 1, 1) := by decide +kernel
theorem dX1_nextTurn_99 : decode cX1_nextTurn 99 = .ok (.iload_n 2, 1) := by decide +kernel
theorem dX1_nextTurn_100 : decode cX1_nextTurn 100 = .ok (.invokevirtual 74, 3) := by decide +kernel
theorem dX1_nextTurn_103 : decode cX1_nextTurn 103 = .ok (.iload_n 1, 1) := by decide +kernel
theorem dX1_nextTurn_104 : decode cX1_nextTurn 104 = .ok (.iconst 1, 1) := by decide +kernel
theorem dX1_nextTurn_105 : decode cX1_nextTurn 105 = .ok (.iadd, 1) := by decide +kernel
theorem dX1_nextTurn_106 : decode cX1_nextTurn 106 = .ok (.istore_n 3, 1) := by decide +kernel
theorem dX1_nextTurn_107 : decode cX1_nextTurn 107 = .ok (.aload_n 0, 1) := by decide +kernel
theorem dX1_nextTurn_108 : decode cX1_nextTurn 108 = .ok (.getfield 24, 3) := by decide +kernel
theorem dX1_nextTurn_111 : decode cX1_nextTurn 111 = .ok (.iconst 1, 1) := by decide +kernel
theorem dX1_nextTurn_112 : decode cX1_nextTurn 112 = .ok (.isub, 1) := by decide +kernel
theorem dX1_nextTurn_113 : decode cX1_nextTurn 113 = .ok (.istore 4, 2) := by decide +kernel
theorem dX1_nextTurn_115 : decode cX1_nextTurn 115 = .ok (.iload_n 3, 1) := by decide +kernel
theorem dX1_nextTurn_116 : decode cX1_nextTurn 116 = .ok (.iload 4, 2) := by decide +kernel
theorem dX1_nextTurn_118 : decode cX1_nextTurn 118 = .ok (.if_icmp .ge 19, 3) := by decide +kernel
theorem dX1_nextTurn_121 : decode cX1_nextTurn 121 = .ok (.aload_n 0, 1) := by decide +kernel
theorem dX1_nextTurn_122 : decode cX1_nextTurn 122 = .ok (.iload_n 3, 1) := by decide +kernel
theorem dX1_nextTurn_123 : decode cX1_nextTurn 123 = .ok (.iload 4, 2) := by decide +kernel
theorem dX1_nextTurn_125 : decode cX1_nextTurn 125 = .ok (.invokevirtual 74, 3) := by decide +kernel
theorem dX1_nextTurn_128 : decode cX1_nextTurn 128 = .ok (.iinc 3 1, 3) := by decide +kernel
theorem dX1_nextTurn_131 : decode cX1_nextTurn 131 = .ok (.iinc 4 (-1), 3) := by decide +kernel
theorem dX1_nextTurn_134 : decode cX1_nextTurn 134 = .ok (.goto (-19), 3) := by decide +kernel
theorem dX1_nextTurn_137 : decode cX1_nextTurn 137 = .ok (.iconst 1, 1) := by decide +kernel
theorem dX1_nextTurn_138 : decode cX1_nextTurn 138 = .ok (.ireturn, 1) := by decide +kernel
theorem dX1_swap_0 : decode cX1_swap 0 = .ok (.iload_n 1, 1) := by decide +kernel
theorem dX1_swap_1 : decode cX1_swap 1 = .ok (.ifCond .lt 43, 3) := by decide +kernel
theorem dX1_swap_4 : decode cX1_swap 4 = .ok (.iload_n 1, 1) := by decide +kernel
theorem dX1_swap_5 : decode cX1_swap 5 = .ok (.iconst 5, 1) := by decide +kernel
theorem dX1_swap_6 : decode cX1_swap 6 = .ok (.if_icmp .ge 38, 3) := by decide +kernel
theorem dX1_swap_9 : decode cX1_swap 9 = .ok (.iload_n 2, 1) := by decide +kernel
theorem dX1_swap_10 : decode cX1_swap 10 = .ok (.ifCond .lt 34, 3) := by decide +kernel
theorem dX1_swap_13 : decode cX1_swap 13 = .ok (.iload_n 2, 1) := by decide +kernel
theorem dX1_swap_14 : decode cX1_swap 14 = .ok (.iconst 5, 1) := by decide +kernel
theorem dX1_swap_15 : decode cX1_swap 15 = .ok (.if_icmp .ge 29, 3) := by decide +kernel
theorem dX1_swap_18 : decode cX1_swap 18 = .ok (.aload_n 0, 1) := by decide +kernel
theorem dX1_swap_19 : decode cX1_swap 19 = .ok (.getfield 18, 3) := by decide +kernel
theorem dX1_swap_22 : decode cX1_swap 22 = .ok (.iload_n 1, 1) := by decide +kernel
theorem dX1_swap_23 : decode cX1_swap 23 = .ok (.iaload, 1) := by decide +kernel
theorem dX1_swap_24 : decode cX1_swap 24 = .ok (.istore_n 3, 1) := by decide +kernel
theorem dX1_swap_25 : decode cX1_swap 25 = .ok (.aload_n 0, 1) := by decide +kernel
theorem dX1_swap_26 : decode cX1_swap 26 = .ok (.getfield 18, 3) := by decide +kernel
theorem dX1_swap_29 : decode cX1_swap 29 = .ok (.iload_n 1, 1) := by decide +kernel
theorem dX1_swap_30 : decode cX1_swap 30 = .ok (.aload_n 0, 1) := by decide +kernel
theorem dX1_swap_31 : decode cX1_swap 31 = .ok (.getfield 18, 3) := by decide +kernel
theorem dX1_swap_34 : decode cX1_swap 34 = .ok (.iload_n 2, 1) := by decide +kernel
theorem dX1_swap_35 : decode cX1_swap 35 = .ok (.iaload, 1) := by decide +kernel
theorem dX1_swap_36 : decode cX1_swap 36 = .ok (.iastore, 1) := by decide +kernel
theorem dX1_swap_37 : decode cX1_swap 37 = .ok (.aload_n 0, 1) := by decide +kernel
theorem dX1_swap_38 : decode cX1_swap 38 = .ok (.getfield 18, 3) := by decide +kernel
theorem dX1_swap_41 : decode cX1_swap 41 = .ok (.iload_n 2, 1) := by decide +kernel
theorem dX1_swap_42 : decode cX1_swap 42 = .ok (.iload_n 3, 1) := by decide +kernel
theorem dX1_swap_43 : decode cX1_swap 43 = .ok (.iastore, 1) := by decide +kernel
theorem dX1_swap_44 : decode cX1_swap 44 = .ok (.return_, 1) := by decide +kernel
theorem dX2_init_0 : decode cX2_init 0 = .ok (.aload_n 0, 1) := by decide +kernel
theorem dX2_init_1 : decode cX2_init 1 = .ok (.invokespecial 3, 3) := by decide +kernel
theorem dX2_init_4 : decode cX2_init 4 = .ok (.aload_n 0, 1) := by decide +kernel
theorem dX2_init_5 : decode cX2_init 5 = .ok (.iconst 0, 1) := by decide +kernel
theorem dX2_init_6 : decode cX2_init 6 = .ok (.putfield 9, 3) := by decide +kernel
theorem dX2_init_9 : decode cX2_init 9 = .ok (.aload_n 0, 1) := by decide +kernel
theorem dX2_init_10 : decode cX2_init 10 = .ok (.iconst 0, 1) := by decide +kernel
theorem dX2_init_11 : decode cX2_init 11 = .ok (.putfield 15, 3) := by decide +kernel
theorem dX2_init_14 : decode cX2_init 14 = .ok (.return_, 1) := by decide +kernel
set_option maxRecDepth 20000 in
theorem ggX2_readAll_X7_clear : GoodIn wsX2_readAll wsX7_clear := goodIn_r _ [6, 7, 8, 9, 61, 62, 63, 64, 65, 66, 67, 68] (by decide +kernel) (by decide +kernel)
set_option maxRecDepth 20000 in
theorem gX2_readAll_X7_clear : GoodIn wsX2_readAll (wsV RX2 18 RX7 yX7_clear wsX7_clear) := goodIn_app (goodIn_of _ (by decide +kernel)) ggX2_readAll_X7_clear
set_option maxRecDepth 20000 in
theorem ggX2_readAll_X3_size : GoodIn wsX2_readAll wsX3_size := goodIn_r _ [14, 15, 69, 70] (by decide +kernel) (by decide +kernel)
set_option maxRecDepth 20000 in
theorem gX2_readAll_X3_size : GoodIn wsX2_readAll (wsV RX2 23 RX3 yX3_size wsX3_size) := goodIn_app (goodIn_of _ (by decide +kernel)) ggX2_readAll_X3_size
set_option maxRecDepth 20000 in
theorem ggX2_readAll_X2_readItem : GoodIn wsX2_readAll wsX2_readItem := goodIn_r _ [20, 1, 21, 22, 23, 24, 13, 25, 15, 26, 27, 28, 29, 19, 30, 31, 32, 33, 34, 35, 36, 5, 37, 9, 38, 39, 40, 41, 7, 42, 43, 44, 45, 46, 47, 48, 49, 50, 51, 52, 53, 54, 55, 56, 8, 57, 58, 59, 60, 69, 70, 61, 62, 63, 64, 65, 66, 67, 68] (by decide +kernel) (by decide +kernel)
set_option maxRecDepth 20000 in
theorem gX2_readAll_X2_readItem : GoodIn wsX2_readAll (wsV RX2 29 RX2 yX2_readItem wsX2_readItem) := goodIn_app (goodIn_of _ (by decide +kernel)) ggX2_readAll_X2_readItem
theorem dX2_readAll_0 : decode cX2_readAll 0 = .ok (.aload_n 2, 1) := by decide +kernel
theorem dX2_readAll_1 : decode cX2_readAll 1 = .ok (.invokevirtual 18, 3) := by decide +kernel
theorem dX2_readAll_4 : decode cX2_readAll 4 = .ok (.aload_n 0, 1) := by decide +kernel
theorem dX2_readAll_5 : decode cX2_readAll 5 = .ok (.iconst 0, 1) := by decide +kernel
theorem dX2_readAll_6 : decode cX2_readAll 6 = .ok (.putfield 9, 3) := by decide +kernel
theorem dX2_readAll_9 : decode cX2_readAll 9 = .ok (.iconst 0, 1) := by decide +kernel
theorem dX2_readAll_10 : decode cX2_readAll 10 = .ok (.istore_n 3, 1) := by decide +kernel
theorem dX2_readAll_11 : decode cX2_readAll 11 = .ok (.iload_n 3, 1) := by decide +kernel
theorem dX2_readAll_12 : decode cX2_readAll 12 = .ok (.sipush 200, 3) := by decide +kernel
theorem dX2_readAll_15 : decode cX2_readAll 15 = .ok (.if_icmp .ge 38, 3) := by decide +kernel
theorem dX2_readAll_18 : decode cX2_readAll 18 = .ok (.aload_n 0, 1) := by decide +kernel
theorem dX2_readAll_19 : decode cX2_readAll 19 = .ok (.getfield 9, 3) := by decide +kernel
theorem dX2_readAll_22 : decode cX2_readAll 22 = .ok (.aload_n 1, 1) := by decide +kernel
theorem dX2_readAll_23 : decode cX2_readAll 23 = .ok (.invokevirtual 23, 3) := by decide +kernel
theorem dX2_readAll_26 : decode cX2_readAll 26 = .ok (.if_icmp .ge 27, 3) := by decide +kernel
theorem dX2_readAll_29 : decode cX2_readAll 29 = .ok (.aload_n 0, 1) := by decide +kernel
theorem dX2_readAll_30 : decode cX2_readAll 30 = .ok (.getfield 9, 3) := by decide +kernel
theorem dX2_readAll_33 : decode cX2_readAll 33 = .ok (.istore 4, 2) := by decide +kernel
theorem dX2_readAll_35 : decode cX2_readAll 35 = .ok (.aload_n 0, 1) := by decide +kernel
theorem dX2_readAll_36 : decode cX2_readAll 36 = .ok (.aload_n 1, 1) := by decide +kernel
theorem dX2_readAll_37 : decode cX2_readAll 37 = .ok (.aload_n 2, 1) := by decide +kernel
theorem dX2_readAll_38 : decode cX2_readAll 38 = .ok (.invokevirtual 29, 3) := by decide +kernel
theorem dX2_readAll_41 : decode cX2_readAll 41 = .ok (.ifCond .ne 6, 3) := by decide +kernel
theorem dX2_readAll_44 : decode cX2_readAll 44 = .ok (.iload 4, 2) := by decide +kernel
theorem dX2_readAll_46 : decode cX2_readAll 46 = .ok (.ireturn, 1) := by decide +kernel
theorem dX2_readAll_47 : decode cX2_readAll 47 = .ok (.iinc 3 1, 3) := by decide +kernel
theorem dX2_readAll_50 : decode cX2_readAll 50 = .ok (.goto (-39), 3) := by decide +kernel
theorem dX2_readAll_53 : decode cX2_readAll 53 = .ok (.bipush (-4), 2) := by decide +kernel
theorem dX2_readAll_55 : decode cX2_readAll 55 = .ok (.ireturn, 1) := by decide +kernel
set_option maxRecDepth 20000 in
theorem ggX2_readItem_X3_at : GoodIn wsX2_readItem wsX3_at := goodIn_r _ [7, 8, 9, 49, 50] (by decide +kernel) (by decide +kernel)
set_option maxRecDepth 20000 in
theorem gX2_readItem_X3_at : GoodIn wsX2_readItem (wsV RX2 33 RX3 yX3_at wsX3_at) := goodIn_app (goodIn_of _ (by decide +kernel)) ggX2_readItem_X3_at
set_option maxRecDepth 20000 in
theorem ggX2_readItem_X2_readNumber : GoodIn wsX2_readItem wsX2_readNumber := goodIn_r _ [14, 1, 2, 3, 4, 5, 6, 7, 8, 9, 15, 16, 13, 17, 47, 48, 49, 50] (by decide +kernel) (by decide +kernel)
set_option maxRecDepth 20000 in
theorem gX2_readItem_X2_readNumber : GoodIn wsX2_readItem (wsV RX2 37 RX2 yX2_readNumber wsX2_readNumber) := goodIn_app (goodIn_of _ (by decide +kernel)) ggX2_readItem_X2_readNumber
set_option maxRecDepth 20000 in
theorem ggX2_readItem_X7_addDeath : GoodIn wsX2_readItem wsX7_addDeath := goodIn_r _ [22, 23, 51, 52, 53, 54, 55, 56, 57, 58] (by decide +kernel) (by decide +kernel)
set_option maxRecDepth 20000 in
theorem gX2_readItem_X7_addDeath : GoodIn wsX2_readItem (wsV RX2 41 RX7 yX7_addDeath wsX7_addDeath) := goodIn_app (goodIn_of _ (by decide +kernel)) ggX2_readItem_X7_addDeath
set_option maxRecDepth 20000 in
theorem ggX2_readItem_X7_addPerson : GoodIn wsX2_readItem wsX7_addPerson := goodIn_r _ [27, 28, 29, 30, 31, 51, 52, 53, 54, 55, 56, 57, 58] (by decide +kernel) (by decide +kernel)
set_option maxRecDepth 20000 in
theorem gX2_readItem_X7_addPerson : GoodIn wsX2_readItem (wsV RX2 45 RX7 yX7_addPerson wsX7_addPerson) := goodIn_app (goodIn_of _ (by decide +kernel)) ggX2_readItem_X7_addPerson
set_option maxRecDepth 20000 in
theorem ggX2_readItem_X7_addMeeting : GoodIn wsX2_readItem wsX7_addMeeting := goodIn_r _ [35, 31, 36, 37, 38, 21, 39, 28, 51, 52, 53, 54, 55, 56, 57, 58] (by decide +kernel) (by decide +kernel)
set_option maxRecDepth 20000 in
theorem gX2_readItem_X7_addMeeting : GoodIn wsX2_readItem (wsV RX2 49 RX7 yX7_addMeeting wsX7_addMeeting) := goodIn_app (goodIn_of _ (by decide +kernel)) ggX2_readItem_X7_addMeeting
set_option maxRecDepth 20000 in
theorem ggX2_readItem_X7_addSecret : GoodIn wsX2_readItem wsX7_addSecret := goodIn_r _ [43, 44, 45, 46, 36, 37, 38, 21, 39, 28, 51, 52, 53, 54, 55, 56, 57, 58] (by decide +kernel) (by decide +kernel)
set_option maxRecDepth 20000 in
theorem gX2_readItem_X7_addSecret : GoodIn wsX2_readItem (wsV RX2 52 RX7 yX7_addSecret wsX7_addSecret) := goodIn_app (goodIn_of _ (by decide +kernel)) ggX2_readItem_X7_addSecret
theorem dX2_readItem_0 : decode cX2_readItem 0 = .ok (.aload_n 1, 1) := by decide +kernel
theorem dX2_readItem_1 : decode cX2_readItem 1 = .ok (.aload_n 0, 1) := by decide +kernel
theorem dX2_readItem_2 : decode cX2_readItem 2 = .ok (.getfield 9, 3) := by decide +kernel
theorem dX2_readItem_5 : decode cX2_readItem 5 = .ok (.invokevirtual 33, 3) := by decide +kernel
theorem dX2_readItem_8 : decode cX2_readItem 8 = .ok (.istore_n 3, 1) := by decide +kernel
theorem dX2_readItem_9 : decode cX2_readItem 9 = .ok (.aload_n 0, 1) := by decide +kernel
theorem dX2_readItem_10 : decode cX2_readItem 10 = .ok (.dup, 1) := by decide +kernel
theorem dX2_readItem_11 : decode cX2_readItem 11 = .ok (.getfield 9, 3) := by decide +kernel
theorem dX2_readItem_14 : decode cX2_readItem 14 = .ok (.iconst 1, 1) := by decide +kernel
theorem dX2_readItem_15 : decode cX2_readItem 15 = .ok (.iadd, 1) := by decide +kernel
theorem dX2_readItem_16 : decode cX2_readItem 16 = .ok (.putfield 9, 3) := by decide +kernel
theorem dX2_readItem_19 : decode cX2_readItem 19 = .ok (.iload_n 3, 1) := by decide +kernel
theorem dX2_readItem_20 : decode cX2_readItem 20 = .ok (.bipush 100, 2) := by decide +kernel
theorem dX2_readItem_22 : decode cX2_readItem 22 = .ok (.if_icmp .ne 30, 3) := by decide +kernel
theorem dX2_readItem_25 : decode cX2_readItem 25 = .ok (.aload_n 0, 1) := by decide +kernel
theorem dX2_readItem_26 : decode cX2_readItem 26 = .ok (.aload_n 1, 1) := by decide +kernel
theorem dX2_readItem_27 : decode cX2_readItem 27 = .ok (.bipush 59, 2) := by decide +kernel
theorem dX2_readItem_29 : decode cX2_readItem 29 = .ok (.invokevirtual 37, 3) := by decide +kernel
theorem dX2_readItem_32 : decode cX2_readItem 32 = .ok (.ifCond .eq 18, 3) := by decide +kernel
theorem dX2_readItem_35 : decode cX2_readItem 35 = .ok (.aload_n 2, 1) := by decide +kernel
theorem dX2_readItem_36 : decode cX2_readItem 36 = .ok (.aload_n 0, 1) := by decide +kernel
theorem dX2_readItem_37 : decode cX2_readItem 37 = .ok (.getfield 15, 3) := by decide +kernel
theorem dX2_readItem_40 : decode cX2_readItem 40 = .ok (.invokevirtual 41, 3) := by decide +kernel
theorem dX2_readItem_43 : decode cX2_readItem 43 = .ok (.ifCond .eq 7, 3) := by decide +kernel
theorem dX2_readItem_46 : decode cX2_readItem 46 = .ok (.iconst 1, 1) := by decide +kernel
theorem dX2_readItem_47 : decode cX2_readItem 47 = .ok (.goto 4, 3) := by decide +kernel
theorem dX2_readItem_50 : decode cX2_readItem 50 = .ok (.iconst 0, 1) := by decide +kernel
theorem dX2_readItem_51 : decode cX2_readItem 51 = .ok (.ireturn, 1) := by decide +kernel
theorem dX2_readItem_52 : decode cX2_readItem 52 = .ok (.iload_n 3, 1) := by decide +kernel
theorem dX2_readItem_53 : decode cX2_readItem 53 = .ok (.bipush 112, 2) := by decide +kernel
theorem dX2_readItem_55 : decode cX2_readItem 55 = .ok (.if_icmp .eq 15, 3) := by decide +kernel
theorem dX2_readItem_58 : decode cX2_readItem 58 = .ok (.iload_n 3, 1) := by decide +kernel
theorem dX2_readItem_59 : decode cX2_readItem 59 = .ok (.bipush 109, 2) := by decide +kernel
theorem dX2_readItem_61 : decode cX2_readItem 61 = .ok (.if_icmp .eq 9, 3) := by decide +kernel
theorem dX2_readItem_64 : decode cX2_readItem 64 = .ok (.iload_n 3, 1) := by decide +kernel
theorem dX2_readItem_65 : decode cX2_readItem 65 = .ok (.bipush 115, 2) := by decide +kernel
theorem dX2_readItem_67 : decode cX2_readItem 67 = .ok (.if_icmp .ne 13, 3) := by decide +kernel
theorem dX2_readItem_70 : decode cX2_readItem 70 = .ok (.aload_n 0, 1) := by decide +kernel
theorem dX2_readItem_71 : decode cX2_readItem 71 = .ok (.aload_n 1, 1) := by decide +kernel
theorem dX2_readItem_72 : decode cX2_readItem 72 = .ok (.bipush 44, 2) := by decide +kernel
theorem dX2_readItem_74 : decode cX2_readItem 74 = .ok (.invokevirtual 37, 3) := by decide +kernel
theorem dX2_readItem_77 : decode cX2_readItem 77 = .ok (.ifCond .ne 5, 3) := by decide +kernel
theorem dX2_readItem_80 : decode cX2_readItem 80 = .ok (.iconst 0, 1) := by decide +kernel
theorem dX2_readItem_81 : decode cX2_readItem 81 = .ok (.ireturn, 1) := by decide +kernel
theorem dX2_readItem_82 : decode cX2_readItem 82 = .ok (.aload_n 0, 1) := by decide +kernel
theorem dX2_readItem_83 : decode cX2_readItem 83 = .ok (.getfield 15, 3) := by decide +kernel
theorem dX2_readItem_86 : decode cX2_readItem 86 = .ok (.istore 4, 2) := by decide +kernel
theorem dX2_readItem_88 : decode cX2_readItem 88 = .ok (.aload_n 0, 1) := by decide +kernel
theorem dX2_readItem_89 : decode cX2_readItem 89 = .ok (.aload_n 1, 1) := by decide +kernel
theorem dX2_readItem_90 : decode cX2_readItem 90 = .ok (.bipush 59, 2) := by decide +kernel
theorem dX2_readItem_92 : decode cX2_readItem 92 = .ok (.invokevirtual 37, 3) := by decide +kernel
theorem dX2_readItem_95 : decode cX2_readItem 95 = .ok (.ifCond .ne 5, 3) := by decide +kernel
theorem dX2_readItem_98 : decode cX2_readItem 98 = .ok (.iconst 0, 1) := by decide +kernel
theorem dX2_readItem_99 : decode cX2_readItem 99 = .ok (.ireturn, 1) := by decide +kernel
theorem dX2_readItem_100 : decode cX2_readItem 100 = .ok (.iload_n 3, 1) := by decide +kernel
theorem dX2_readItem_101 : decode cX2_readItem 101 = .ok (.lookupswitch 49 #[(109, 38), (112, 27)], 27) := by decide +kernel
theorem dX2_readItem_128 : decode cX2_readItem 128 = .ok (.aload_n 2, 1) := by decide +kernel
theorem dX2_readItem_129 : decode cX2_readItem 129 = .ok (.iload 4, 2) := by decide +kernel
theorem dX2_readItem_131 : decode cX2_readItem 131 = .ok (.aload_n 0, 1) := by decide +kernel
theorem dX2_readItem_132 : decode cX2_readItem 132 = .ok (.getfield 15, 3) := by decide +kernel
theorem dX2_readItem_135 : decode cX2_readItem 135 = .ok (.invokevirtual 45, 3) := by decide +kernel
theorem dX2_readItem_138 : decode cX2_readItem 138 = .ok (.ireturn, 1) := by decide +kernel
theorem dX2_readItem_139 : decode cX2_readItem 139 = .ok (.aload_n 2, 1) := by decide +kernel
theorem dX2_readItem_140 : decode cX2_readItem 140 = .ok (.iload 4, 2) := by decide +kernel
theorem dX2_readItem_142 : decode cX2_readItem 142 = .ok (.aload_n 0, 1) := by decide +kernel
theorem dX2_readItem_143 : decode cX2_readItem 143 = .ok (.getfield 15, 3) := by decide +kernel
theorem dX2_readItem_146 : decode cX2_readItem 146 = .ok (.invokevirtual 49, 3) := by decide +kernel
theorem dX2_readItem_149 : decode cX2_readItem 149 = .ok (.ireturn, 1) := by decide +kernel
theorem dX2_readItem_150 : decode cX2_readItem 150 = .ok (.aload_n 2, 1) := by decide +kernel
theorem dX2_readItem_151 : decode cX2_readItem 151 = .ok (.iload 4, 2) := by decide +kernel
theorem dX2_readItem_153 : decode cX2_readItem 153 = .ok (.aload_n 0, 1) := by decide +kernel
theorem dX2_readItem_154 : decode cX2_readItem 154 = .ok (.getfield 15, 3) := by decide +kernel
theorem dX2_readItem_157 : decode cX2_readItem 157 = .ok (.invokevirtual 52, 3) := by decide +kernel
theorem dX2_readItem_160 : decode cX2_readItem 160 = .ok (.ireturn, 1) := by decide +kernel
set_option maxRecDepth 20000 in
theorem ggX2_readNumber_X3_at : GoodIn wsX2_readNumber wsX3_at := goodIn_r _ [7, 8, 9, 16, 17] (by decide +kernel) (by decide +kernel)
set_option maxRecDepth 20000 in
theorem gX2_readNumber_X3_at : GoodIn wsX2_readNumber (wsV RX2 33 RX3 yX3_at wsX3_at) := goodIn_app (goodIn_of _ (by decide +kernel)) ggX2_readNumber_X3_at
set_option maxRecDepth 20000 in
theorem ggX2_readNumber_X2_isFigure : GoodIn wsX2_readNumber wsX2_isFigure := goodIn_r _ [13] (by decide +kernel) (by decide +kernel)
set_option maxRecDepth 20000 in
theorem gX2_readNumber_X2_isFigure : GoodIn wsX2_readNumber (va_wsS RX2 55 yX2_isFigure wsX2_isFigure) := goodIn_app (goodIn_of _ (by decide +kernel)) ggX2_readNumber_X2_isFigure
theorem dX2_readNumber_0 : decode cX2_readNumber 0 = .ok (.aload_n 1, 1) := by decide +kernel
theorem dX2_readNumber_1 : decode cX2_readNumber 1 = .ok (.aload_n 0, 1) := by decide +kernel
theorem dX2_readNumber_2 : decode cX2_readNumber 2 = .ok (.getfield 9, 3) := by decide +kernel
theorem dX2_readNumber_5 : decode cX2_readNumber 5 = .ok (.invokevirtual 33, 3) := by decide +kernel
theorem dX2_readNumber_8 : decode cX2_readNumber 8 = .ok (.istore_n 3, 1) := by decide +kernel
theorem dX2_readNumber_9 : decode cX2_readNumber 9 = .ok (.iload_n 3, 1) := by decide +kernel
theorem dX2_readNumber_10 : decode cX2_readNumber 10 = .ok (.invokestatic 55, 3) := by decide +kernel
theorem dX2_readNumber_13 : decode cX2_readNumber 13 = .ok (.ifCond .ne 5, 3) := by decide +kernel
theorem dX2_readNumber_16 : decode cX2_readNumber 16 = .ok (.iconst 0, 1) := by decide +kernel
theorem dX2_readNumber_17 : decode cX2_readNumber 17 = .ok (.ireturn, 1) := by decide +kernel
theorem dX2_readNumber_18 : decode cX2_readNumber 18 = .ok (.aload_n 0, 1) := by decide +kernel
theorem dX2_readNumber_19 : decode cX2_readNumber 19 = .ok (.iload_n 3, 1) := by decide +kernel
theorem dX2_readNumber_20 : decode cX2_readNumber 20 = .ok (.bipush 48, 2) := by decide +kernel
theorem dX2_readNumber_22 : decode cX2_readNumber 22 = .ok (.isub, 1) := by decide +kernel
theorem dX2_readNumber_23 : decode cX2_readNumber 23 = .ok (.putfield 15, 3) := by decide +kernel
theorem dX2_readNumber_26 : decode cX2_readNumber 26 = .ok (.aload_n 0, 1) := by decide +kernel
theorem dX2_readNumber_27 : decode cX2_readNumber 27 = .ok (.dup, 1) := by decide +kernel
theorem dX2_readNumber_28 : decode cX2_readNumber 28 = .ok (.getfield 9, 3) := by decide +kernel
theorem dX2_readNumber_31 : decode cX2_readNumber 31 = .ok (.iconst 1, 1) := by decide +kernel
theorem dX2_readNumber_32 : decode cX2_readNumber 32 = .ok (.iadd, 1) := by decide +kernel
theorem dX2_readNumber_33 : decode cX2_readNumber 33 = .ok (.putfield 9, 3) := by decide +kernel
theorem dX2_readNumber_36 : decode cX2_readNumber 36 = .ok (.aload_n 1, 1) := by decide +kernel
theorem dX2_readNumber_37 : decode cX2_readNumber 37 = .ok (.aload_n 0, 1) := by decide +kernel
theorem dX2_readNumber_38 : decode cX2_readNumber 38 = .ok (.getfield 9, 3) := by decide +kernel
theorem dX2_readNumber_41 : decode cX2_readNumber 41 = .ok (.invokevirtual 33, 3) := by decide +kernel
theorem dX2_readNumber_44 : decode cX2_readNumber 44 = .ok (.istore_n 3, 1) := by decide +kernel
theorem dX2_readNumber_45 : decode cX2_readNumber 45 = .ok (.iload_n 3, 1) := by decide +kernel
theorem dX2_readNumber_46 : decode cX2_readNumber 46 = .ok (.invokestatic 55, 3) := by decide +kernel
theorem dX2_readNumber_49 : decode cX2_readNumber 49 = .ok (.ifCond .eq 29, 3) := by decide +kernel
theorem dX2_readNumber_52 : decode cX2_readNumber 52 = .ok (.aload_n 0, 1) := by decide +kernel
theorem dX2_readNumber_53 : decode cX2_readNumber 53 = .ok (.aload_n 0, 1) := by decide +kernel
theorem dX2_readNumber_54 : decode cX2_readNumber 54 = .ok (.getfield 15, 3) := by decide +kernel
theorem dX2_readNumber_57 : decode cX2_readNumber 57 = .ok (.bipush 10, 2) := by decide +kernel
theorem dX2_readNumber_59 : decode cX2_readNumber 59 = .ok (.imul, 1) := by decide +kernel
theorem dX2_readNumber_60 : decode cX2_readNumber 60 = .ok (.iload_n 3, 1) := by decide +kernel
theorem dX2_readNumber_61 : decode cX2_readNumber 61 = .ok (.bipush 48, 2) := by decide +kernel
theorem dX2_readNumber_63 : decode cX2_readNumber 63 = .ok (.isub, 1) := by decide +kernel
theorem dX2_readNumber_64 : decode cX2_readNumber 64 = .ok (.iadd, 1) := by decide +kernel
theorem dX2_readNumber_65 : decode cX2_readNumber 65 = .ok (.putfield 15, 3) := by decide +kernel
theorem dX2_readNumber_68 : decode cX2_readNumber 68 = .ok (.aload_n 0, 1) := by decide +kernel
theorem dX2_readNumber_69 : decode cX2_readNumber 69 = .ok (.dup, 1) := by decide +kernel
theorem dX2_readNumber_70 : decode cX2_readNumber 70 = .ok (.getfield 9, 3) := by decide +kernel
theorem dX2_readNumber_73 : decode cX2_readNumber 73 = .ok (.iconst 1, 1) := by decide +kernel
theorem dX2_readNumber_74 : decode cX2_readNumber 74 = .ok (.iadd, 1) := by decide +kernel
theorem dX2_readNumber_75 : decode cX2_readNumber 75 = .ok (.putfield 9, 3) := by decide +kernel
theorem dX2_readNumber_78 : decode cX2_readNumber 78 = .ok (.aload_n 1, 1) := by decide +kernel
theorem dX2_readNumber_79 : decode cX2_readNumber 79 = .ok (.aload_n 0, 1) := by decide +kernel
theorem dX2_readNumber_80 : decode cX2_readNumber 80 = .ok (.getfield 9, 3) := by decide +kernel
theorem dX2_readNumber_83 : decode cX2_readNumber 83 = .ok (.invokevirtual 33, 3) := by decide +kernel
theorem dX2_readNumber_86 : decode cX2_readNumber 86 = .ok (.iload_n 2, 1) := by decide +kernel
theorem dX2_readNumber_87 : decode cX2_readNumber 87 = .ok (.if_icmp .eq 5, 3) := by decide +kernel
theorem dX2_readNumber_90 : decode cX2_readNumber 90 = .ok (.iconst 0, 1) := by decide +kernel
theorem dX2_readNumber_91 : decode cX2_readNumber 91 = .ok (.ireturn, 1) := by decide +kernel
theorem dX2_readNumber_92 : decode cX2_readNumber 92 = .ok (.aload_n 0, 1) := by decide +kernel
theorem dX2_readNumber_93 : decode cX2_readNumber 93 = .ok (.dup, 1) := by decide +kernel
theorem dX2_readNumber_94 : decode cX2_readNumber 94 = .ok (.getfield 9, 3) := by decide +kernel
theorem dX2_readNumber_97 : decode cX2_readNumber 97 = .ok (.iconst 1, 1) := by decide +kernel
theorem dX2_readNumber_98 : decode cX2_readNumber 98 = .ok (.iadd, 1) := by decide +kernel
theorem dX2_readNumber_99 : decode cX2_readNumber 99 = .ok (.putfield 9, 3) := by decide +kernel
theorem dX2_readNumber_102 : decode cX2_readNumber 102 = .ok (.iconst 1, 1) := by decide +kernel
theorem dX2_readNumber_103 : decode cX2_readNumber 103 = .ok (.ireturn, 1) := by decide +kernel
theorem dX2_isFigure_0 : decode cX2_isFigure 0 = .ok (.iload_n 0, 1) := by decide +kernel
theorem dX2_isFigure_1 : decode cX2_isFigure 1 = .ok (.bipush 48, 2) := by decide +kernel
theorem dX2_isFigure_3 : decode cX2_isFigure 3 = .ok (.if_icmp .lt 13, 3) := by decide +kernel
theorem dX2_isFigure_6 : decode cX2_isFigure 6 = .ok (.iload_n 0, 1) := by decide +kernel
theorem dX2_isFigure_7 : decode cX2_isFigure 7 = .ok (.bipush 57, 2) := by decide +kernel
theorem dX2_isFigure_9 : decode cX2_isFigure 9 = .ok (.if_icmp .gt 7, 3) := by decide +kernel
theorem dX2_isFigure_12 : decode cX2_isFigure 12 = .ok (.iconst 1, 1) := by decide +kernel
theorem dX2_isFigure_13 : decode cX2_isFigure 13 = .ok (.goto 4, 3) := by decide +kernel
theorem dX2_isFigure_16 : decode cX2_isFigure 16 = .ok (.iconst 0, 1) := by decide +kernel
theorem dX2_isFigure_17 : decode cX2_isFigure 17 = .ok (.ireturn, 1) := by decide +kernel
theorem dX3_init_0 : decode cX3_init 0 = .ok (.aload_n 0, 1) := by decide +kernel
theorem dX3_init_1 : decode cX3_init 1 = .ok (.invokespecial 3, 3) := by decide +kernel
theorem dX3_init_4 : decode cX3_init 4 = .ok (.aload_n 0, 1) := by decide +kernel
theorem dX3_init_5 : decode cX3_init 5 = .ok (.sipush 200, 3) := by decide +kernel
theorem dX3_init_8 : decode cX3_init 8 = .ok (.newarray .char, 2) := by decide +kernel
theorem dX3_init_10 : decode cX3_init 10 = .ok (.putfield 9, 3) := by decide +kernel
theorem dX3_init_13 : decode cX3_init 13 = .ok (.aload_n 0, 1) := by decide +kernel
theorem dX3_init_14 : decode cX3_init 14 = .ok (.iconst 0, 1) := by decide +kernel
theorem dX3_init_15 : decode cX3_init 15 = .ok (.putfield 15, 3) := by decide +kernel
theorem dX3_init_18 : decode cX3_init 18 = .ok (.return_, 1) := by decide +kernel
theorem dX3_size_0 : decode cX3_size 0 = .ok (.aload_n 0, 1) := by decide +kernel
theorem dX3_size_1 : decode cX3_size 1 = .ok (.getfield 15, 3) := by decide +kernel
theorem dX3_size_4 : decode cX3_size 4 = .ok (.ireturn, 1) := by decide +kernel
theorem dX3_clear_0 : decode cX3_clear 0 = .ok (.aload_n 0, 1) := by decide +kernel
theorem dX3_clear_1 : decode cX3_clear 1 = .ok (.iconst 0, 1) := by decide +kernel
theorem dX3_clear_2 : decode cX3_clear 2 = .ok (.putfield 15, 3) := by decide +kernel
theorem dX3_clear_5 : decode cX3_clear 5 = .ok (.return_, 1) := by decide +kernel
theorem dX3_add_0 : decode cX3_add 0 = .ok (.aload_n 0, 1) := by decide +kernel
theorem dX3_add_1 : decode cX3_add 1 = .ok (.getfield 15, 3) := by decide +kernel
theorem dX3_add_4 : decode cX3_add 4 = .ok (.ifCond .lt 15, 3) := by decide +kernel
theorem dX3_add_7 : decode cX3_add 7 = .ok (.aload_n 0, 1) := by decide +kernel
theorem dX3_add_8 : decode cX3_add 8 = .ok (.getfield 15, 3) := by decide +kernel
theorem dX3_add_11 : decode cX3_add 11 = .ok (.aload_n 0, 1) := by decide +kernel
theorem dX3_add_12 : decode cX3_add 12 = .ok (.getfield 9, 3) := by decide +kernel
theorem dX3_add_15 : decode cX3_add 15 = .ok (.arraylength, 1) := by decide +kernel
theorem dX3_add_16 : decode cX3_add 16 = .ok (.if_icmp .lt 5, 3) := by decide +kernel
theorem dX3_add_19 : decode cX3_add 19 = .ok (.iconst 0, 1) := by decide +kernel
theorem dX3_add_20 : decode cX3_add 20 = .ok (.ireturn, 1) := by decide +kernel
theorem dX3_add_21 : decode cX3_add 21 = .ok (.aload_n 0, 1) := by decide +kernel
theorem dX3_add_22 : decode cX3_add 22 = .ok (.getfield 9, 3) := by decide +kernel
theorem dX3_add_25 : decode cX3_add 25 = .ok (.aload_n 0, 1) := by decide +kernel
theorem dX3_add_26 : decode cX3_add 26 = .ok (.getfield 15, 3) := by decide +kernel
theorem dX3_add_29 : decode cX3_add 29 = .ok (.iload_n 1, 1) := by decide +kernel
theorem dX3_add_30 : decode cX3_add 30 = .ok (.castore, 1) := by decide +kernel
theorem dX3_add_31 : decode cX3_add 31 = .ok (.aload_n 0, 1) := by decide +kernel
theorem dX3_add_32 : decode cX3_add 32 = .ok (.dup, 1) := by decide +kernel
theorem dX3_add_33 : decode cX3_add 33 = .ok (.getfield 15, 3) := by decide +kernel
theorem dX3_add_36 : decode cX3_add 36 = .ok (.iconst 1, 1) := by decide +kernel
theorem dX3_add_37 : decode cX3_add 37 = .ok (.iadd, 1) := by decide +kernel
theorem dX3_add_38 : decode cX3_add 38 = .ok (.putfield 15, 3) := by decide +kernel
theorem dX3_add_41 : decode cX3_add 41 = .ok (.iconst 1, 1) := by decide +kernel
theorem dX3_add_42 : decode cX3_add 42 = .ok (.ireturn, 1) := by decide +kernel
theorem dX3_at_0 : decode cX3_at 0 = .ok (.iload_n 1, 1) := by decide +kernel
theorem dX3_at_1 : decode cX3_at 1 = .ok (.ifCond .lt 29, 3) := by decide +kernel
theorem dX3_at_4 : decode cX3_at 4 = .ok (.iload_n 1, 1) := by decide +kernel
theorem dX3_at_5 : decode cX3_at 5 = .ok (.aload_n 0, 1) := by decide +kernel
theorem dX3_at_6 : decode cX3_at 6 = .ok (.getfield 15, 3) := by decide +kernel
theorem dX3_at_9 : decode cX3_at 9 = .ok (.if_icmp .ge 21, 3) := by decide +kernel
theorem dX3_at_12 : decode cX3_at 12 = .ok (.iload_n 1, 1) := by decide +kernel
theorem dX3_at_13 : decode cX3_at 13 = .ok (.aload_n 0, 1) := by decide +kernel
theorem dX3_at_14 : decode cX3_at 14 = .ok (.getfield 9, 3) := by decide +kernel
theorem dX3_at_17 : decode cX3_at 17 = .ok (.arraylength, 1) := by decide +kernel
theorem dX3_at_18 : decode cX3_at 18 = .ok (.if_icmp .ge 12, 3) := by decide +kernel
theorem dX3_at_21 : decode cX3_at 21 = .ok (.aload_n 0, 1) := by decide +kernel
theorem dX3_at_22 : decode cX3_at 22 = .ok (.getfield 9, 3) := by decide +kernel
theorem dX3_at_25 : decode cX3_at 25 = .ok (.iload_n 1, 1) := by decide +kernel
theorem dX3_at_26 : decode cX3_at 26 = .ok (.caload, 1) := by decide +kernel
theorem dX3_at_27 : decode cX3_at 27 = .ok (.goto 4, 3) := by decide +kernel
theorem dX3_at_30 : decode cX3_at 30 = .ok (.iconst 0, 1) := by decide +kernel
theorem dX3_at_31 : decode cX3_at 31 = .ok (.ireturn, 1) := by decide +kernel
theorem dX4_init_0 : decode cX4_init 0 = .ok (.aload_n 0, 1) := by decide +kernel
theorem dX4_init_1 : decode cX4_init 1 = .ok (.invokespecial 1, 3) := by decide +kernel
theorem dX4_init_4 : decode cX4_init 4 = .ok (.aload_n 0, 1) := by decide +kernel
theorem dX4_init_5 : decode cX4_init 5 = .ok (.iconst 0, 1) := by decide +kernel
theorem dX4_init_6 : decode cX4_init 6 = .ok (.putfield 7, 3) := by decide +kernel
theorem dX4_init_9 : decode cX4_init 9 = .ok (.aload_n 0, 1) := by decide +kernel
theorem dX4_init_10 : decode cX4_init 10 = .ok (.iload_n 1, 1) := by decide +kernel
theorem dX4_init_11 : decode cX4_init 11 = .ok (.ifCond .le 7, 3) := by decide +kernel
theorem dX4_init_14 : decode cX4_init 14 = .ok (.iload_n 1, 1) := by decide +kernel
theorem dX4_init_15 : decode cX4_init 15 = .ok (.goto 4, 3) := by decide +kernel
theorem dX4_init_18 : decode cX4_init 18 = .ok (.iconst 1, 1) := by decide +kernel
theorem dX4_init_19 : decode cX4_init 19 = .ok (.bipush 15, 2) := by decide +kernel
theorem dX4_init_21 : decode cX4_init 21 = .ok (.multianewarray 15 2, 4) := by decide +kernel
theorem dX4_init_25 : decode cX4_init 25 = .ok (.putfield 17, 3) := by decide +kernel
theorem dX4_init_28 : decode cX4_init 28 = .ok (.return_, 1) := by decide +kernel
theorem dX4_size_0 : decode cX4_size 0 = .ok (.aload_n 0, 1) := by decide +kernel
theorem dX4_size_1 : decode cX4_size 1 = .ok (.getfield 7, 3) := by decide +kernel
theorem dX4_size_4 : decode cX4_size 4 = .ok (.ireturn, 1) := by decide +kernel
theorem dX4_clear_0 : decode cX4_clear 0 = .ok (.aload_n 0, 1) := by decide +kernel
theorem dX4_clear_1 : decode cX4_clear 1 = .ok (.iconst 0, 1) := by decide +kernel
theorem dX4_clear_2 : decode cX4_clear 2 = .ok (.putfield 7, 3) := by decide +kernel
theorem dX4_clear_5 : decode cX4_clear 5 = .ok (.return_, 1) := by decide +kernel
set_option maxRecDepth 20000 in
theorem ggX4_push_X6_copyInto : GoodIn wsX4_push wsX6_copyInto := goodIn_r _ [7, 8, 11, 12] (by decide +kernel) (by decide +kernel)
set_option maxRecDepth 20000 in
theorem gX4_push_X6_copyInto : GoodIn wsX4_push (wsV RX4 20 RX6 yX6_copyInto wsX6_copyInto) := goodIn_app (goodIn_of _ (by decide +kernel)) ggX4_push_X6_copyInto
theorem dX4_push_0 : decode cX4_push 0 = .ok (.aload_n 0, 1) := by decide +kernel
theorem dX4_push_1 : decode cX4_push 1 = .ok (.getfield 7, 3) := by decide +kernel
theorem dX4_push_4 : decode cX4_push 4 = .ok (.ifCond .lt 15, 3) := by decide +kernel
theorem dX4_push_7 : decode cX4_push 7 = .ok (.aload_n 0, 1) := by decide +kernel
theorem dX4_push_8 : decode cX4_push 8 = .ok (.getfield 7, 3) := by decide +kernel
theorem dX4_push_11 : decode cX4_push 11 = .ok (.aload_n 0, 1) := by decide +kernel
theorem dX4_push_12 : decode cX4_push 12 = .ok (.getfield 17, 3) := by decide +kernel
theorem dX4_push_15 : decode cX4_push 15 = .ok (.arraylength, 1) := by decide +kernel
theorem dX4_push_16 : decode cX4_push 16 = .ok (.if_icmp .lt 5, 3) := by decide +kernel
theorem dX4_push_19 : decode cX4_push 19 = .ok (.iconst 0, 1) := by decide +kernel
theorem dX4_push_20 : decode cX4_push 20 = .ok (.ireturn, 1) := by decide +kernel
theorem dX4_push_21 : decode cX4_push 21 = .ok (.aload_n 1, 1) := by decide +kernel
theorem dX4_push_22 : decode cX4_push 22 = .ok (.aload_n 0, 1) := by decide +kernel
theorem dX4_push_23 : decode cX4_push 23 = .ok (.getfield 17, 3) := by decide +kernel
theorem dX4_push_26 : decode cX4_push 26 = .ok (.aload_n 0, 1) := by decide +kernel
theorem dX4_push_27 : decode cX4_push 27 = .ok (.getfield 7, 3) := by decide +kernel

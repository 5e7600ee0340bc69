set_option maxRecDepth 20000 in
theorem ggX7_count_X1_countMoored : GoodIn wsX7_count wsX1_countMoored := goodIn_r _ [23, 14, 15, 24, 17, 18, 19, 36, 37, 38, 39, 40, 41, 47, 48, 49, 50, 51, 52, 53, 54, 55, 56] (by decide +kernel) (by decide +kernel)
set_option maxRecDepth 20000 in
theorem gX7_count_X1_countMoored : GoodIn wsX7_count (wsV RX7 232 RX1 yX1_countMoored wsX1_countMoored) := goodIn_app (goodIn_of _ (by decide +kernel)) ggX7_count_X1_countMoored
set_option maxRecDepth 20000 in
theorem ggX7_count_X1_countLinksOut : GoodIn wsX7_count wsX1_countLinksOut := goodIn_r _ [28, 14, 15, 16, 29, 30, 24, 31, 36, 37, 38, 39, 40, 41, 47, 48, 49, 50, 51, 52, 53, 54, 55, 56, 57, 58, 59] (by decide +kernel) (by decide +kernel)
set_option maxRecDepth 20000 in
theorem gX7_count_X1_countLinksOut : GoodIn wsX7_count (wsV RX7 235 RX1 yX1_countLinksOut wsX1_countLinksOut) := goodIn_app (goodIn_of _ (by decide +kernel)) ggX7_count_X1_countLinksOut
theorem dX7_count_0 : decode cX7_count 0 = .ok (.iload_n 1, 1) := by decide +kernel
theorem dX7_count_1 : decode cX7_count 1 = .ok (.tableswitch 111 0 7 #[47, 55, 63, 71, 79, 87, 95, 103], 47) := by decide +kernel
theorem dX7_count_48 : decode cX7_count 48 = .ok (.aload_n 0, 1) := by decide +kernel
theorem dX7_count_49 : decode cX7_count 49 = .ok (.getfield 26, 3) := by decide +kernel
theorem dX7_count_52 : decode cX7_count 52 = .ok (.getfield 228, 3) := by decide +kernel
theorem dX7_count_55 : decode cX7_count 55 = .ok (.ireturn, 1) := by decide +kernel
theorem dX7_count_56 : decode cX7_count 56 = .ok (.aload_n 0, 1) := by decide +kernel
theorem dX7_count_57 : decode cX7_count 57 = .ok (.getfield 26, 3) := by decide +kernel
theorem dX7_count_60 : decode cX7_count 60 = .ok (.getfield 78, 3) := by decide +kernel
theorem dX7_count_63 : decode cX7_count 63 = .ok (.ireturn, 1) := by decide +kernel
theorem dX7_count_64 : decode cX7_count 64 = .ok (.aload_n 0, 1) := by decide +kernel
theorem dX7_count_65 : decode cX7_count 65 = .ok (.getfield 26, 3) := by decide +kernel
theorem dX7_count_68 : decode cX7_count 68 = .ok (.getfield 126, 3) := by decide +kernel
theorem dX7_count_71 : decode cX7_count 71 = .ok (.ireturn, 1) := by decide +kernel
theorem dX7_count_72 : decode cX7_count 72 = .ok (.aload_n 0, 1) := by decide +kernel
theorem dX7_count_73 : decode cX7_count 73 = .ok (.getfield 26, 3) := by decide +kernel
theorem dX7_count_76 : decode cX7_count 76 = .ok (.invokevirtual 229, 3) := by decide +kernel
theorem dX7_count_79 : decode cX7_count 79 = .ok (.ireturn, 1) := by decide +kernel
theorem dX7_count_80 : decode cX7_count 80 = .ok (.aload_n 0, 1) := by decide +kernel
theorem dX7_count_81 : decode cX7_count 81 = .ok (.getfield 26, 3) := by decide +kernel
theorem dX7_count_84 : decode cX7_count 84 = .ok (.invokevirtual 232, 3) := by decide +kernel
theorem dX7_count_87 : decode cX7_count 87 = .ok (.ireturn, 1) := by decide +kernel
theorem dX7_count_88 : decode cX7_count 88 = .ok (.aload_n 0, 1) := by decide +kernel
theorem dX7_count_89 : decode cX7_count 89 = .ok (.getfield 26, 3) := by decide +kernel
theorem dX7_count_92 : decode cX7_count 92 = .ok (.invokevirtual 235, 3) := by decide +kernel
theorem dX7_count_95 : decode cX7_count 95 = .ok (.ireturn, 1) := by decide +kernel
theorem dX7_count_96 : decode cX7_count 96 = .ok (.aload_n 0, 1) := by decide +kernel
theorem dX7_count_97 : decode cX7_count 97 = .ok (.getfield 33, 3) := by decide +kernel
theorem dX7_count_100 : decode cX7_count 100 = .ok (.getfield 141, 3) := by decide +kernel
theorem dX7_count_103 : decode cX7_count 103 = .ok (.ireturn, 1) := by decide +kernel
theorem dX7_count_104 : decode cX7_count 104 = .ok (.aload_n 0, 1) := by decide +kernel
theorem dX7_count_105 : decode cX7_count 105 = .ok (.getfield 10, 3) := by decide +kernel
theorem dX7_count_108 : decode cX7_count 108 = .ok (.getfield 68, 3) := by decide +kernel
theorem dX7_count_111 : decode cX7_count 111 = .ok (.ireturn, 1) := by decide +kernel
theorem dX7_count_112 : decode cX7_count 112 = .ok (.iconst (-1), 1) := by decide +kernel
theorem dX7_count_113 : decode cX7_count 113 = .ok (.ireturn, 1) := by decide +kernel
set_option maxRecDepth 20000 in
theorem ggX7_remember_X4_rowForNext : GoodIn wsX7_remember wsX4_rowForNext := goodIn_r _ [7, 8, 9, 10, 11, 12, 13, 14, 48, 49, 50] (by decide +kernel) (by decide +kernel)
set_option maxRecDepth 20000 in
theorem gX7_remember_X4_rowForNext : GoodIn wsX7_remember (wsV RX7 238 RX4 yX4_rowForNext wsX4_rowForNext) := goodIn_app (goodIn_of _ (by decide +kernel)) ggX7_remember_X4_rowForNext
set_option maxRecDepth 20000 in
theorem ggX7_remember_X1_save : GoodIn wsX7_remember wsX1_save := goodIn_r _ [19, 20, 21, 22, 23, 24, 25, 26, 27, 28, 29, 30, 31, 32, 33, 34, 35, 36, 37, 38, 39, 40, 41, 42, 43, 51, 52, 53, 54, 55, 56, 57, 58, 59, 60, 61, 62, 63, 64, 65, 66, 67, 68, 69] (by decide +kernel) (by decide +kernel)
set_option maxRecDepth 20000 in
theorem gX7_remember_X1_save : GoodIn wsX7_remember (wsV RX7 241 RX1 yX1_save wsX1_save) := goodIn_app (goodIn_of _ (by decide +kernel)) ggX7_remember_X1_save
theorem dX7_remember_0 : decode cX7_remember 0 = .ok (.aload_n 0, 1) := by decide +kernel
theorem dX7_remember_1 : decode cX7_remember 1 = .ok (.getfield 26, 3) := by decide +kernel
theorem dX7_remember_4 : decode cX7_remember 4 = .ok (.aload_n 0, 1) := by decide +kernel
theorem dX7_remember_5 : decode cX7_remember 5 = .ok (.getfield 33, 3) := by decide +kernel
theorem dX7_remember_8 : decode cX7_remember 8 = .ok (.invokevirtual 238, 3) := by decide +kernel
theorem dX7_remember_11 : decode cX7_remember 11 = .ok (.invokevirtual 241, 3) := by decide +kernel
theorem dX7_remember_14 : decode cX7_remember 14 = .ok (.return_, 1) := by decide +kernel
theorem dX7_within_0 : decode cX7_within 0 = .ok (.iload_n 0, 1) := by decide +kernel
theorem dX7_within_1 : decode cX7_within 1 = .ok (.iload_n 1, 1) := by decide +kernel
theorem dX7_within_2 : decode cX7_within 2 = .ok (.if_icmp .lt 12, 3) := by decide +kernel
theorem dX7_within_5 : decode cX7_within 5 = .ok (.iload_n 0, 1) := by decide +kernel
theorem dX7_within_6 : decode cX7_within 6 = .ok (.iload_n 2, 1) := by decide +kernel
theorem dX7_within_7 : decode cX7_within 7 = .ok (.if_icmp .gt 7, 3) := by decide +kernel
theorem dX7_within_10 : decode cX7_within 10 = .ok (.iconst 1, 1) := by decide +kernel
theorem dX7_within_11 : decode cX7_within 11 = .ok (.goto 4, 3) := by decide +kernel
theorem dX7_within_14 : decode cX7_within 14 = .ok (.iconst 0, 1) := by decide +kernel
theorem dX7_within_15 : decode cX7_within 15 = .ok (.ireturn, 1) := by decide +kernel
set_option maxRecDepth 20000 in
theorem ggX7_isWind_X7_within : GoodIn wsX7_isWind wsX7_within := goodIn_r _ [4] (by decide +kernel) (by decide +kernel)
set_option maxRecDepth 20000 in
theorem gX7_isWind_X7_within : GoodIn wsX7_isWind (va_wsS RX7 64 yX7_within wsX7_within) := goodIn_app (goodIn_of _ (by decide +kernel)) ggX7_isWind_X7_within
theorem dX7_isWind_0 : decode cX7_isWind 0 = .ok (.iload_n 0, 1) := by decide +kernel
theorem dX7_isWind_1 : decode cX7_isWind 1 = .ok (.iconst 0, 1) := by decide +kernel
theorem dX7_isWind_2 : decode cX7_isWind 2 = .ok (.bipush 20, 2) := by decide +kernel
theorem dX7_isWind_4 : decode cX7_isWind 4 = .ok (.invokestatic 64, 3) := by decide +kernel
theorem dX7_isWind_7 : decode cX7_isWind 7 = .ok (.ireturn, 1) := by decide +kernel
theorem dX7_oneIf_0 : decode cX7_oneIf 0 = .ok (.iload_n 0, 1) := by decide +kernel
theorem dX7_oneIf_1 : decode cX7_oneIf 1 = .ok (.ifCond .eq 7, 3) := by decide +kernel
theorem dX7_oneIf_4 : decode cX7_oneIf 4 = .ok (.iconst 1, 1) := by decide +kernel
theorem dX7_oneIf_5 : decode cX7_oneIf 5 = .ok (.goto 4, 3) := by decide +kernel
theorem dX7_oneIf_8 : decode cX7_oneIf 8 = .ok (.iconst 0, 1) := by decide +kernel
theorem dX7_oneIf_9 : decode cX7_oneIf 9 = .ok (.ireturn, 1) := by decide +kernel
theorem dX8_in_0 : decode cX8_in 0 = .ok (.iload_n 0, 1) := by decide +kernel
theorem dX8_in_1 : decode cX8_in 1 = .ok (.iload_n 1, 1) := by decide +kernel
theorem dX8_in_2 : decode cX8_in 2 = .ok (.if_icmp .lt 12, 3) := by decide +kernel
theorem dX8_in_5 : decode cX8_in 5 = .ok (.iload_n 0, 1) := by decide +kernel
theorem dX8_in_6 : decode cX8_in 6 = .ok (.iload_n 2, 1) := by decide +kernel
theorem dX8_in_7 : decode cX8_in 7 = .ok (.if_icmp .gt 7, 3) := by decide +kernel
theorem dX8_in_10 : decode cX8_in 10 = .ok (.iconst 1, 1) := by decide +kernel
theorem dX8_in_11 : decode cX8_in 11 = .ok (.goto 4, 3) := by decide +kernel
theorem dX8_in_14 : decode cX8_in 14 = .ok (.iconst 0, 1) := by decide +kernel
theorem dX8_in_15 : decode cX8_in 15 = .ok (.ireturn, 1) := by decide +kernel
set_option maxRecDepth 20000 in
theorem ggX8_init_X8_column : GoodIn wsX8_init wsX8_column := goodIn_r _ [14, 6, 28, 29, 30, 31, 32, 33, 34, 35, 36, 37, 38, 39, 40] (by decide +kernel) (by decide +kernel)
set_option maxRecDepth 20000 in
theorem gX8_init_X8_column : GoodIn wsX8_init (wsV RX8 25 RX8 yX8_column wsX8_column) := goodIn_app (goodIn_of _ (by decide +kernel)) ggX8_init_X8_column
set_option maxRecDepth 20000 in
theorem ggX8_init_X8_place : GoodIn wsX8_init wsX8_place := goodIn_r _ [18, 6, 28, 29, 30, 31, 32, 33, 34, 35, 36, 37, 38, 39, 40] (by decide +kernel) (by decide +kernel)
set_option maxRecDepth 20000 in
theorem gX8_init_X8_place : GoodIn wsX8_init (wsV RX8 29 RX8 yX8_place wsX8_place) := goodIn_app (goodIn_of _ (by decide +kernel)) ggX8_init_X8_place
set_option maxRecDepth 20000 in
theorem ggX8_init_X8_measure : GoodIn wsX8_init wsX8_measure := goodIn_r _ [22, 6, 28, 29, 30, 31, 32, 33, 34, 35, 36, 37, 38, 39, 40] (by decide +kernel) (by decide +kernel)
set_option maxRecDepth 20000 in
theorem gX8_init_X8_measure : GoodIn wsX8_init (wsV RX8 33 RX8 yX8_measure wsX8_measure) := goodIn_app (goodIn_of _ (by decide +kernel)) ggX8_init_X8_measure
set_option maxRecDepth 20000 in
theorem ggX8_init_X8_install : GoodIn wsX8_init wsX8_install := goodIn_r _ [26, 5, 6, 27, 28, 29, 30, 31, 32, 33, 34, 35, 36, 37, 38, 39, 40] (by decide +kernel) (by decide +kernel)
set_option maxRecDepth 20000 in
theorem gX8_init_X8_install : GoodIn wsX8_init (wsV RX8 37 RX8 yX8_install wsX8_install) := goodIn_app (goodIn_of _ (by decide +kernel)) ggX8_init_X8_install
theorem dX8_init_0 : decode cX8_init 0 = .ok (.aload_n 0, 1) := by decide +kernel
theorem dX8_init_1 : decode cX8_init 1 = .ok (.invokespecial 1, 3) := by decide +kernel
theorem dX8_init_4 : decode cX8_init 4 = .ok (.aload_n 0, 1) := by decide +kernel
theorem dX8_init_5 : decode cX8_init 5 = .ok (.bipush 88, 2) := by decide +kernel
theorem dX8_init_7 : decode cX8_init 7 = .ok (.newarray .int, 2) := by decide +kernel
theorem dX8_init_9 : decode cX8_init 9 = .ok (.putfield 7, 3) := by decide +kernel
theorem dX8_init_12 : decode cX8_init 12 = .ok (.aload_n 0, 1) := by decide +kernel
theorem dX8_init_13 : decode cX8_init 13 = .ok (.bipush 88, 2) := by decide +kernel
theorem dX8_init_15 : decode cX8_init 15 = .ok (.newarray .int, 2) := by decide +kernel
theorem dX8_init_17 : decode cX8_init 17 = .ok (.putfield 13, 3) := by decide +kernel
theorem dX8_init_20 : decode cX8_init 20 = .ok (.aload_n 0, 1) := by decide +kernel
theorem dX8_init_21 : decode cX8_init 21 = .ok (.sipush 528, 3) := by decide +kernel
theorem dX8_init_24 : decode cX8_init 24 = .ok (.newarray .int, 2) := by decide +kernel
theorem dX8_init_26 : decode cX8_init 26 = .ok (.putfield 16, 3) := by decide +kernel
theorem dX8_init_29 : decode cX8_init 29 = .ok (.aload_n 0, 1) := by decide +kernel
theorem dX8_init_30 : decode cX8_init 30 = .ok (.sipush 200, 3) := by decide +kernel
theorem dX8_init_33 : decode cX8_init 33 = .ok (.newarray .int, 2) := by decide +kernel
theorem dX8_init_35 : decode cX8_init 35 = .ok (.putfield 19, 3) := by decide +kernel
theorem dX8_init_38 : decode cX8_init 38 = .ok (.aload_n 0, 1) := by decide +kernel
theorem dX8_init_39 : decode cX8_init 39 = .ok (.bipush 7, 2) := by decide +kernel
theorem dX8_init_41 : decode cX8_init 41 = .ok (.newarray .int, 2) := by decide +kernel
theorem dX8_init_43 : decode cX8_init 43 = .ok (.putfield 22, 3) := by decide +kernel
theorem dX8_init_46 : decode cX8_init 46 = .ok (.aload_n 0, 1) := by decide +kernel
theorem dX8_init_47 : decode cX8_init 47 = .ok (.iconst 3, 1) := by decide +kernel
theorem dX8_init_48 : decode cX8_init 48 = .ok (.invokevirtual 25, 3) := by decide +kernel
theorem dX8_init_51 : decode cX8_init 51 = .ok (.aload_n 0, 1) := by decide +kernel
theorem dX8_init_52 : decode cX8_init 52 = .ok (.iconst 4, 1) := by decide +kernel
theorem dX8_init_53 : decode cX8_init 53 = .ok (.invokevirtual 25, 3) := by decide +kernel
theorem dX8_init_56 : decode cX8_init 56 = .ok (.aload_n 0, 1) := by decide +kernel
theorem dX8_init_57 : decode cX8_init 57 = .ok (.iconst 4, 1) := by decide +kernel
theorem dX8_init_58 : decode cX8_init 58 = .ok (.invokevirtual 25, 3) := by decide +kernel
theorem dX8_init_61 : decode cX8_init 61 = .ok (.aload_n 0, 1) := by decide +kernel
theorem dX8_init_62 : decode cX8_init 62 = .ok (.bipush 6, 2) := by decide +kernel
theorem dX8_init_64 : decode cX8_init 64 = .ok (.invokevirtual 25, 3) := by decide +kernel
theorem dX8_init_67 : decode cX8_init 67 = .ok (.aload_n 0, 1) := by decide +kernel
theorem dX8_init_68 : decode cX8_init 68 = .ok (.bipush 8, 2) := by decide +kernel
theorem dX8_init_70 : decode cX8_init 70 = .ok (.invokevirtual 25, 3) := by decide +kernel
theorem dX8_init_73 : decode cX8_init 73 = .ok (.aload_n 0, 1) := by decide +kernel
theorem dX8_init_74 : decode cX8_init 74 = .ok (.bipush 8, 2) := by decide +kernel
theorem dX8_init_76 : decode cX8_init 76 = .ok (.invokevirtual 25, 3) := by decide +kernel
theorem dX8_init_79 : decode cX8_init 79 = .ok (.aload_n 0, 1) := by decide +kernel
theorem dX8_init_80 : decode cX8_init 80 = .ok (.iconst 5, 1) := by decide +kernel
theorem dX8_init_81 : decode cX8_init 81 = .ok (.invokevirtual 25, 3) := by decide +kernel
theorem dX8_init_84 : decode cX8_init 84 = .ok (.aload_n 0, 1) := by decide +kernel
theorem dX8_init_85 : decode cX8_init 85 = .ok (.iconst 4, 1) := by decide +kernel
theorem dX8_init_86 : decode cX8_init 86 = .ok (.invokevirtual 25, 3) := by decide +kernel
theorem dX8_init_89 : decode cX8_init 89 = .ok (.aload_n 0, 1) := by decide +kernel
theorem dX8_init_90 : decode cX8_init 90 = .ok (.iconst 3, 1) := by decide +kernel
theorem dX8_init_91 : decode cX8_init 91 = .ok (.invokevirtual 25, 3) := by decide +kernel
theorem dX8_init_94 : decode cX8_init 94 = .ok (.aload_n 0, 1) := by decide +kernel
theorem dX8_init_95 : decode cX8_init 95 = .ok (.iconst 2, 1) := by decide +kernel
theorem dX8_init_96 : decode cX8_init 96 = .ok (.invokevirtual 25, 3) := by decide +kernel
theorem dX8_init_99 : decode cX8_init 99 = .ok (.aload_n 0, 1) := by decide +kernel
theorem dX8_init_100 : decode cX8_init 100 = .ok (.iconst 2, 1) := by decide +kernel
theorem dX8_init_101 : decode cX8_init 101 = .ok (.iconst 3, 1) := by decide +kernel
theorem dX8_init_102 : decode cX8_init 102 = .ok (.bipush 20, 2) := by decide +kernel
theorem dX8_init_104 : decode cX8_init 104 = .ok (.iconst 2, 1) := by decide +kernel
theorem dX8_init_105 : decode cX8_init 105 = .ok (.invokevirtual 29, 3) := by decide +kernel
theorem dX8_init_108 : decode cX8_init 108 = .ok (.aload_n 0, 1) := by decide +kernel
theorem dX8_init_109 : decode cX8_init 109 = .ok (.iconst 3, 1) := by decide +kernel
theorem dX8_init_110 : decode cX8_init 110 = .ok (.iconst 4, 1) := by decide +kernel
theorem dX8_init_111 : decode cX8_init 111 = .ok (.sipush 200, 3) := by decide +kernel
theorem dX8_init_114 : decode cX8_init 114 = .ok (.invokevirtual 33, 3) := by decide +kernel
theorem dX8_init_117 : decode cX8_init 117 = .ok (.aload_n 0, 1) := by decide +kernel
theorem dX8_init_118 : decode cX8_init 118 = .ok (.iconst 5, 1) := by decide +kernel
theorem dX8_init_119 : decode cX8_init 119 = .ok (.bipush 9, 2) := by decide +kernel
theorem dX8_init_121 : decode cX8_init 121 = .ok (.bipush 40, 2) := by decide +kernel
theorem dX8_init_123 : decode cX8_init 123 = .ok (.iconst 3, 1) := by decide +kernel
theorem dX8_init_124 : decode cX8_init 124 = .ok (.invokevirtual 29, 3) := by decide +kernel
theorem dX8_init_127 : decode cX8_init 127 = .ok (.aload_n 0, 1) := by decide +kernel
theorem dX8_init_128 : decode cX8_init 128 = .ok (.iconst 5, 1) := by decide +kernel
theorem dX8_init_129 : decode cX8_init 129 = .ok (.bipush 6, 2) := by decide +kernel
theorem dX8_init_131 : decode cX8_init 131 = .ok (.sipush 300, 3) := by decide +kernel
theorem dX8_init_134 : decode cX8_init 134 = .ok (.invokevirtual 33, 3) := by decide +kernel
theorem dX8_init_137 : decode cX8_init 137 = .ok (.aload_n 0, 1) := by decide +kernel
theorem dX8_init_138 : decode cX8_init 138 = .ok (.bipush 7, 2) := by decide +kernel
theorem dX8_init_140 : decode cX8_init 140 = .ok (.iconst 4, 1) := by decide +kernel
theorem dX8_init_141 : decode cX8_init 141 = .ok (.bipush 12, 2) := by decide +kernel
theorem dX8_init_143 : decode cX8_init 143 = .ok (.iconst 1, 1) := by decide +kernel
theorem dX8_init_144 : decode cX8_init 144 = .ok (.invokevirtual 29, 3) := by decide +kernel
theorem dX8_init_147 : decode cX8_init 147 = .ok (.aload_n 0, 1) := by decide +kernel
theorem dX8_init_148 : decode cX8_init 148 = .ok (.iconst 2, 1) := by decide +kernel
theorem dX8_init_149 : decode cX8_init 149 = .ok (.iconst 2, 1) := by decide +kernel
theorem dX8_init_150 : decode cX8_init 150 = .ok (.bipush 60, 2) := by decide +kernel
theorem dX8_init_152 : decode cX8_init 152 = .ok (.invokevirtual 33, 3) := by decide +kernel
theorem dX8_init_155 : decode cX8_init 155 = .ok (.aload_n 0, 1) := by decide +kernel
theorem dX8_init_156 : decode cX8_init 156 = .ok (.invokevirtual 37, 3) := by decide +kernel
theorem dX8_init_159 : decode cX8_init 159 = .ok (.return_, 1) := by decide +kernel
set_option maxRecDepth 20000 in
theorem ggX8_write_X8_in : GoodIn wsX8_write wsX8_in := goodIn_r _ [6] (by decide +kernel) (by decide +kernel)
set_option maxRecDepth 20000 in
theorem gX8_write_X8_in : GoodIn wsX8_write (va_wsS RX8 40 yX8_in wsX8_in) := goodIn_app (goodIn_of _ (by decide +kernel)) ggX8_write_X8_in
theorem dX8_write_0 : decode cX8_write 0 = .ok (.iload_n 1, 1) := by decide +kernel
theorem dX8_write_1 : decode cX8_write 1 = .ok (.bipush 32, 2) := by decide +kernel
theorem dX8_write_3 : decode cX8_write 3 = .ok (.bipush 126, 2) := by decide +kernel
theorem dX8_write_5 : decode cX8_write 5 = .ok (.invokestatic 40, 3) := by decide +kernel
theorem dX8_write_8 : decode cX8_write 8 = .ok (.ifCond .ne 5, 3) := by decide +kernel
theorem dX8_write_11 : decode cX8_write 11 = .ok (.iconst (-1), 1) := by decide +kernel
theorem dX8_write_12 : decode cX8_write 12 = .ok (.ireturn, 1) := by decide +kernel
theorem dX8_write_13 : decode cX8_write 13 = .ok (.aload_n 0, 1) := by decide +kernel
theorem dX8_write_14 : decode cX8_write 14 = .ok (.getfield 44, 3) := by decide +kernel
theorem dX8_write_17 : decode cX8_write 17 = .ok (.sipush 200, 3) := by decide +kernel
theorem dX8_write_20 : decode cX8_write 20 = .ok (.if_icmp .ne 6, 3) := by decide +kernel
theorem dX8_write_23 : decode cX8_write 23 = .ok (.bipush (-3), 2) := by decide +kernel
theorem dX8_write_25 : decode cX8_write 25 = .ok (.ireturn, 1) := by decide +kernel
theorem dX8_write_26 : decode cX8_write 26 = .ok (.aload_n 0, 1) := by decide +kernel
theorem dX8_write_27 : decode cX8_write 27 = .ok (.getfield 19, 3) := by decide +kernel
theorem dX8_write_30 : decode cX8_write 30 = .ok (.aload_n 0, 1) := by decide +kernel
theorem dX8_write_31 : decode cX8_write 31 = .ok (.getfield 44, 3) := by decide +kernel
theorem dX8_write_34 : decode cX8_write 34 = .ok (.iload_n 1, 1) := by decide +kernel
theorem dX8_write_35 : decode cX8_write 35 = .ok (.iastore, 1) := by decide +kernel
theorem dX8_write_36 : decode cX8_write 36 = .ok (.aload_n 0, 1) := by decide +kernel
theorem dX8_write_37 : decode cX8_write 37 = .ok (.dup, 1) := by decide +kernel
theorem dX8_write_38 : decode cX8_write 38 = .ok (.getfield 44, 3) := by decide +kernel
theorem dX8_write_41 : decode cX8_write 41 = .ok (.iconst 1, 1) := by decide +kernel
theorem dX8_write_42 : decode cX8_write 42 = .ok (.iadd, 1) := by decide +kernel
theorem dX8_write_43 : decode cX8_write 43 = .ok (.putfield 44, 3) := by decide +kernel
theorem dX8_write_46 : decode cX8_write 46 = .ok (.aload_n 0, 1) := by decide +kernel
theorem dX8_write_47 : decode cX8_write 47 = .ok (.getfield 44, 3) := by decide +kernel
theorem dX8_write_50 : decode cX8_write 50 = .ok (.ireturn, 1) := by decide +kernel
theorem dX8_wipe_0 : decode cX8_wipe 0 = .ok (.aload_n 0, 1) := by decide +kernel
theorem dX8_wipe_1 : decode cX8_wipe 1 = .ok (.getfield 44, 3) := by decide +kernel
theorem dX8_wipe_4 : decode cX8_wipe 4 = .ok (.istore_n 1, 1) := by decide +kernel
theorem dX8_wipe_5 : decode cX8_wipe 5 = .ok (.aload_n 0, 1) := by decide +kernel
theorem dX8_wipe_6 : decode cX8_wipe 6 = .ok (.iconst 0, 1) := by decide +kernel
theorem dX8_wipe_7 : decode cX8_wipe 7 = .ok (.putfield 44, 3) := by decide +kernel
theorem dX8_wipe_10 : decode cX8_wipe 10 = .ok (.iload_n 1, 1) := by decide +kernel
theorem dX8_wipe_11 : decode cX8_wipe 11 = .ok (.ireturn, 1) := by decide +kernel
theorem dX8_column_0 : decode cX8_column 0 = .ok (.aload_n 0, 1) := by decide +kernel
theorem dX8_column_1 : decode cX8_column 1 = .ok (.getfield 13, 3) := by decide +kernel
theorem dX8_column_4 : decode cX8_column 4 = .ok (.iconst 3, 1) := by decide +kernel
theorem dX8_column_5 : decode cX8_column 5 = .ok (.aload_n 0, 1) := by decide +kernel
theorem dX8_column_6 : decode cX8_column 6 = .ok (.getfield 13, 3) := by decide +kernel
theorem dX8_column_9 : decode cX8_column 9 = .ok (.iconst 0, 1) := by decide +kernel
theorem dX8_column_10 : decode cX8_column 10 = .ok (.iaload, 1) := by decide +kernel
theorem dX8_column_11 : decode cX8_column 11 = .ok (.iadd, 1) := by decide +kernel
theorem dX8_column_12 : decode cX8_column 12 = .ok (.iload_n 1, 1) := by decide +kernel
theorem dX8_column_13 : decode cX8_column 13 = .ok (.iastore, 1) := by decide +kernel
theorem dX8_column_14 : decode cX8_column 14 = .ok (.aload_n 0, 1) := by decide +kernel
theorem dX8_column_15 : decode cX8_column 15 = .ok (.getfield 13, 3) := by decide +kernel
theorem dX8_column_18 : decode cX8_column 18 = .ok (.iconst 0, 1) := by decide +kernel
theorem dX8_column_19 : decode cX8_column 19 = .ok (.dup2, 1) := by decide +kernel
theorem dX8_column_20 : decode cX8_column 20 = .ok (.iaload, 1) := by decide +kernel
theorem dX8_column_21 : decode cX8_column 21 = .ok (.iconst 1, 1) := by decide +kernel
theorem dX8_column_22 : decode cX8_column 22 = .ok (.iadd, 1) := by decide +kernel
theorem dX8_column_23 : decode cX8_column 23 = .ok (.iastore, 1) := by decide +kernel
theorem dX8_column_24 : decode cX8_column 24 = .ok (.return_, 1) := by decide +kernel
theorem dX8_place_0 : decode cX8_place 0 = .ok (.bipush 23, 2) := by decide +kernel
theorem dX8_place_2 : decode cX8_place 2 = .ok (.bipush 13, 2) := by decide +kernel
theorem dX8_place_4 : decode cX8_place 4 = .ok (.aload_n 0, 1) := by decide +kernel
theorem dX8_place_5 : decode cX8_place 5 = .ok (.getfield 13, 3) := by decide +kernel
theorem dX8_place_8 : decode cX8_place 8 = .ok (.iconst 1, 1) := by decide +kernel
theorem dX8_place_9 : decode cX8_place 9 = .ok (.iaload, 1) := by decide +kernel
theorem dX8_place_10 : decode cX8_place 10 = .ok (.imul, 1) := by decide +kernel
theorem dX8_place_11 : decode cX8_place 11 = .ok (.iadd, 1) := by decide +kernel
theorem dX8_place_12 : decode cX8_place 12 = .ok (.istore 5, 2) := by decide +kernel
theorem dX8_place_14 : decode cX8_place 14 = .ok (.aload_n 0, 1) := by decide +kernel
theorem dX8_place_15 : decode cX8_place 15 = .ok (.getfield 13, 3) := by decide +kernel
theorem dX8_place_18 : decode cX8_place 18 = .ok (.iload 5, 2) := by decide +kernel
theorem dX8_place_20 : decode cX8_place 20 = .ok (.iconst 0, 1) := by decide +kernel
theorem dX8_place_21 : decode cX8_place 21 = .ok (.iadd, 1) := by decide +kernel
theorem dX8_place_22 : decode cX8_place 22 = .ok (.iload_n 1, 1) := by decide +kernel
theorem dX8_place_23 : decode cX8_place 23 = .ok (.iastore, 1) := by decide +kernel
theorem dX8_place_24 : decode cX8_place 24 = .ok (.aload_n 0, 1) := by decide +kernel
theorem dX8_place_25 : decode cX8_place 25 = .ok (.getfield 13, 3) := by decide +kernel
theorem dX8_place_28 : decode cX8_place 28 = .ok (.iload 5, 2) := by decide +kernel
theorem dX8_place_30 : decode cX8_place 30 = .ok (.iconst 1, 1) := by decide +kernel
theorem dX8_place_31 : decode cX8_place 31 = .ok (.iadd, 1) := by decide +kernel
theorem dX8_place_32 : decode cX8_place 32 = .ok (.iload_n 2, 1) := by decide +kernel
theorem dX8_place_33 : decode cX8_place 33 = .ok (.iastore, 1) := by decide +kernel
theorem dX8_place_34 : decode cX8_place 34 = .ok (.aload_n 0, 1) := by decide +kernel
theorem dX8_place_35 : decode cX8_place 35 = .ok (.getfield 13, 3) := by decide +kernel
theorem dX8_place_38 : decode cX8_place 38 = .ok (.iload 5, 2) := by decide +kernel
theorem dX8_place_40 : decode cX8_place 40 = .ok (.iconst 2, 1) := by decide +kernel
theorem dX8_place_41 : decode cX8_place 41 = .ok (.iadd, 1) := by decide +kernel
theorem dX8_place_42 : decode cX8_place 42 = .ok (.iload_n 3, 1) := by decide +kernel
theorem dX8_place_43 : decode cX8_place 43 = .ok (.iastore, 1) := by decide +kernel
theorem dX8_place_44 : decode cX8_place 44 = .ok (.aload_n 0, 1) := by decide +kernel
theorem dX8_place_45 : decode cX8_place 45 = .ok (.getfield 13, 3) := by decide +kernel
theorem dX8_place_48 : decode cX8_place 48 = .ok (.iload 5, 2) := by decide +kernel
theorem dX8_place_50 : decode cX8_place 50 = .ok (.iconst 3, 1) := by decide +kernel
theorem dX8_place_51 : decode cX8_place 51 = .ok (.iadd, 1) := by decide +kernel
theorem dX8_place_52 : decode cX8_place 52 = .ok (.iload 4, 2) := by decide +kernel
theorem dX8_place_54 : decode cX8_place 54 = .ok (.iastore, 1) := by decide +kernel
theorem dX8_place_55 : decode cX8_place 55 = .ok (.return_, 1) := by decide +kernel
theorem dX8_measure_0 : decode cX8_measure 0 = .ok (.bipush 23, 2) := by decide +kernel
theorem dX8_measure_2 : decode cX8_measure 2 = .ok (.bipush 13, 2) := by decide +kernel
theorem dX8_measure_4 : decode cX8_measure 4 = .ok (.aload_n 0, 1) := by decide +kernel
theorem dX8_measure_5 : decode cX8_measure 5 = .ok (.getfield 13, 3) := by decide +kernel
theorem dX8_measure_8 : decode cX8_measure 8 = .ok (.iconst 1, 1) := by decide +kernel
theorem dX8_measure_9 : decode cX8_measure 9 = .ok (.iaload, 1) := by decide +kernel
theorem dX8_measure_10 : decode cX8_measure 10 = .ok (.imul, 1) := by decide +kernel
theorem dX8_measure_11 : decode cX8_measure 11 = .ok (.iadd, 1) := by decide +kernel
theorem dX8_measure_12 : decode cX8_measure 12 = .ok (.istore 4, 2) := by decide +kernel
theorem dX8_measure_14 : decode cX8_measure 14 = .ok (.aload_n 0, 1) := by decide +kernel
theorem dX8_measure_15 : decode cX8_measure 15 = .ok (.getfield 13, 3) := by decide +kernel
theorem dX8_measure_18 : decode cX8_measure 18 = .ok (.iload 4, 2) := by decide +kernel
theorem dX8_measure_20 : decode cX8_measure 20 = .ok (.iconst 4, 1) := by decide +kernel
theorem dX8_measure_21 : decode cX8_measure 21 = .ok (.iadd, 1) := by decide +kernel
theorem dX8_measure_22 : decode cX8_measure 22 = .ok (.iload_n 1, 1) := by decide +kernel
theorem dX8_measure_23 : decode cX8_measure 23 = .ok (.iastore, 1) := by decide +kernel
theorem dX8_measure_24 : decode cX8_measure 24 = .ok (.aload_n 0, 1) := by decide +kernel
theorem dX8_measure_25 : decode cX8_measure 25 = .ok (.getfield 13, 3) := by decide +kernel
theorem dX8_measure_28 : decode cX8_measure 28 = .ok (.iload 4, 2) := by decide +kernel
theorem dX8_measure_30 : decode cX8_measure 30 = .ok (.iconst 5, 1) := by decide +kernel
theorem dX8_measure_31 : decode cX8_measure 31 = .ok (.iadd, 1) := by decide +kernel
theorem dX8_measure_32 : decode cX8_measure 32 = .ok (.iload_n 2, 1) := by decide +kernel
theorem dX8_measure_33 : decode cX8_measure 33 = .ok (.iastore, 1) := by decide +kernel
theorem dX8_measure_34 : decode cX8_measure 34 = .ok (.aload_n 0, 1) := by decide +kernel
theorem dX8_measure_35 : decode cX8_measure 35 = .ok (.getfield 13, 3) := by decide +kernel
theorem dX8_measure_38 : decode cX8_measure 38 = .ok (.iload 4, 2) := by decide +kernel
theorem dX8_measure_40 : decode cX8_measure 40 = .ok (.bipush 6, 2) := by decide +kernel
theorem dX8_measure_42 : decode cX8_measure 42 = .ok (.iadd, 1) := by decide +kernel
theorem dX8_measure_43 : decode cX8_measure 43 = .ok (.iload_n 3, 1) := by decide +kernel
theorem dX8_measure_44 : decode cX8_measure 44 = .ok (.iastore, 1) := by decide +kernel
theorem dX8_measure_45 : decode cX8_measure 45 = .ok (.aload_n 0, 1) := by decide +kernel
theorem dX8_measure_46 : decode cX8_measure 46 = .ok (.getfield 13, 3) := by decide +kernel
theorem dX8_measure_49 : decode cX8_measure 49 = .ok (.iconst 1, 1) := by decide +kernel
theorem dX8_measure_50 : decode cX8_measure 50 = .ok (.dup2, 1) := by decide +kernel
theorem dX8_measure_51 : decode cX8_measure 51 = .ok (.iaload, 1) := by decide +kernel
theorem dX8_measure_52 : decode cX8_measure 52 = .ok (.iconst 1, 1) := by decide +kernel
theorem dX8_measure_53 : decode cX8_measure 53 = .ok (.iadd, 1) := by decide +kernel
theorem dX8_measure_54 : decode cX8_measure 54 = .ok (.iastore, 1) := by decide +kernel
theorem dX8_measure_55 : decode cX8_measure 55 = .ok (.return_, 1) := by decide +kernel
set_option maxRecDepth 20000 in
theorem ggX8_isFigure_X8_in : GoodIn wsX8_isFigure wsX8_in := goodIn_r _ [7] (by decide +kernel) (by decide +kernel)
set_option maxRecDepth 20000 in
theorem gX8_isFigure_X8_in : GoodIn wsX8_isFigure (va_wsS RX8 40 yX8_in wsX8_in) := goodIn_app (goodIn_of _ (by decide +kernel)) ggX8_isFigure_X8_in
theorem dX8_isFigure_0 : decode cX8_isFigure 0 = .ok (.aload_n 0, 1) := by decide +kernel
theorem dX8_isFigure_1 : decode cX8_isFigure 1 = .ok (.getfield 48, 3) := by decide +kernel
theorem dX8_isFigure_4 : decode cX8_isFigure 4 = .ok (.aload_n 0, 1) := by decide +kernel
theorem dX8_isFigure_5 : decode cX8_isFigure 5 = .ok (.getfield 44, 3) := by decide +kernel
theorem dX8_isFigure_8 : decode cX8_isFigure 8 = .ok (.if_icmp .ge 26, 3) := by decide +kernel
theorem dX8_isFigure_11 : decode cX8_isFigure 11 = .ok (.aload_n 0, 1) := by decide +kernel
theorem dX8_isFigure_12 : decode cX8_isFigure 12 = .ok (.getfield 19, 3) := by decide +kernel
theorem dX8_isFigure_15 : decode cX8_isFigure 15 = .ok (.aload_n 0, 1) := by decide +kernel
theorem dX8_isFigure_16 : decode cX8_isFigure 16 = .ok (.getfield 48, 3) := by decide +kernel
theorem dX8_isFigure_19 : decode cX8_isFigure 19 = .ok (.iaload, 1) := by decide +kernel
theorem dX8_isFigure_20 : decode cX8_isFigure 20 = .ok (.bipush 48, 2) := by decide +kernel
theorem dX8_isFigure_22 : decode cX8_isFigure 22 = .ok (.bipush 57, 2) := by decide +kernel
theorem dX8_isFigure_24 : decode cX8_isFigure 24 = .ok (.invokestatic 40, 3) := by decide +kernel
theorem dX8_isFigure_27 : decode cX8_isFigure 27 = .ok (.ifCond .eq 7, 3) := by decide +kernel
theorem dX8_isFigure_30 : decode cX8_isFigure 30 = .ok (.iconst 1, 1) := by decide +kernel
theorem dX8_isFigure_31 : decode cX8_isFigure 31 = .ok (.goto 4, 3) := by decide +kernel
theorem dX8_isFigure_34 : decode cX8_isFigure 34 = .ok (.iconst 0, 1) := by decide +kernel
theorem dX8_isFigure_35 : decode cX8_isFigure 35 = .ok (.ireturn, 1) := by decide +kernel
theorem dX8_isSign_0 : decode cX8_isSign 0 = .ok (.aload_n 0, 1) := by decide +kernel
theorem dX8_isSign_1 : decode cX8_isSign 1 = .ok (.getfield 48, 3) := by decide +kernel
theorem dX8_isSign_4 : decode cX8_isSign 4 = .ok (.aload_n 0, 1) := by decide +kernel
theorem dX8_isSign_5 : decode cX8_isSign 5 = .ok (.getfield 44, 3) := by decide +kernel
theorem dX8_isSign_8 : decode cX8_isSign 8 = .ok (.if_icmp .ge 20, 3) := by decide +kernel
theorem dX8_isSign_11 : decode cX8_isSign 11 = .ok (.aload_n 0, 1) := by decide +kernel
theorem dX8_isSign_12 : decode cX8_isSign 12 = .ok (.getfield 19, 3) := by decide +kernel
theorem dX8_isSign_15 : decode cX8_isSign 15 = .ok (.aload_n 0, 1) := by decide +kernel
theorem dX8_isSign_16 : decode cX8_isSign 16 = .ok (.getfield 48, 3) := by decide +kernel
theorem dX8_isSign_19 : decode cX8_isSign 19 = .ok (.iaload, 1) := by decide +kernel
theorem dX8_isSign_20 : decode cX8_isSign 20 = .ok (.iload_n 1, 1) := by decide +kernel
theorem dX8_isSign_21 : decode cX8_isSign 21 = .ok (.if_icmp .ne 7, 3) := by decide +kernel
theorem dX8_isSign_24 : decode cX8_isSign 24 = .ok (.iconst 1, 1) := by decide +kernel
theorem dX8_isSign_25 : decode cX8_isSign 25 = .ok (.goto 4, 3) := by decide +kernel
theorem dX8_isSign_28 : decode cX8_isSign 28 = .ok (.iconst 0, 1) := by decide +kernel
theorem dX8_isSign_29 : decode cX8_isSign 29 = .ok (.istore_n 2, 1) := by decide +kernel
theorem dX8_isSign_30 : decode cX8_isSign 30 = .ok (.aload_n 0, 1) := by decide +kernel
theorem dX8_isSign_31 : decode cX8_isSign 31 = .ok (.dup, 1) := by decide +kernel
theorem dX8_isSign_32 : decode cX8_isSign 32 = .ok (.getfield 48, 3) := by decide +kernel
theorem dX8_isSign_35 : decode cX8_isSign 35 = .ok (.iload_n 2, 1) := by decide +kernel
theorem dX8_isSign_36 : decode cX8_isSign 36 = .ok (.ifCond .eq 7, 3) := by decide +kernel
theorem dX8_isSign_39 : decode cX8_isSign 39 = .ok (.iconst 1, 1) := by decide +kernel
theorem dX8_isSign_40 : decode cX8_isSign 40 = .ok (.goto 4, 3) := by decide +kernel
theorem dX8_isSign_43 : decode cX8_isSign 43 = .ok (.iconst 0, 1) := by decide +kernel
theorem dX8_isSign_44 : decode cX8_isSign 44 = .ok (.iadd, 1) := by decide +kernel
theorem dX8_isSign_45 : decode cX8_isSign 45 = .ok (.putfield 48, 3) := by decide +kernel
theorem dX8_isSign_48 : decode cX8_isSign 48 = .ok (.iload_n 2, 1) := by decide +kernel
theorem dX8_isSign_49 : decode cX8_isSign 49 = .ok (.ireturn, 1) := by decide +kernel
set_option maxRecDepth 20000 in
theorem ggX8_readNumbers_X8_isSign : GoodIn wsX8_readNumbers wsX8_isSign := goodIn_r _ [8, 2, 9, 1, 17, 18, 19, 20, 21, 22, 23, 24, 25, 26, 27, 28, 29] (by decide +kernel) (by decide +kernel)
set_option maxRecDepth 20000 in
theorem gX8_readNumbers_X8_isSign : GoodIn wsX8_readNumbers (wsV RX8 51 RX8 yX8_isSign wsX8_isSign) := goodIn_app (goodIn_of _ (by decide +kernel)) ggX8_readNumbers_X8_isSign
set_option maxRecDepth 20000 in
theorem ggX8_readNumbers_X8_isFigure : GoodIn wsX8_readNumbers wsX8_isFigure := goodIn_r _ [13, 2, 9, 1, 14, 15, 7, 16, 17, 18, 19, 20, 21, 22, 23, 24, 25, 26, 27, 28, 29] (by decide +kernel) (by decide +kernel)
set_option maxRecDepth 20000 in
theorem gX8_readNumbers_X8_isFigure : GoodIn wsX8_readNumbers (wsV RX8 55 RX8 yX8_isFigure wsX8_isFigure) := goodIn_app (goodIn_of _ (by decide +kernel)) ggX8_readNumbers_X8_isFigure
theorem dX8_readNumbers_0 : decode cX8_readNumbers 0 = .ok (.iconst 1, 1) := by decide +kernel
theorem dX8_readNumbers_1 : decode cX8_readNumbers 1 = .ok (.istore_n 2, 1) := by decide +kernel
theorem dX8_readNumbers_2 : decode cX8_readNumbers 2 = .ok (.iconst 0, 1) := by decide +kernel
theorem dX8_readNumbers_3 : decode cX8_readNumbers 3 = .ok (.istore_n 3, 1) := by decide +kernel
theorem dX8_readNumbers_4 : decode cX8_readNumbers 4 = .ok (.iload_n 3, 1) := by decide +kernel
theorem dX8_readNumbers_5 : decode cX8_readNumbers 5 = .ok (.iload_n 1, 1) := by decide +kernel
theorem dX8_readNumbers_6 : decode cX8_readNumbers 6 = .ok (.if_icmp .ge 106, 3) := by decide +kernel
theorem dX8_readNumbers_9 : decode cX8_readNumbers 9 = .ok (.iload_n 2, 1) := by decide +kernel
theorem dX8_readNumbers_10 : decode cX8_readNumbers 10 = .ok (.ifCond .eq 102, 3) := by decide +kernel
theorem dX8_readNumbers_13 : decode cX8_readNumbers 13 = .ok (.iload_n 3, 1) := by decide +kernel
theorem dX8_readNumbers_14 : decode cX8_readNumbers 14 = .ok (.ifCond .eq 12, 3) := by decide +kernel
theorem dX8_readNumbers_17 : decode cX8_readNumbers 17 = .ok (.aload_n 0, 1) := by decide +kernel
theorem dX8_readNumbers_18 : decode cX8_readNumbers 18 = .ok (.bipush 44, 2) := by decide +kernel
theorem dX8_readNumbers_20 : decode cX8_readNumbers 20 = .ok (.invokevirtual 51, 3) := by decide +kernel
theorem dX8_readNumbers_23 : decode cX8_readNumbers 23 = .ok (.ifCond .eq 14, 3) := by decide +kernel
theorem dX8_readNumbers_26 : decode cX8_readNumbers 26 = .ok (.aload_n 0, 1) := by decide +kernel
theorem dX8_readNumbers_27 : decode cX8_readNumbers 27 = .ok (.invokevirtual 55, 3) := by decide +kernel
theorem dX8_readNumbers_30 : decode cX8_readNumbers 30 = .ok (.ifCond .eq 7, 3) := by decide +kernel
theorem dX8_readNumbers_33 : decode cX8_readNumbers 33 = .ok (.iconst 1, 1) := by decide +kernel
theorem dX8_readNumbers_34 : decode cX8_readNumbers 34 = .ok (.goto 4, 3) := by decide +kernel
theorem dX8_readNumbers_37 : decode cX8_readNumbers 37 = .ok (.iconst 0, 1) := by decide +kernel
theorem dX8_readNumbers_38 : decode cX8_readNumbers 38 = .ok (.istore_n 2, 1) := by decide +kernel
theorem dX8_readNumbers_39 : decode cX8_readNumbers 39 = .ok (.iconst 0, 1) := by decide +kernel
theorem dX8_readNumbers_40 : decode cX8_readNumbers 40 = .ok (.istore 4, 2) := by decide +kernel
theorem dX8_readNumbers_42 : decode cX8_readNumbers 42 = .ok (.iconst 0, 1) := by decide +kernel
theorem dX8_readNumbers_43 : decode cX8_readNumbers 43 = .ok (.istore 5, 2) := by decide +kernel
theorem dX8_readNumbers_45 : decode cX8_readNumbers 45 = .ok (.iload 5, 2) := by decide +kernel
theorem dX8_readNumbers_47 : decode cX8_readNumbers 47 = .ok (.iconst 3, 1) := by decide +kernel
theorem dX8_readNumbers_48 : decode cX8_readNumbers 48 = .ok (.if_icmp .ge 50, 3) := by decide +kernel
theorem dX8_readNumbers_51 : decode cX8_readNumbers 51 = .ok (.iload_n 2, 1) := by decide +kernel
theorem dX8_readNumbers_52 : decode cX8_readNumbers 52 = .ok (.ifCond .eq 46, 3) := by decide +kernel
theorem dX8_readNumbers_55 : decode cX8_readNumbers 55 = .ok (.aload_n 0, 1) := by decide +kernel
theorem dX8_readNumbers_56 : decode cX8_readNumbers 56 = .ok (.invokevirtual 55, 3) := by decide +kernel
theorem dX8_readNumbers_59 : decode cX8_readNumbers 59 = .ok (.ifCond .eq 39, 3) := by decide +kernel
theorem dX8_readNumbers_62 : decode cX8_readNumbers 62 = .ok (.bipush 10, 2) := by decide +kernel
theorem dX8_readNumbers_64 : decode cX8_readNumbers 64 = .ok (.iload 4, 2) := by decide +kernel
theorem dX8_readNumbers_66 : decode cX8_readNumbers 66 = .ok (.imul, 1) := by decide +kernel
theorem dX8_readNumbers_67 : decode cX8_readNumbers 67 = .ok (.aload_n 0, 1) := by decide +kernel
theorem dX8_readNumbers_68 : decode cX8_readNumbers 68 = .ok (.getfield 19, 3) := by decide +kernel
theorem dX8_readNumbers_71 : decode cX8_readNumbers 71 = .ok (.aload_n 0, 1) := by decide +kernel
theorem dX8_readNumbers_72 : decode cX8_readNumbers 72 = .ok (.getfield 48, 3) := by decide +kernel
theorem dX8_readNumbers_75 : decode cX8_readNumbers 75 = .ok (.iaload, 1) := by decide +kernel
theorem dX8_readNumbers_76 : decode cX8_readNumbers 76 = .ok (.iadd, 1) := by decide +kernel
theorem dX8_readNumbers_77 : decode cX8_readNumbers 77 = .ok (.bipush 48, 2) := by decide +kernel
theorem dX8_readNumbers_79 : decode cX8_readNumbers 79 = .ok (.isub, 1) := by decide +kernel
theorem dX8_readNumbers_80 : decode cX8_readNumbers 80 = .ok (.istore 4, 2) := by decide +kernel
theorem dX8_readNumbers_82 : decode cX8_readNumbers 82 = .ok (.aload_n 0, 1) := by decide +kernel
theorem dX8_readNumbers_83 : decode cX8_readNumbers 83 = .ok (.dup, 1) := by decide +kernel
theorem dX8_readNumbers_84 : decode cX8_readNumbers 84 = .ok (.getfield 48, 3) := by decide +kernel
theorem dX8_readNumbers_87 : decode cX8_readNumbers 87 = .ok (.iconst 1, 1) := by decide +kernel
theorem dX8_readNumbers_88 : decode cX8_readNumbers 88 = .ok (.iadd, 1) := by decide +kernel
theorem dX8_readNumbers_89 : decode cX8_readNumbers 89 = .ok (.putfield 48, 3) := by decide +kernel
theorem dX8_readNumbers_92 : decode cX8_readNumbers 92 = .ok (.iinc 5 1, 3) := by decide +kernel
theorem dX8_readNumbers_95 : decode cX8_readNumbers 95 = .ok (.goto (-50), 3) := by decide +kernel
theorem dX8_readNumbers_98 : decode cX8_readNumbers 98 = .ok (.aload_n 0, 1) := by decide +kernel
theorem dX8_readNumbers_99 : decode cX8_readNumbers 99 = .ok (.getfield 22, 3) := by decide +kernel
theorem dX8_readNumbers_102 : decode cX8_readNumbers 102 = .ok (.iload_n 3, 1) := by decide +kernel
theorem dX8_readNumbers_103 : decode cX8_readNumbers 103 = .ok (.iload 4, 2) := by decide +kernel
theorem dX8_readNumbers_105 : decode cX8_readNumbers 105 = .ok (.iastore, 1) := by decide +kernel
theorem dX8_readNumbers_106 : decode cX8_readNumbers 106 = .ok (.iinc 3 1, 3) := by decide +kernel
theorem dX8_readNumbers_109 : decode cX8_readNumbers 109 = .ok (.goto (-105), 3) := by decide +kernel
theorem dX8_readNumbers_112 : decode cX8_readNumbers 112 = .ok (.iload_n 2, 1) := by decide +kernel
theorem dX8_readNumbers_113 : decode cX8_readNumbers 113 = .ok (.ifCond .eq 16, 3) := by decide +kernel
theorem dX8_readNumbers_116 : decode cX8_readNumbers 116 = .ok (.aload_n 0, 1) := by decide +kernel
theorem dX8_readNumbers_117 : decode cX8_readNumbers 117 = .ok (.bipush 59, 2) := by decide +kernel
theorem dX8_readNumbers_119 : decode cX8_readNumbers 119 = .ok (.invokevirtual 51, 3) := by decide +kernel
theorem dX8_readNumbers_122 : decode cX8_readNumbers 122 = .ok (.ifCond .eq 7, 3) := by decide +kernel
theorem dX8_readNumbers_125 : decode cX8_readNumbers 125 = .ok (.iconst 1, 1) := by decide +kernel
theorem dX8_readNumbers_126 : decode cX8_readNumbers 126 = .ok (.goto 4, 3) := by decide +kernel
theorem dX8_readNumbers_129 : decode cX8_readNumbers 129 = .ok (.iconst 0, 1) := by decide +kernel
theorem dX8_readNumbers_130 : decode cX8_readNumbers 130 = .ok (.ireturn, 1) := by decide +kernel
set_option maxRecDepth 20000 in
theorem ggX8_readColumn_X8_readNumbers : GoodIn wsX8_readColumn wsX8_readNumbers := goodIn_r _ [7, 8, 9, 1, 10, 11, 12, 6, 13, 14, 15, 16, 17, 18, 19, 20, 21, 26, 27, 28, 29, 30, 31, 32, 33, 34, 35, 36, 37, 38] (by decide +kernel) (by decide +kernel)
set_option maxRecDepth 20000 in
theorem gX8_readColumn_X8_readNumbers : GoodIn wsX8_readColumn (wsV RX8 59 RX8 yX8_readNumbers wsX8_readNumbers) := goodIn_app (goodIn_of _ (by decide +kernel)) ggX8_readColumn_X8_readNumbers
set_option maxRecDepth 20000 in
theorem ggX8_readColumn_X8_in : GoodIn wsX8_readColumn wsX8_in := goodIn_r _ [21] (by decide +kernel) (by decide +kernel)
set_option maxRecDepth 20000 in
theorem gX8_readColumn_X8_in : GoodIn wsX8_readColumn (va_wsS RX8 40 yX8_in wsX8_in) := goodIn_app (goodIn_of _ (by decide +kernel)) ggX8_readColumn_X8_in
set_option maxRecDepth 20000 in
theorem ggX8_readColumn_X8_column : GoodIn wsX8_readColumn wsX8_column := goodIn_r _ [25, 2, 26, 27, 28, 29, 30, 31, 32, 33, 34, 35, 36, 37, 38] (by decide +kernel) (by decide +kernel)
set_option maxRecDepth 20000 in
theorem gX8_readColumn_X8_column : GoodIn wsX8_readColumn (wsV RX8 25 RX8 yX8_column wsX8_column) := goodIn_app (goodIn_of _ (by decide +kernel)) ggX8_readColumn_X8_column
theorem dX8_readColumn_0 : decode cX8_readColumn 0 = .ok (.aload_n 0, 1) := by decide +kernel
theorem dX8_readColumn_1 : decode cX8_readColumn 1 = .ok (.iconst 1, 1) := by decide +kernel
theorem dX8_readColumn_2 : decode cX8_readColumn 2 = .ok (.invokevirtual 59, 3) := by decide +kernel
theorem dX8_readColumn_5 : decode cX8_readColumn 5 = .ok (.ifCond .eq 29, 3) := by decide +kernel
theorem dX8_readColumn_8 : decode cX8_readColumn 8 = .ok (.aload_n 0, 1) := by decide +kernel
theorem dX8_readColumn_9 : decode cX8_readColumn 9 = .ok (.getfield 22, 3) := by decide +kernel
theorem dX8_readColumn_12 : decode cX8_readColumn 12 = .ok (.iconst 0, 1) := by decide +kernel
theorem dX8_readColumn_13 : decode cX8_readColumn 13 = .ok (.iaload, 1) := by decide +kernel
theorem dX8_readColumn_14 : decode cX8_readColumn 14 = .ok (.iconst 1, 1) := by decide +kernel
theorem dX8_readColumn_15 : decode cX8_readColumn 15 = .ok (.bipush 20, 2) := by decide +kernel
theorem dX8_readColumn_17 : decode cX8_readColumn 17 = .ok (.invokestatic 40, 3) := by decide +kernel
theorem dX8_readColumn_20 : decode cX8_readColumn 20 = .ok (.ifCond .eq 14, 3) := by decide +kernel
theorem dX8_readColumn_23 : decode cX8_readColumn 23 = .ok (.aload_n 0, 1) := by decide +kernel
theorem dX8_readColumn_24 : decode cX8_readColumn 24 = .ok (.getfield 13, 3) := by decide +kernel
theorem dX8_readColumn_27 : decode cX8_readColumn 27 = .ok (.iconst 0, 1) := by decide +kernel
theorem dX8_readColumn_28 : decode cX8_readColumn 28 = .ok (.iaload, 1) := by decide +kernel
theorem dX8_readColumn_29 : decode cX8_readColumn 29 = .ok (.bipush 20, 2) := by decide +kernel
theorem dX8_readColumn_31 : decode cX8_readColumn 31 = .ok (.if_icmp .ne 5, 3) := by decide +kernel
theorem dX8_readColumn_34 : decode cX8_readColumn 34 = .ok (.iconst 0, 1) := by decide +kernel
theorem dX8_readColumn_35 : decode cX8_readColumn 35 = .ok (.ireturn, 1) := by decide +kernel
theorem dX8_readColumn_36 : decode cX8_readColumn 36 = .ok (.aload_n 0, 1) := by decide +kernel
theorem dX8_readColumn_37 : decode cX8_readColumn 37 = .ok (.aload_n 0, 1) := by decide +kernel
theorem dX8_readColumn_38 : decode cX8_readColumn 38 = .ok (.getfield 22, 3) := by decide +kernel
theorem dX8_readColumn_41 : decode cX8_readColumn 41 = .ok (.iconst 0, 1) := by decide +kernel
theorem dX8_readColumn_42 : decode cX8_readColumn 42 = .ok (.iaload, 1) := by decide +kernel
theorem dX8_readColumn_43 : decode cX8_readColumn 43 = .ok (.invokevirtual 25, 3) := by decide +kernel
theorem dX8_readColumn_46 : decode cX8_readColumn 46 = .ok (.iconst 1, 1) := by decide +kernel
theorem dX8_readColumn_47 : decode cX8_readColumn 47 = .ok (.ireturn, 1) := by decide +kernel
set_option maxRecDepth 20000 in
theorem ggX8_readShip_X8_readNumbers : GoodIn wsX8_readShip wsX8_readNumbers := goodIn_r _ [7, 8, 9, 2, 10, 11, 12, 6, 13, 14, 15, 16, 17, 18, 19, 20, 21, 30, 31, 32, 33, 34, 35, 36, 37, 38, 39, 40, 41, 42] (by decide +kernel) (by decide +kernel)
set_option maxRecDepth 20000 in
theorem gX8_readShip_X8_readNumbers : GoodIn wsX8_readShip (wsV RX8 59 RX8 yX8_readNumbers wsX8_readNumbers) := goodIn_app (goodIn_of _ (by decide +kernel)) ggX8_readShip_X8_readNumbers
set_option maxRecDepth 20000 in
theorem ggX8_readShip_X8_in : GoodIn wsX8_readShip wsX8_in := goodIn_r _ [21] (by decide +kernel) (by decide +kernel)
set_option maxRecDepth 20000 in
theorem gX8_readShip_X8_in : GoodIn wsX8_readShip (va_wsS RX8 40 yX8_in wsX8_in) := goodIn_app (goodIn_of _ (by decide +kernel)) ggX8_readShip_X8_in
set_option maxRecDepth 20000 in
theorem ggX8_readShip_X8_place : GoodIn wsX8_readShip wsX8_place := goodIn_r _ [25, 1, 30, 31, 32, 33, 34, 35, 36, 37, 38, 39, 40, 41, 42] (by decide +kernel) (by decide +kernel)
set_option maxRecDepth 20000 in
theorem gX8_readShip_X8_place : GoodIn wsX8_readShip (wsV RX8 29 RX8 yX8_place wsX8_place) := goodIn_app (goodIn_of _ (by decide +kernel)) ggX8_readShip_X8_place
set_option maxRecDepth 20000 in
theorem ggX8_readShip_X8_measure : GoodIn wsX8_readShip wsX8_measure := goodIn_r _ [29, 1, 30, 31, 32, 33, 34, 35, 36, 37, 38, 39, 40, 41, 42] (by decide +kernel) (by decide +kernel)
set_option maxRecDepth 20000 in
theorem gX8_readShip_X8_measure : GoodIn wsX8_readShip (wsV RX8 33 RX8 yX8_measure wsX8_measure) := goodIn_app (goodIn_of _ (by decide +kernel)) ggX8_readShip_X8_measure
theorem dX8_readShip_0 : decode cX8_readShip 0 = .ok (.aload_n 0, 1) := by decide +kernel
theorem dX8_readShip_1 : decode cX8_readShip 1 = .ok (.bipush 7, 2) := by decide +kernel
theorem dX8_readShip_3 : decode cX8_readShip 3 = .ok (.invokevirtual 59, 3) := by decide +kernel
theorem dX8_readShip_6 : decode cX8_readShip 6 = .ok (.ifCond .eq 13, 3) := by decide +kernel
theorem dX8_readShip_9 : decode cX8_readShip 9 = .ok (.aload_n 0, 1) := by decide +kernel
theorem dX8_readShip_10 : decode cX8_readShip 10 = .ok (.getfield 13, 3) := by decide +kernel
theorem dX8_readShip_13 : decode cX8_readShip 13 = .ok (.iconst 1, 1) := by decide +kernel
theorem dX8_readShip_14 : decode cX8_readShip 14 = .ok (.iaload, 1) := by decide +kernel
theorem dX8_readShip_15 : decode cX8_readShip 15 = .ok (.iconst 5, 1) := by decide +kernel
theorem dX8_readShip_16 : decode cX8_readShip 16 = .ok (.if_icmp .ne 5, 3) := by decide +kernel
theorem dX8_readShip_19 : decode cX8_readShip 19 = .ok (.iconst 0, 1) := by decide +kernel
theorem dX8_readShip_20 : decode cX8_readShip 20 = .ok (.ireturn, 1) := by decide +kernel
theorem dX8_readShip_21 : decode cX8_readShip 21 = .ok (.aload_n 0, 1) := by decide +kernel
theorem dX8_readShip_22 : decode cX8_readShip 22 = .ok (.getfield 22, 3) := by decide +kernel
theorem dX8_readShip_25 : decode cX8_readShip 25 = .ok (.iconst 0, 1) := by decide +kernel
theorem dX8_readShip_26 : decode cX8_readShip 26 = .ok (.iaload, 1) := by decide +kernel
theorem dX8_readShip_27 : decode cX8_readShip 27 = .ok (.aload_n 0, 1) := by decide +kernel
theorem dX8_readShip_28 : decode cX8_readShip 28 = .ok (.getfield 13, 3) := by decide +kernel
theorem dX8_readShip_31 : decode cX8_readShip 31 = .ok (.iconst 0, 1) := by decide +kernel
theorem dX8_readShip_32 : decode cX8_readShip 32 = .ok (.iaload, 1) := by decide +kernel
theorem dX8_readShip_33 : decode cX8_readShip 33 = .ok (.if_icmp .ge 47, 3) := by decide +kernel
theorem dX8_readShip_36 : decode cX8_readShip 36 = .ok (.aload_n 0, 1) := by decide +kernel
theorem dX8_readShip_37 : decode cX8_readShip 37 = .ok (.getfield 22, 3) := by decide +kernel
theorem dX8_readShip_40 : decode cX8_readShip 40 = .ok (.iconst 1, 1) := by decide +kernel
theorem dX8_readShip_41 : decode cX8_readShip 41 = .ok (.iaload, 1) := by decide +kernel
theorem dX8_readShip_42 : decode cX8_readShip 42 = .ok (.bipush 20, 2) := by decide +kernel
theorem dX8_readShip_44 : decode cX8_readShip 44 = .ok (.if_icmp .ge 36, 3) := by decide +kernel
theorem dX8_readShip_47 : decode cX8_readShip 47 = .ok (.aload_n 0, 1) := by decide +kernel
theorem dX8_readShip_48 : decode cX8_readShip 48 = .ok (.getfield 22, 3) := by decide +kernel
theorem dX8_readShip_51 : decode cX8_readShip 51 = .ok (.iconst 2, 1) := by decide +kernel
theorem dX8_readShip_52 : decode cX8_readShip 52 = .ok (.iaload, 1) := by decide +kernel
theorem dX8_readShip_53 : decode cX8_readShip 53 = .ok (.iconst 1, 1) := by decide +kernel
theorem dX8_readShip_54 : decode cX8_readShip 54 = .ok (.bipush 60, 2) := by decide +kernel
theorem dX8_readShip_56 : decode cX8_readShip 56 = .ok (.invokestatic 40, 3) := by decide +kernel
theorem dX8_readShip_59 : decode cX8_readShip 59 = .ok (.ifCond .eq 21, 3) := by decide +kernel
theorem dX8_readShip_62 : decode cX8_readShip 62 = .ok (.aload_n 0, 1) := by decide +kernel
theorem dX8_readShip_63 : decode cX8_readShip 63 = .ok (.getfield 22, 3) := by decide +kernel
theorem dX8_readShip_66 : decode cX8_readShip 66 = .ok (.iconst 3, 1) := by decide +kernel
theorem dX8_readShip_67 : decode cX8_readShip 67 = .ok (.iaload, 1) := by decide +kernel
theorem dX8_readShip_68 : decode cX8_readShip 68 = .ok (.iconst 1, 1) := by decide +kernel
theorem dX8_readShip_69 : decode cX8_readShip 69 = .ok (.iconst 5, 1) := by decide +kernel
theorem dX8_readShip_70 : decode cX8_readShip 70 = .ok (.invokestatic 40, 3) := by decide +kernel
theorem dX8_readShip_73 : decode cX8_readShip 73 = .ok (.ifCond .eq 7, 3) := by decide +kernel
theorem dX8_readShip_76 : decode cX8_readShip 76 = .ok (.iconst 1, 1) := by decide +kernel
theorem dX8_readShip_77 : decode cX8_readShip 77 = .ok (.goto 4, 3) := by decide +kernel
theorem dX8_readShip_80 : decode cX8_readShip 80 = .ok (.iconst 0, 1) := by decide +kernel
theorem dX8_readShip_81 : decode cX8_readShip 81 = .ok (.istore_n 1, 1) := by decide +kernel
theorem dX8_readShip_82 : decode cX8_readShip 82 = .ok (.iload_n 1, 1) := by decide +kernel
theorem dX8_readShip_83 : decode cX8_readShip 83 = .ok (.ifCond .eq 45, 3) := by decide +kernel
theorem dX8_readShip_86 : decode cX8_readShip 86 = .ok (.aload_n 0, 1) := by decide +kernel
theorem dX8_readShip_87 : decode cX8_readShip 87 = .ok (.getfield 22, 3) := by decide +kernel
theorem dX8_readShip_90 : decode cX8_readShip 90 = .ok (.iconst 4, 1) := by decide +kernel
theorem dX8_readShip_91 : decode cX8_readShip 91 = .ok (.iaload, 1) := by decide +kernel
theorem dX8_readShip_92 : decode cX8_readShip 92 = .ok (.iconst 1, 1) := by decide +kernel
theorem dX8_readShip_93 : decode cX8_readShip 93 = .ok (.bipush 9, 2) := by decide +kernel
theorem dX8_readShip_95 : decode cX8_readShip 95 = .ok (.invokestatic 40, 3) := by decide +kernel
theorem dX8_readShip_98 : decode cX8_readShip 98 = .ok (.ifCond .eq 30, 3) := by decide +kernel
theorem dX8_readShip_101 : decode cX8_readShip 101 = .ok (.aload_n 0, 1) := by decide +kernel
theorem dX8_readShip_102 : decode cX8_readShip 102 = .ok (.getfield 22, 3) := by decide +kernel
theorem dX8_readShip_105 : decode cX8_readShip 105 = .ok (.iconst 5, 1) := by decide +kernel
theorem dX8_readShip_106 : decode cX8_readShip 106 = .ok (.iaload, 1) := by decide +kernel
theorem dX8_readShip_107 : decode cX8_readShip 107 = .ok (.iconst 1, 1) := by decide +kernel
theorem dX8_readShip_108 : decode cX8_readShip 108 = .ok (.bipush 9, 2) := by decide +kernel
theorem dX8_readShip_110 : decode cX8_readShip 110 = .ok (.invokestatic 40, 3) := by decide +kernel
theorem dX8_readShip_113 : decode cX8_readShip 113 = .ok (.ifCond .eq 15, 3) := by decide +kernel
theorem dX8_readShip_116 : decode cX8_readShip 116 = .ok (.aload_n 0, 1) := by decide +kernel
theorem dX8_readShip_117 : decode cX8_readShip 117 = .ok (.getfield 22, 3) := by decide +kernel
theorem dX8_readShip_120 : decode cX8_readShip 120 = .ok (.bipush 6, 2) := by decide +kernel
theorem dX8_readShip_122 : decode cX8_readShip 122 = .ok (.iaload, 1) := by decide +kernel
theorem dX8_readShip_123 : decode cX8_readShip 123 = .ok (.bipush 10, 2) := by decide +kernel
theorem dX8_readShip_125 : decode cX8_readShip 125 = .ok (.if_icmp .ge 5, 3) := by decide +kernel
theorem dX8_readShip_128 : decode cX8_readShip 128 = .ok (.iconst 0, 1) := by decide +kernel
theorem dX8_readShip_129 : decode cX8_readShip 129 = .ok (.ireturn, 1) := by decide +kernel
theorem dX8_readShip_130 : decode cX8_readShip 130 = .ok (.aload_n 0, 1) := by decide +kernel
theorem dX8_readShip_131 : decode cX8_readShip 131 = .ok (.aload_n 0, 1) := by decide +kernel
theorem dX8_readShip_132 : decode cX8_readShip 132 = .ok (.getfield 22, 3) := by decide +kernel
theorem dX8_readShip_135 : decode cX8_readShip 135 = .ok (.iconst 0, 1) := by decide +kernel
theorem dX8_readShip_136 : decode cX8_readShip 136 = .ok (.iaload, 1) := by decide +kernel
theorem dX8_readShip_137 : decode cX8_readShip 137 = .ok (.aload_n 0, 1) := by decide +kernel
theorem dX8_readShip_138 : decode cX8_readShip 138 = .ok (.getfield 22, 3) := by decide +kernel
theorem dX8_readShip_141 : decode cX8_readShip 141 = .ok (.iconst 1, 1) := by decide +kernel
theorem dX8_readShip_142 : decode cX8_readShip 142 = .ok (.iaload, 1) := by decide +kernel
theorem dX8_readShip_143 : decode cX8_readShip 143 = .ok (.aload_n 0, 1) := by decide +kernel
theorem dX8_readShip_144 : decode cX8_readShip 144 = .ok (.getfield 22, 3) := by decide +kernel
theorem dX8_readShip_147 : decode cX8_readShip 147 = .ok (.iconst 2, 1) := by decide +kernel
theorem dX8_readShip_148 : decode cX8_readShip 148 = .ok (.iaload, 1) := by decide +kernel
theorem dX8_readShip_149 : decode cX8_readShip 149 = .ok (.aload_n 0, 1) := by decide +kernel
theorem dX8_readShip_150 : decode cX8_readShip 150 = .ok (.getfield 22, 3) := by decide +kernel
theorem dX8_readShip_153 : decode cX8_readShip 153 = .ok (.iconst 3, 1) := by decide +kernel
theorem dX8_readShip_154 : decode cX8_readShip 154 = .ok (.iaload, 1) := by decide +kernel
theorem dX8_readShip_155 : decode cX8_readShip 155 = .ok (.invokevirtual 29, 3) := by decide +kernel
theorem dX8_readShip_158 : decode cX8_readShip 158 = .ok (.aload_n 0, 1) := by decide +kernel
theorem dX8_readShip_159 : decode cX8_readShip 159 = .ok (.aload_n 0, 1) := by decide +kernel
theorem dX8_readShip_160 : decode cX8_readShip 160 = .ok (.getfield 22, 3) := by decide +kernel
theorem dX8_readShip_163 : decode cX8_readShip 163 = .ok (.iconst 4, 1) := by decide +kernel
theorem dX8_readShip_164 : decode cX8_readShip 164 = .ok (.iaload, 1) := by decide +kernel
theorem dX8_readShip_165 : decode cX8_readShip 165 = .ok (.aload_n 0, 1) := by decide +kernel
theorem dX8_readShip_166 : decode cX8_readShip 166 = .ok (.getfield 22, 3) := by decide +kernel
theorem dX8_readShip_169 : decode cX8_readShip 169 = .ok (.iconst 5, 1) := by decide +kernel
theorem dX8_readShip_170 : decode cX8_readShip 170 = .ok (.iaload, 1) := by decide +kernel
theorem dX8_readShip_171 : decode cX8_readShip 171 = .ok (.aload_n 0, 1) := by decide +kernel
theorem dX8_readShip_172 : decode cX8_readShip 172 = .ok (.getfield 22, 3) := by decide +kernel
theorem dX8_readShip_175 : decode cX8_readShip 175 = .ok (.bipush 6, 2) := by decide +kernel
theorem dX8_readShip_177 : decode cX8_readShip 177 = .ok (.iaload, 1) := by decide +kernel
theorem dX8_readShip_178 : decode cX8_readShip 178 = .ok (.invokevirtual 33, 3) := by decide +kernel
theorem dX8_readShip_181 : decode cX8_readShip 181 = .ok (.iconst 1, 1) := by decide +kernel
theorem dX8_readShip_182 : decode cX8_readShip 182 = .ok (.ireturn, 1) := by decide +kernel
set_option maxRecDepth 20000 in
theorem ggX8_parse_X8_readColumn : GoodIn wsX8_parse wsX8_readColumn := goodIn_r _ [9, 10, 1, 11, 12, 13, 8, 14, 4, 2, 15, 16, 17, 18, 3, 19, 20, 21, 22, 23, 24, 25, 26, 27, 28, 29, 42, 43, 44, 45, 46, 47, 48, 49, 50, 51, 52, 53, 54] (by decide +kernel) (by decide +kernel)
set_option maxRecDepth 20000 in
theorem gX8_parse_X8_readColumn : GoodIn wsX8_parse (wsV RX8 62 RX8 yX8_readColumn wsX8_readColumn) := goodIn_app (goodIn_of _ (by decide +kernel)) ggX8_parse_X8_readColumn
set_option maxRecDepth 20000 in
theorem ggX8_parse_X8_readShip : GoodIn wsX8_parse wsX8_readShip := goodIn_r _ [33, 1, 10, 11, 12, 13, 8, 14, 4, 2, 15, 16, 17, 18, 3, 19, 20, 21, 22, 23, 24, 25, 34, 35, 36, 37, 38, 39, 40, 41, 42, 43, 44, 45, 46, 47, 48, 49, 50, 51, 52, 53, 54] (by decide +kernel) (by decide +kernel)
set_option maxRecDepth 20000 in
theorem gX8_parse_X8_readShip : GoodIn wsX8_parse (wsV RX8 65 RX8 yX8_readShip wsX8_readShip) := goodIn_app (goodIn_of _ (by decide +kernel)) ggX8_parse_X8_readShip
theorem dX8_parse_0 : decode cX8_parse 0 = .ok (.iconst 0, 1) := by decide +kernel
theorem dX8_parse_1 : decode cX8_parse 1 = .ok (.istore_n 1, 1) := by decide +kernel
theorem dX8_parse_2 : decode cX8_parse 2 = .ok (.iload_n 1, 1) := by decide +kernel
theorem dX8_parse_3 : decode cX8_parse 3 = .ok (.bipush 88, 2) := by decide +kernel
theorem dX8_parse_5 : decode cX8_parse 5 = .ok (.if_icmp .ge 16, 3) := by decide +kernel
theorem dX8_parse_8 : decode cX8_parse 8 = .ok (.aload_n 0, 1) := by decide +kernel
theorem dX8_parse_9 : decode cX8_parse 9 = .ok (.getfield 13, 3) := by decide +kernel
theorem dX8_parse_12 : decode cX8_parse 12 = .ok (.iload_n 1, 1) := by decide +kernel
theorem dX8_parse_13 : decode cX8_parse 13 = .ok (.iconst 0, 1) := by decide +kernel
theorem dX8_parse_14 : decode cX8_parse 14 = .ok (.iastore, 1) := by decide +kernel
theorem dX8_parse_15 : decode cX8_parse 15 = .ok (.iinc 1 1, 3) := by decide +kernel
theorem dX8_parse_18 : decode cX8_parse 18 = .ok (.goto (-16), 3) := by decide +kernel
theorem dX8_parse_21 : decode cX8_parse 21 = .ok (.aload_n 0, 1) := by decide +kernel
theorem dX8_parse_22 : decode cX8_parse 22 = .ok (.iconst 0, 1) := by decide +kernel
theorem dX8_parse_23 : decode cX8_parse 23 = .ok (.putfield 48, 3) := by decide +kernel
theorem dX8_parse_26 : decode cX8_parse 26 = .ok (.aload_n 0, 1) := by decide +kernel
theorem dX8_parse_27 : decode cX8_parse 27 = .ok (.getfield 48, 3) := by decide +kernel
theorem dX8_parse_30 : decode cX8_parse 30 = .ok (.aload_n 0, 1) := by decide +kernel
theorem dX8_parse_31 : decode cX8_parse 31 = .ok (.getfield 44, 3) := by decide +kernel
theorem dX8_parse_34 : decode cX8_parse 34 = .ok (.if_icmp .ge 69, 3) := by decide +kernel
theorem dX8_parse_37 : decode cX8_parse 37 = .ok (.aload_n 0, 1) := by decide +kernel
theorem dX8_parse_38 : decode cX8_parse 38 = .ok (.getfield 48, 3) := by decide +kernel
theorem dX8_parse_41 : decode cX8_parse 41 = .ok (.istore_n 1, 1) := by decide +kernel
theorem dX8_parse_42 : decode cX8_parse 42 = .ok (.aload_n 0, 1) := by decide +kernel
theorem dX8_parse_43 : decode cX8_parse 43 = .ok (.dup, 1) := by decide +kernel
theorem dX8_parse_44 : decode cX8_parse 44 = .ok (.getfield 48, 3) := by decide +kernel
theorem dX8_parse_47 : decode cX8_parse 47 = .ok (.iconst 1, 1) := by decide +kernel
theorem dX8_parse_48 : decode cX8_parse 48 = .ok (.iadd, 1) := by decide +kernel
theorem dX8_parse_49 : decode cX8_parse 49 = .ok (.putfield 48, 3) := by decide +kernel
theorem dX8_parse_52 : decode cX8_parse 52 = .ok (.aload_n 0, 1) := by decide +kernel
theorem dX8_parse_53 : decode cX8_parse 53 = .ok (.getfield 19, 3) := by decide +kernel
theorem dX8_parse_56 : decode cX8_parse 56 = .ok (.iload_n 1, 1) := by decide +kernel
theorem dX8_parse_57 : decode cX8_parse 57 = .ok (.iaload, 1) := by decide +kernel
theorem dX8_parse_58 : decode cX8_parse 58 = .ok (.bipush 99, 2) := by decide +kernel
theorem dX8_parse_60 : decode cX8_parse 60 = .ok (.if_icmp .ne 10, 3) := by decide +kernel
theorem dX8_parse_63 : decode cX8_parse 63 = .ok (.aload_n 0, 1) := by decide +kernel
theorem dX8_parse_64 : decode cX8_parse 64 = .ok (.invokevirtual 62, 3) := by decide +kernel
theorem dX8_parse_67 : decode cX8_parse 67 = .ok (.goto 26, 3) := by decide +kernel
theorem dX8_parse_70 : decode cX8_parse 70 = .ok (.aload_n 0, 1) := by decide +kernel
theorem dX8_parse_71 : decode cX8_parse 71 = .ok (.getfield 19, 3) := by decide +kernel
theorem dX8_parse_74 : decode cX8_parse 74 = .ok (.iload_n 1, 1) := by decide +kernel
theorem dX8_parse_75 : decode cX8_parse 75 = .ok (.iaload, 1) := by decide +kernel
theorem dX8_parse_76 : decode cX8_parse 76 = .ok (.bipush 115, 2) := by decide +kernel
theorem dX8_parse_78 : decode cX8_parse 78 = .ok (.if_icmp .ne 14, 3) := by decide +kernel
theorem dX8_parse_81 : decode cX8_parse 81 = .ok (.aload_n 0, 1) := by decide +kernel
theorem dX8_parse_82 : decode cX8_parse 82 = .ok (.invokevirtual 65, 3) := by decide +kernel
theorem dX8_parse_85 : decode cX8_parse 85 = .ok (.ifCond .eq 7, 3) := by decide +kernel
theorem dX8_parse_88 : decode cX8_parse 88 = .ok (.iconst 1, 1) := by decide +kernel
theorem dX8_parse_89 : decode cX8_parse 89 = .ok (.goto 4, 3) := by decide +kernel
theorem dX8_parse_92 : decode cX8_parse 92 = .ok (.iconst 0, 1) := by decide +kernel
theorem dX8_parse_93 : decode cX8_parse 93 = .ok (.istore_n 2, 1) := by decide +kernel
theorem dX8_parse_94 : decode cX8_parse 94 = .ok (.iload_n 2, 1) := by decide +kernel
theorem dX8_parse_95 : decode cX8_parse 95 = .ok (.ifCond .ne 5, 3) := by decide +kernel
theorem dX8_parse_98 : decode cX8_parse 98 = .ok (.iload_n 1, 1) := by decide +kernel
theorem dX8_parse_99 : decode cX8_parse 99 = .ok (.ireturn, 1) := by decide +kernel
theorem dX8_parse_100 : decode cX8_parse 100 = .ok (.goto (-74), 3) := by decide +kernel
theorem dX8_parse_103 : decode cX8_parse 103 = .ok (.bipush (-4), 2) := by decide +kernel
theorem dX8_parse_105 : decode cX8_parse 105 = .ok (.ireturn, 1) := by decide +kernel
set_option maxRecDepth 20000 in
theorem ggX8_fault_X8_parse : GoodIn wsX8_fault wsX8_parse := goodIn_r _ [5, 6, 7, 8, 9, 10, 11, 12, 4, 13, 14, 15, 16, 17, 18, 19, 20, 21, 22, 23, 24, 25, 26, 27, 28, 29, 30, 31, 32, 33, 34, 35, 36, 37, 38, 39, 40, 41, 42, 43, 44, 45, 46, 47, 48, 49, 50, 51, 52, 53, 54, 55, 56, 57, 58] (by decide +kernel) (by decide +kernel)
set_option maxRecDepth 20000 in
theorem gX8_fault_X8_parse : GoodIn wsX8_fault (wsV RX8 68 RX8 yX8_parse wsX8_parse) := goodIn_app (goodIn_of _ (by decide +kernel)) ggX8_fault_X8_parse
theorem dX8_fault_0 : decode cX8_fault 0 = .ok (.aload_n 0, 1) := by decide +kernel
theorem dX8_fault_1 : decode cX8_fault 1 = .ok (.invokevirtual 68, 3) := by decide +kernel
theorem dX8_fault_4 : decode cX8_fault 4 = .ok (.ireturn, 1) := by decide +kernel
set_option maxRecDepth 20000 in
theorem ggX8_lay_X8_parse : GoodIn wsX8_lay wsX8_parse := goodIn_r _ [7, 1, 8, 9, 10, 11, 12, 13, 6, 14, 15, 16, 17, 18, 19, 20, 21, 22, 23, 24, 25, 26, 27, 28, 29, 30, 31, 32, 33, 34, 35, 36, 37, 38, 39, 40, 41, 42, 43, 44, 45, 46, 52, 53, 54, 55, 56, 57, 58, 59, 60, 61, 62, 63, 64] (by decide +kernel) (by decide +kernel)
set_option maxRecDepth 20000 in
theorem gX8_lay_X8_parse : GoodIn wsX8_lay (wsV RX8 68 RX8 yX8_parse wsX8_parse) := goodIn_app (goodIn_of _ (by decide +kernel)) ggX8_lay_X8_parse
set_option maxRecDepth 20000 in
theorem ggX8_lay_X8_install : GoodIn wsX8_lay wsX8_install := goodIn_r _ [50, 2, 1, 51, 52, 53, 54, 55, 56, 57, 58, 59, 60, 61, 62, 63, 64] (by decide +kernel) (by decide +kernel)
set_option maxRecDepth 20000 in
theorem gX8_lay_X8_install : GoodIn wsX8_lay (wsV RX8 37 RX8 yX8_install wsX8_install) := goodIn_app (goodIn_of _ (by decide +kernel)) ggX8_lay_X8_install
theorem dX8_lay_0 : decode cX8_lay 0 = .ok (.aload_n 0, 1) := by decide +kernel
theorem dX8_lay_1 : decode cX8_lay 1 = .ok (.invokevirtual 68, 3) := by decide +kernel
theorem dX8_lay_4 : decode cX8_lay 4 = .ok (.bipush (-4), 2) := by decide +kernel
theorem dX8_lay_6 : decode cX8_lay 6 = .ok (.if_icmp .ne 22, 3) := by decide +kernel
theorem dX8_lay_9 : decode cX8_lay 9 = .ok (.aload_n 0, 1) := by decide +kernel
theorem dX8_lay_10 : decode cX8_lay 10 = .ok (.getfield 13, 3) := by decide +kernel
theorem dX8_lay_13 : decode cX8_lay 13 = .ok (.iconst 0, 1) := by decide +kernel
theorem dX8_lay_14 : decode cX8_lay 14 = .ok (.iaload, 1) := by decide +kernel
theorem dX8_lay_15 : decode cX8_lay 15 = .ok (.iconst 2, 1) := by decide +kernel
theorem dX8_lay_16 : decode cX8_lay 16 = .ok (.if_icmp .lt 12, 3) := by decide +kernel
theorem dX8_lay_19 : decode cX8_lay 19 = .ok (.aload_n 0, 1) := by decide +kernel
theorem dX8_lay_20 : decode cX8_lay 20 = .ok (.getfield 13, 3) := by decide +kernel
theorem dX8_lay_23 : decode cX8_lay 23 = .ok (.iconst 1, 1) := by decide +kernel
theorem dX8_lay_24 : decode cX8_lay 24 = .ok (.iaload, 1) := by decide +kernel
theorem dX8_lay_25 : decode cX8_lay 25 = .ok (.ifCond .ne 6, 3) := by decide +kernel
theorem dX8_lay_28 : decode cX8_lay 28 = .ok (.bipush (-2), 2) := by decide +kernel
theorem dX8_lay_30 : decode cX8_lay 30 = .ok (.ireturn, 1) := by decide +kernel
theorem dX8_lay_31 : decode cX8_lay 31 = .ok (.aload_n 0, 1) := by decide +kernel
theorem dX8_lay_32 : decode cX8_lay 32 = .ok (.invokevirtual 37, 3) := by decide +kernel
theorem dX8_lay_35 : decode cX8_lay 35 = .ok (.aload_n 0, 1) := by decide +kernel
theorem dX8_lay_36 : decode cX8_lay 36 = .ok (.getfield 7, 3) := by decide +kernel
theorem dX8_lay_39 : decode cX8_lay 39 = .ok (.iconst 1, 1) := by decide +kernel
theorem dX8_lay_40 : decode cX8_lay 40 = .ok (.iaload, 1) := by decide +kernel
theorem dX8_lay_41 : decode cX8_lay 41 = .ok (.ireturn, 1) := by decide +kernel
theorem dX8_install_0 : decode cX8_install 0 = .ok (.iconst 0, 1) := by decide +kernel
theorem dX8_install_1 : decode cX8_install 1 = .ok (.istore_n 1, 1) := by decide +kernel
theorem dX8_install_2 : decode cX8_install 2 = .ok (.iload_n 1, 1) := by decide +kernel
theorem dX8_install_3 : decode cX8_install 3 = .ok (.bipush 88, 2) := by decide +kernel
theorem dX8_install_5 : decode cX8_install 5 = .ok (.if_icmp .ge 21, 3) := by decide +kernel
theorem dX8_install_8 : decode cX8_install 8 = .ok (.aload_n 0, 1) := by decide +kernel
theorem dX8_install_9 : decode cX8_install 9 = .ok (.getfield 7, 3) := by decide +kernel
theorem dX8_install_12 : decode cX8_install 12 = .ok (.iload_n 1, 1) := by decide +kernel
theorem dX8_install_13 : decode cX8_install 13 = .ok (.aload_n 0, 1) := by decide +kernel
theorem dX8_install_14 : decode cX8_install 14 = .ok (.getfield 13, 3) := by decide +kernel
theorem dX8_install_17 : decode cX8_install 17 = .ok (.iload_n 1, 1) := by decide +kernel
theorem dX8_install_18 : decode cX8_install 18 = .ok (.iaload, 1) := by decide +kernel
theorem dX8_install_19 : decode cX8_install 19 = .ok (.iastore, 1) := by decide +kernel
theorem dX8_install_20 : decode cX8_install 20 = .ok (.iinc 1 1, 3) := by decide +kernel
theorem dX8_install_23 : decode cX8_install 23 = .ok (.goto (-21), 3) := by decide +kernel
theorem dX8_install_26 : decode cX8_install 26 = .ok (.aload_n 0, 1) := by decide +kernel
theorem dX8_install_27 : decode cX8_install 27 = .ok (.iconst 0, 1) := by decide +kernel
theorem dX8_install_28 : decode cX8_install 28 = .ok (.putfield 72, 3) := by decide +kernel
theorem dX8_install_31 : decode cX8_install 31 = .ok (.return_, 1) := by decide +kernel
theorem dX8_push_0 : decode cX8_push 0 = .ok (.aload_n 0, 1) := by decide +kernel
theorem dX8_push_1 : decode cX8_push 1 = .ok (.getfield 72, 3) := by decide +kernel
theorem dX8_push_4 : decode cX8_push 4 = .ok (.bipush 6, 2) := by decide +kernel
theorem dX8_push_6 : decode cX8_push 6 = .ok (.if_icmp .ne 43, 3) := by decide +kernel
theorem dX8_push_9 : decode cX8_push 9 = .ok (.iconst 0, 1) := by decide +kernel
theorem dX8_push_10 : decode cX8_push 10 = .ok (.istore_n 1, 1) := by decide +kernel
theorem dX8_push_11 : decode cX8_push 11 = .ok (.iload_n 1, 1) := by decide +kernel
theorem dX8_push_12 : decode cX8_push 12 = .ok (.sipush 440, 3) := by decide +kernel
theorem dX8_push_15 : decode cX8_push 15 = .ok (.if_icmp .ge 24, 3) := by decide +kernel
theorem dX8_push_18 : decode cX8_push 18 = .ok (.aload_n 0, 1) := by decide +kernel
theorem dX8_push_19 : decode cX8_push 19 = .ok (.getfield 16, 3) := by decide +kernel
theorem dX8_push_22 : decode cX8_push 22 = .ok (.iload_n 1, 1) := by decide +kernel
theorem dX8_push_23 : decode cX8_push 23 = .ok (.aload_n 0, 1) := by decide +kernel
theorem dX8_push_24 : decode cX8_push 24 = .ok (.getfield 16, 3) := by decide +kernel
theorem dX8_push_27 : decode cX8_push 27 = .ok (.iload_n 1, 1) := by decide +kernel
theorem dX8_push_28 : decode cX8_push 28 = .ok (.bipush 88, 2) := by decide +kernel
theorem dX8_push_30 : decode cX8_push 30 = .ok (.iadd, 1) := by decide +kernel
theorem dX8_push_31 : decode cX8_push 31 = .ok (.iaload, 1) := by decide +kernel
theorem dX8_push_32 : decode cX8_push 32 = .ok (.iastore, 1) := by decide +kernel
theorem dX8_push_33 : decode cX8_push 33 = .ok (.iinc 1 1, 3) := by decide +kernel
theorem dX8_push_36 : decode cX8_push 36 = .ok (.goto (-25), 3) := by decide +kernel
theorem dX8_push_39 : decode cX8_push 39 = .ok (.aload_n 0, 1) := by decide +kernel
theorem dX8_push_40 : decode cX8_push 40 = .ok (.dup, 1) := by decide +kernel
theorem dX8_push_41 : decode cX8_push 41 = .ok (.getfield 72, 3) := by decide +kernel
theorem dX8_push_44 : decode cX8_push 44 = .ok (.iconst 1, 1) := by decide +kernel
theorem dX8_push_45 : decode cX8_push 45 = .ok (.isub, 1) := by decide +kernel
theorem dX8_push_46 : decode cX8_push 46 = .ok (.putfield 72, 3) := by decide +kernel
theorem dX8_push_49 : decode cX8_push 49 = .ok (.iconst 0, 1) := by decide +kernel
theorem dX8_push_50 : decode cX8_push 50 = .ok (.istore_n 1, 1) := by decide +kernel
theorem dX8_push_51 : decode cX8_push 51 = .ok (.iload_n 1, 1) := by decide +kernel
theorem dX8_push_52 : decode cX8_push 52 = .ok (.bipush 88, 2) := by decide +kernel
theorem dX8_push_54 : decode cX8_push 54 = .ok (.if_icmp .ge 29, 3) := by decide +kernel
theorem dX8_push_57 : decode cX8_push 57 = .ok (.aload_n 0, 1) := by decide +kernel
theorem dX8_push_58 : decode cX8_push 58 = .ok (.getfield 16, 3) := by decide +kernel
theorem dX8_push_61 : decode cX8_push 61 = .ok (.bipush 88, 2) := by decide +kernel
theorem dX8_push_63 : decode cX8_push 63 = .ok (.aload_n 0, 1) := by decide +kernel
theorem dX8_push_64 : decode cX8_push 64 = .ok (.getfield 72, 3) := by decide +kernel
theorem dX8_push_67 : decode cX8_push 67 = .ok (.imul, 1) := by decide +kernel
theorem dX8_push_68 : decode cX8_push 68 = .ok (.iload_n 1, 1) := by decide +kernel
theorem dX8_push_69 : decode cX8_push 69 = .ok (.iadd, 1) := by decide +kernel
theorem dX8_push_70 : decode cX8_push 70 = .ok (.aload_n 0, 1) := by decide +kernel
theorem dX8_push_71 : decode cX8_push 71 = .ok (.getfield 7, 3) := by decide +kernel
theorem dX8_push_74 : decode cX8_push 74 = .ok (.iload_n 1, 1) := by decide +kernel
theorem dX8_push_75 : decode cX8_push 75 = .ok (.iaload, 1) := by decide +kernel
theorem dX8_push_76 : decode cX8_push 76 = .ok (.iastore, 1) := by decide +kernel
theorem dX8_push_77 : decode cX8_push 77 = .ok (.iinc 1 1, 3) := by decide +kernel
theorem dX8_push_80 : decode cX8_push 80 = .ok (.goto (-29), 3) := by decide +kernel
theorem dX8_push_83 : decode cX8_push 83 = .ok (.aload_n 0, 1) := by decide +kernel
theorem dX8_push_84 : decode cX8_push 84 = .ok (.dup, 1) := by decide +kernel
theorem dX8_push_85 : decode cX8_push 85 = .ok (.getfield 72, 3) := by decide +kernel
theorem dX8_push_88 : decode cX8_push 88 = .ok (.iconst 1, 1) := by decide +kernel
theorem dX8_push_89 : decode cX8_push 89 = .ok (.iadd, 1) := by decide +kernel
theorem dX8_push_90 : decode cX8_push 90 = .ok (.putfield 72, 3) := by decide +kernel
theorem dX8_push_93 : decode cX8_push 93 = .ok (.return_, 1) := by decide +kernel
theorem dX8_undo_0 : decode cX8_undo 0 = .ok (.aload_n 0, 1) := by decide +kernel
theorem dX8_undo_1 : decode cX8_undo 1 = .ok (.getfield 72, 3) := by decide +kernel
theorem dX8_undo_4 : decode cX8_undo 4 = .ok (.ifCond .ne 6, 3) := by decide +kernel
theorem dX8_undo_7 : decode cX8_undo 7 = .ok (.bipush (-2), 2) := by decide +kernel
theorem dX8_undo_9 : decode cX8_undo 9 = .ok (.ireturn, 1) := by decide +kernel
theorem dX8_undo_10 : decode cX8_undo 10 = .ok (.aload_n 0, 1) := by decide +kernel
theorem dX8_undo_11 : decode cX8_undo 11 = .ok (.dup, 1) := by decide +kernel
theorem dX8_undo_12 : decode cX8_undo 12 = .ok (.getfield 72, 3) := by decide +kernel
theorem dX8_undo_15 : decode cX8_undo 15 = .ok (.iconst 1, 1) := by decide +kernel
theorem dX8_undo_16 : decode cX8_undo 16 = .ok (.isub, 1) := by decide +kernel
theorem dX8_undo_17 : decode cX8_undo 17 = .ok (.putfield 72, 3) := by decide +kernel
theorem dX8_undo_20 : decode cX8_undo 20 = .ok (.iconst 0, 1) := by decide +kernel
theorem dX8_undo_21 : decode cX8_undo 21 = .ok (.istore_n 1, 1) := by decide +kernel
theorem dX8_undo_22 : decode cX8_undo 22 = .ok (.iload_n 1, 1) := by decide +kernel
theorem dX8_undo_23 : decode cX8_undo 23 = .ok (.bipush 88, 2) := by decide +kernel
theorem dX8_undo_25 : decode cX8_undo 25 = .ok (.if_icmp .ge 29, 3) := by decide +kernel
theorem dX8_undo_28 : decode cX8_undo 28 = .ok (.aload_n 0, 1) := by decide +kernel
theorem dX8_undo_29 : decode cX8_undo 29 = .ok (.getfield 7, 3) := by decide +kernel
theorem dX8_undo_32 : decode cX8_undo 32 = .ok (.iload_n 1, 1) := by decide +kernel
theorem dX8_undo_33 : decode cX8_undo 33 = .ok (.aload_n 0, 1) := by decide +kernel
theorem dX8_undo_34 : decode cX8_undo 34 = .ok (.getfield 16, 3) := by decide +kernel
theorem dX8_undo_37 : decode cX8_undo 37 = .ok (.bipush 88, 2) := by decide +kernel
theorem dX8_undo_39 : decode cX8_undo 39 = .ok (.aload_n 0, 1) := by decide +kernel
theorem dX8_undo_40 : decode cX8_undo 40 = .ok (.getfield 72, 3) := by decide +kernel
theorem dX8_undo_43 : decode cX8_undo 43 = .ok (.imul, 1) := by decide +kernel
theorem dX8_undo_44 : decode cX8_undo 44 = .ok (.iload_n 1, 1) := by decide +kernel
theorem dX8_undo_45 : decode cX8_undo 45 = .ok (.iadd, 1) := by decide +kernel
theorem dX8_undo_46 : decode cX8_undo 46 = .ok (.iaload, 1) := by decide +kernel
theorem dX8_undo_47 : decode cX8_undo 47 = .ok (.iastore, 1) := by decide +kernel
theorem dX8_undo_48 : decode cX8_undo 48 = .ok (.iinc 1 1, 3) := by decide +kernel
theorem dX8_undo_51 : decode cX8_undo 51 = .ok (.goto (-29), 3) := by decide +kernel
theorem dX8_undo_54 : decode cX8_undo 54 = .ok (.aload_n 0, 1) := by decide +kernel
theorem dX8_undo_55 : decode cX8_undo 55 = .ok (.getfield 72, 3) := by decide +kernel
theorem dX8_undo_58 : decode cX8_undo 58 = .ok (.ireturn, 1) := by decide +kernel
theorem dX8_of_0 : decode cX8_of 0 = .ok (.aload_n 0, 1) := by decide +kernel
theorem dX8_of_1 : decode cX8_of 1 = .ok (.getfield 7, 3) := by decide +kernel
theorem dX8_of_4 : decode cX8_of 4 = .ok (.bipush 23, 2) := by decide +kernel
theorem dX8_of_6 : decode cX8_of 6 = .ok (.bipush 13, 2) := by decide +kernel
theorem dX8_of_8 : decode cX8_of 8 = .ok (.iload_n 1, 1) := by decide +kernel
theorem dX8_of_9 : decode cX8_of 9 = .ok (.imul, 1) := by decide +kernel
theorem dX8_of_10 : decode cX8_of 10 = .ok (.iadd, 1) := by decide +kernel
theorem dX8_of_11 : decode cX8_of 11 = .ok (.iload_n 2, 1) := by decide +kernel
theorem dX8_of_12 : decode cX8_of 12 = .ok (.iadd, 1) := by decide +kernel
theorem dX8_of_13 : decode cX8_of 13 = .ok (.iaload, 1) := by decide +kernel
theorem dX8_of_14 : decode cX8_of 14 = .ok (.ireturn, 1) := by decide +kernel
theorem dX8_put_0 : decode cX8_put 0 = .ok (.aload_n 0, 1) := by decide +kernel
theorem dX8_put_1 : decode cX8_put 1 = .ok (.getfield 7, 3) := by decide +kernel
theorem dX8_put_4 : decode cX8_put 4 = .ok (.bipush 23, 2) := by decide +kernel
theorem dX8_put_6 : decode cX8_put 6 = .ok (.bipush 13, 2) := by decide +kernel
theorem dX8_put_8 : decode cX8_put 8 = .ok (.iload_n 1, 1) := by decide +kernel
theorem dX8_put_9 : decode cX8_put 9 = .ok (.imul, 1) := by decide +kernel
theorem dX8_put_10 : decode cX8_put 10 = .ok (.iadd, 1) := by decide +kernel
theorem dX8_put_11 : decode cX8_put 11 = .ok (.iload_n 2, 1) := by decide +kernel
theorem dX8_put_12 : decode cX8_put 12 = .ok (.iadd, 1) := by decide +kernel
theorem dX8_put_13 : decode cX8_put 13 = .ok (.iload_n 3, 1) := by decide +kernel
theorem dX8_put_14 : decode cX8_put 14 = .ok (.iastore, 1) := by decide +kernel
theorem dX8_put_15 : decode cX8_put 15 = .ok (.return_, 1) := by decide +kernel
theorem dX8_root_0 : decode cX8_root 0 = .ok (.iconst 0, 1) := by decide +kernel
theorem dX8_root_1 : decode cX8_root 1 = .ok (.istore_n 1, 1) := by decide +kernel
theorem dX8_root_2 : decode cX8_root 2 = .ok (.sipush 10100, 3) := by decide +kernel
theorem dX8_root_5 : decode cX8_root 5 = .ok (.istore_n 2, 1) := by decide +kernel
theorem dX8_root_6 : decode cX8_root 6 = .ok (.iload_n 1, 1) := by decide +kernel
theorem dX8_root_7 : decode cX8_root 7 = .ok (.iload_n 2, 1) := by decide +kernel
theorem dX8_root_8 : decode cX8_root 8 = .ok (.if_icmp .ge 30, 3) := by decide +kernel
theorem dX8_root_11 : decode cX8_root 11 = .ok (.iload_n 1, 1) := by decide +kernel
theorem dX8_root_12 : decode cX8_root 12 = .ok (.iload_n 2, 1) := by decide +kernel
theorem dX8_root_13 : decode cX8_root 13 = .ok (.iadd, 1) := by decide +kernel
theorem dX8_root_14 : decode cX8_root 14 = .ok (.iconst 1, 1) := by decide +kernel
theorem dX8_root_15 : decode cX8_root 15 = .ok (.iadd, 1) := by decide +kernel
theorem dX8_root_16 : decode cX8_root 16 = .ok (.iconst 2, 1) := by decide +kernel
theorem dX8_root_17 : decode cX8_root 17 = .ok (.idiv, 1) := by decide +kernel
theorem dX8_root_18 : decode cX8_root 18 = .ok (.istore_n 3, 1) := by decide +kernel
theorem dX8_root_19 : decode cX8_root 19 = .ok (.iload_n 3, 1) := by decide +kernel
theorem dX8_root_20 : decode cX8_root 20 = .ok (.iload_n 3, 1) := by decide +kernel
theorem dX8_root_21 : decode cX8_root 21 = .ok (.imul, 1) := by decide +kernel
theorem dX8_root_22 : decode cX8_root 22 = .ok (.iload_n 0, 1) := by decide +kernel
theorem dX8_root_23 : decode cX8_root 23 = .ok (.if_icmp .gt 8, 3) := by decide +kernel
theorem dX8_root_26 : decode cX8_root 26 = .ok (.iload_n 3, 1) := by decide +kernel
theorem dX8_root_27 : decode cX8_root 27 = .ok (.istore_n 1, 1) := by decide +kernel
theorem dX8_root_28 : decode cX8_root 28 = .ok (.goto 7, 3) := by decide +kernel
theorem dX8_root_31 : decode cX8_root 31 = .ok (.iload_n 3, 1) := by decide +kernel
theorem dX8_root_32 : decode cX8_root 32 = .ok (.iconst 1, 1) := by decide +kernel
theorem dX8_root_33 : decode cX8_root 33 = .ok (.isub, 1) := by decide +kernel
theorem dX8_root_34 : decode cX8_root 34 = .ok (.istore_n 2, 1) := by decide +kernel
theorem dX8_root_35 : decode cX8_root 35 = .ok (.goto (-29), 3) := by decide +kernel
theorem dX8_root_38 : decode cX8_root 38 = .ok (.iload_n 1, 1) := by decide +kernel
theorem dX8_root_39 : decode cX8_root 39 = .ok (.ireturn, 1) := by decide +kernel
set_option maxRecDepth 20000 in
theorem ggX8_rise_X8_root : GoodIn wsX8_rise wsX8_root := goodIn_r _ [4] (by decide +kernel) (by decide +kernel)
set_option maxRecDepth 20000 in
theorem gX8_rise_X8_root : GoodIn wsX8_rise (va_wsS RX8 75 yX8_root wsX8_root) := goodIn_app (goodIn_of _ (by decide +kernel)) ggX8_rise_X8_root
theorem dX8_rise_0 : decode cX8_rise 0 = .ok (.bipush 10, 2) := by decide +kernel
theorem dX8_rise_2 : decode cX8_rise 2 = .ok (.iload_n 1, 1) := by decide +kernel
theorem dX8_rise_3 : decode cX8_rise 3 = .ok (.imul, 1) := by decide +kernel
theorem dX8_rise_4 : decode cX8_rise 4 = .ok (.iload_n 0, 1) := by decide +kernel
theorem dX8_rise_5 : decode cX8_rise 5 = .ok (.iload_n 0, 1) := by decide +kernel
theorem dX8_rise_6 : decode cX8_rise 6 = .ok (.imul, 1) := by decide +kernel
theorem dX8_rise_7 : decode cX8_rise 7 = .ok (.iload_n 1, 1) := by decide +kernel
theorem dX8_rise_8 : decode cX8_rise 8 = .ok (.iload_n 1, 1) := by decide +kernel
theorem dX8_rise_9 : decode cX8_rise 9 = .ok (.imul, 1) := by decide +kernel
theorem dX8_rise_10 : decode cX8_rise 10 = .ok (.iadd, 1) := by decide +kernel
theorem dX8_rise_11 : decode cX8_rise 11 = .ok (.invokestatic 75, 3) := by decide +kernel
theorem dX8_rise_14 : decode cX8_rise 14 = .ok (.idiv, 1) := by decide +kernel
theorem dX8_rise_15 : decode cX8_rise 15 = .ok (.ireturn, 1) := by decide +kernel
set_option maxRecDepth 20000 in
theorem ggX8_runs_X8_rise : GoodIn wsX8_runs wsX8_rise := goodIn_r _ [4, 5, 6, 3, 7] (by decide +kernel) (by decide +kernel)
set_option maxRecDepth 20000 in
theorem gX8_runs_X8_rise : GoodIn wsX8_runs (va_wsS RX8 79 yX8_rise wsX8_rise) := goodIn_app (goodIn_of _ (by decide +kernel)) ggX8_runs_X8_rise
set_option maxRecDepth 20000 in
theorem ggX8_runs_X8_root : GoodIn wsX8_runs wsX8_root := goodIn_r _ [7] (by decide +kernel) (by decide +kernel)
set_option maxRecDepth 20000 in
theorem gX8_runs_X8_root : GoodIn wsX8_runs (va_wsS RX8 75 yX8_root wsX8_root) := goodIn_app (goodIn_of _ (by decide +kernel)) ggX8_runs_X8_root
theorem dX8_runs_0 : decode cX8_runs 0 = .ok (.iconst 0, 1) := by decide +kernel
theorem dX8_runs_1 : decode cX8_runs 1 = .ok (.istore 4, 2) := by decide +kernel
theorem dX8_runs_3 : decode cX8_runs 3 = .ok (.iconst 1, 1) := by decide +kernel
theorem dX8_runs_4 : decode cX8_runs 4 = .ok (.istore 5, 2) := by decide +kernel
theorem dX8_runs_6 : decode cX8_runs 6 = .ok (.iload 5, 2) := by decide +kernel
theorem dX8_runs_8 : decode cX8_runs 8 = .ok (.iload_n 0, 1) := by decide +kernel
theorem dX8_runs_9 : decode cX8_runs 9 = .ok (.if_icmp .gt 37, 3) := by decide +kernel
theorem dX8_runs_12 : decode cX8_runs 12 = .ok (.iload_n 2, 1) := by decide +kernel
theorem dX8_runs_13 : decode cX8_runs 13 = .ok (.iload_n 3, 1) := by decide +kernel
theorem dX8_runs_14 : decode cX8_runs 14 = .ok (.iload_n 1, 1) := by decide +kernel
theorem dX8_runs_15 : decode cX8_runs 15 = .ok (.iload 5, 2) := by decide +kernel
theorem dX8_runs_17 : decode cX8_runs 17 = .ok (.imul, 1) := by decide +kernel
theorem dX8_runs_18 : decode cX8_runs 18 = .ok (.iadd, 1) := by decide +kernel
theorem dX8_runs_19 : decode cX8_runs 19 = .ok (.invokestatic 79, 3) := by decide +kernel
theorem dX8_runs_22 : decode cX8_runs 22 = .ok (.istore 6, 2) := by decide +kernel
theorem dX8_runs_24 : decode cX8_runs 24 = .ok (.iload 4, 2) := by decide +kernel
theorem dX8_runs_26 : decode cX8_runs 26 = .ok (.bipush 100, 2) := by decide +kernel
theorem dX8_runs_28 : decode cX8_runs 28 = .ok (.iload 6, 2) := by decide +kernel
theorem dX8_runs_30 : decode cX8_runs 30 = .ok (.iload 6, 2) := by decide +kernel
theorem dX8_runs_32 : decode cX8_runs 32 = .ok (.imul, 1) := by decide +kernel
theorem dX8_runs_33 : decode cX8_runs 33 = .ok (.isub, 1) := by decide +kernel
theorem dX8_runs_34 : decode cX8_runs 34 = .ok (.invokestatic 75, 3) := by decide +kernel
theorem dX8_runs_37 : decode cX8_runs 37 = .ok (.iadd, 1) := by decide +kernel
theorem dX8_runs_38 : decode cX8_runs 38 = .ok (.istore 4, 2) := by decide +kernel
theorem dX8_runs_40 : decode cX8_runs 40 = .ok (.iinc 5 1, 3) := by decide +kernel
theorem dX8_runs_43 : decode cX8_runs 43 = .ok (.goto (-37), 3) := by decide +kernel
theorem dX8_runs_46 : decode cX8_runs 46 = .ok (.iload 4, 2) := by decide +kernel
theorem dX8_runs_48 : decode cX8_runs 48 = .ok (.ireturn, 1) := by decide +kernel
set_option maxRecDepth 20000 in
theorem ggX8_rises_X8_rise : GoodIn wsX8_rises wsX8_rise := goodIn_r _ [4, 5, 6, 3, 7] (by decide +kernel) (by decide +kernel)
set_option maxRecDepth 20000 in
theorem gX8_rises_X8_rise : GoodIn wsX8_rises (va_wsS RX8 79 yX8_rise wsX8_rise) := goodIn_app (goodIn_of _ (by decide +kernel)) ggX8_rises_X8_rise
theorem dX8_rises_0 : decode cX8_rises 0 = .ok (.iconst 0, 1) := by decide +kernel
theorem dX8_rises_1 : decode cX8_rises 1 = .ok (.istore 4, 2) := by decide +kernel
theorem dX8_rises_3 : decode cX8_rises 3 = .ok (.iconst 1, 1) := by decide +kernel
theorem dX8_rises_4 : decode cX8_rises 4 = .ok (.istore 5, 2) := by decide +kernel
theorem dX8_rises_6 : decode cX8_rises 6 = .ok (.iload 5, 2) := by decide +kernel
theorem dX8_rises_8 : decode cX8_rises 8 = .ok (.iload_n 0, 1) := by decide +kernel
theorem dX8_rises_9 : decode cX8_rises 9 = .ok (.if_icmp .gt 24, 3) := by decide +kernel
theorem dX8_rises_12 : decode cX8_rises 12 = .ok (.iload 4, 2) := by decide +kernel
theorem dX8_rises_14 : decode cX8_rises 14 = .ok (.iload_n 2, 1) := by decide +kernel
theorem dX8_rises_15 : decode cX8_rises 15 = .ok (.iload_n 3, 1) := by decide +kernel
theorem dX8_rises_16 : decode cX8_rises 16 = .ok (.iload_n 1, 1) := by decide +kernel
theorem dX8_rises_17 : decode cX8_rises 17 = .ok (.iload 5, 2) := by decide +kernel
theorem dX8_rises_19 : decode cX8_rises 19 = .ok (.imul, 1) := by decide +kernel
theorem dX8_rises_20 : decode cX8_rises 20 = .ok (.iadd, 1) := by decide +kernel
theorem dX8_rises_21 : decode cX8_rises 21 = .ok (.invokestatic 79, 3) := by decide +kernel
theorem dX8_rises_24 : decode cX8_rises 24 = .ok (.iadd, 1) := by decide +kernel
theorem dX8_rises_25 : decode cX8_rises 25 = .ok (.istore 4, 2) := by decide +kernel
theorem dX8_rises_27 : decode cX8_rises 27 = .ok (.iinc 5 1, 3) := by decide +kernel
theorem dX8_rises_30 : decode cX8_rises 30 = .ok (.goto (-24), 3) := by decide +kernel
theorem dX8_rises_33 : decode cX8_rises 33 = .ok (.iload 4, 2) := by decide +kernel
theorem dX8_rises_35 : decode cX8_rises 35 = .ok (.ireturn, 1) := by decide +kernel
set_option maxRecDepth 20000 in
theorem ggX8_chain_X8_rise : GoodIn wsX8_chain wsX8_rise := goodIn_r _ [10, 11, 12, 9, 13] (by decide +kernel) (by decide +kernel)
set_option maxRecDepth 20000 in
theorem gX8_chain_X8_rise : GoodIn wsX8_chain (va_wsS RX8 79 yX8_rise wsX8_rise) := goodIn_app (goodIn_of _ (by decide +kernel)) ggX8_chain_X8_rise
set_option maxRecDepth 20000 in
theorem ggX8_chain_X8_runs : GoodIn wsX8_chain wsX8_runs := goodIn_r _ [16, 7, 8, 9, 10, 11, 12, 13] (by decide +kernel) (by decide +kernel)
set_option maxRecDepth 20000 in
theorem gX8_chain_X8_runs : GoodIn wsX8_chain (va_wsS RX8 96 yX8_runs wsX8_runs) := goodIn_app (goodIn_of _ (by decide +kernel)) ggX8_chain_X8_runs
set_option maxRecDepth 20000 in
theorem ggX8_chain_X8_rises : GoodIn wsX8_chain wsX8_rises := goodIn_r _ [19, 7, 8, 9, 10, 11, 12, 13] (by decide +kernel) (by decide +kernel)
set_option maxRecDepth 20000 in
theorem gX8_chain_X8_rises : GoodIn wsX8_chain (va_wsS RX8 103 yX8_rises wsX8_rises) := goodIn_app (goodIn_of _ (by decide +kernel)) ggX8_chain_X8_rises
theorem dX8_chain_0 : decode cX8_chain 0 = .ok (.bipush 10, 2) := by decide +kernel
theorem dX8_chain_2 : decode cX8_chain 2 = .ok (.aload_n 0, 1) := by decide +kernel
theorem dX8_chain_3 : decode cX8_chain 3 = .ok (.getfield 7, 3) := by decide +kernel
theorem dX8_chain_6 : decode cX8_chain 6 = .ok (.iconst 3, 1) := by decide +kernel
theorem dX8_chain_7 : decode cX8_chain 7 = .ok (.iload_n 1, 1) := by decide +kernel
theorem dX8_chain_8 : decode cX8_chain 8 = .ok (.iadd, 1) := by decide +kernel
theorem dX8_chain_9 : decode cX8_chain 9 = .ok (.iaload, 1) := by decide +kernel
theorem dX8_chain_10 : decode cX8_chain 10 = .ok (.imul, 1) := by decide +kernel
theorem dX8_chain_11 : decode cX8_chain 11 = .ok (.istore 5, 2) := by decide +kernel
theorem dX8_chain_13 : decode cX8_chain 13 = .ok (.iconst 0, 1) := by decide +kernel
theorem dX8_chain_14 : decode cX8_chain 14 = .ok (.istore 6, 2) := by decide +kernel
theorem dX8_chain_16 : decode cX8_chain 16 = .ok (.aload_n 0, 1) := by decide +kernel
theorem dX8_chain_17 : decode cX8_chain 17 = .ok (.iconst 0, 1) := by decide +kernel
theorem dX8_chain_18 : decode cX8_chain 18 = .ok (.putfield 83, 3) := by decide +kernel
theorem dX8_chain_21 : decode cX8_chain 21 = .ok (.iload 6, 2) := by decide +kernel
theorem dX8_chain_23 : decode cX8_chain 23 = .ok (.iload 5, 2) := by decide +kernel
theorem dX8_chain_25 : decode cX8_chain 25 = .ok (.if_icmp .ge 40, 3) := by decide +kernel
theorem dX8_chain_28 : decode cX8_chain 28 = .ok (.aload_n 0, 1) := by decide +kernel
theorem dX8_chain_29 : decode cX8_chain 29 = .ok (.getfield 83, 3) := by decide +kernel
theorem dX8_chain_32 : decode cX8_chain 32 = .ok (.iload_n 2, 1) := by decide +kernel
theorem dX8_chain_33 : decode cX8_chain 33 = .ok (.if_icmp .ge 32, 3) := by decide +kernel
theorem dX8_chain_36 : decode cX8_chain 36 = .ok (.aload_n 0, 1) := by decide +kernel
theorem dX8_chain_37 : decode cX8_chain 37 = .ok (.dup, 1) := by decide +kernel
theorem dX8_chain_38 : decode cX8_chain 38 = .ok (.getfield 83, 3) := by decide +kernel
theorem dX8_chain_41 : decode cX8_chain 41 = .ok (.iconst 1, 1) := by decide +kernel
theorem dX8_chain_42 : decode cX8_chain 42 = .ok (.iadd, 1) := by decide +kernel
theorem dX8_chain_43 : decode cX8_chain 43 = .ok (.putfield 83, 3) := by decide +kernel
theorem dX8_chain_46 : decode cX8_chain 46 = .ok (.iload 6, 2) := by decide +kernel
theorem dX8_chain_48 : decode cX8_chain 48 = .ok (.iload 4, 2) := by decide +kernel
theorem dX8_chain_50 : decode cX8_chain 50 = .ok (.iload_n 3, 1) := by decide +kernel
theorem dX8_chain_51 : decode cX8_chain 51 = .ok (.aload_n 0, 1) := by decide +kernel
theorem dX8_chain_52 : decode cX8_chain 52 = .ok (.getfield 83, 3) := by decide +kernel
theorem dX8_chain_55 : decode cX8_chain 55 = .ok (.imul, 1) := by decide +kernel
theorem dX8_chain_56 : decode cX8_chain 56 = .ok (.invokestatic 79, 3) := by decide +kernel
theorem dX8_chain_59 : decode cX8_chain 59 = .ok (.iadd, 1) := by decide +kernel
theorem dX8_chain_60 : decode cX8_chain 60 = .ok (.istore 6, 2) := by decide +kernel
theorem dX8_chain_62 : decode cX8_chain 62 = .ok (.goto (-41), 3) := by decide +kernel
theorem dX8_chain_65 : decode cX8_chain 65 = .ok (.aload_n 0, 1) := by decide +kernel
theorem dX8_chain_66 : decode cX8_chain 66 = .ok (.iload_n 2, 1) := by decide +kernel
theorem dX8_chain_67 : decode cX8_chain 67 = .ok (.aload_n 0, 1) := by decide +kernel
theorem dX8_chain_68 : decode cX8_chain 68 = .ok (.getfield 83, 3) := by decide +kernel
theorem dX8_chain_71 : decode cX8_chain 71 = .ok (.isub, 1) := by decide +kernel
theorem dX8_chain_72 : decode cX8_chain 72 = .ok (.putfield 86, 3) := by decide +kernel
theorem dX8_chain_75 : decode cX8_chain 75 = .ok (.aload_n 0, 1) := by decide +kernel
theorem dX8_chain_76 : decode cX8_chain 76 = .ok (.iconst 0, 1) := by decide +kernel
theorem dX8_chain_77 : decode cX8_chain 77 = .ok (.putfield 89, 3) := by decide +kernel
theorem dX8_chain_80 : decode cX8_chain 80 = .ok (.aload_n 0, 1) := by decide +kernel
theorem dX8_chain_81 : decode cX8_chain 81 = .ok (.iconst 0, 1) := by decide +kernel
theorem dX8_chain_82 : decode cX8_chain 82 = .ok (.putfield 92, 3) := by decide +kernel
theorem dX8_chain_85 : decode cX8_chain 85 = .ok (.iload 6, 2) := by decide +kernel
theorem dX8_chain_87 : decode cX8_chain 87 = .ok (.iload 5, 2) := by decide +kernel
theorem dX8_chain_89 : decode cX8_chain 89 = .ok (.if_icmp .lt 27, 3) := by decide +kernel
theorem dX8_chain_92 : decode cX8_chain 92 = .ok (.aload_n 0, 1) := by decide +kernel
theorem dX8_chain_93 : decode cX8_chain 93 = .ok (.bipush 10, 2) := by decide +kernel
theorem dX8_chain_95 : decode cX8_chain 95 = .ok (.aload_n 0, 1) := by decide +kernel
theorem dX8_chain_96 : decode cX8_chain 96 = .ok (.getfield 86, 3) := by decide +kernel
theorem dX8_chain_99 : decode cX8_chain 99 = .ok (.imul, 1) := by decide +kernel
theorem dX8_chain_100 : decode cX8_chain 100 = .ok (.aload_n 0, 1) := by decide +kernel
theorem dX8_chain_101 : decode cX8_chain 101 = .ok (.getfield 83, 3) := by decide +kernel
theorem dX8_chain_104 : decode cX8_chain 104 = .ok (.iload_n 3, 1) := by decide +kernel
theorem dX8_chain_105 : decode cX8_chain 105 = .ok (.iload 4, 2) := by decide +kernel
theorem dX8_chain_107 : decode cX8_chain 107 = .ok (.iconst 0, 1) := by decide +kernel
theorem dX8_chain_108 : decode cX8_chain 108 = .ok (.invokestatic 96, 3) := by decide +kernel
theorem dX8_chain_111 : decode cX8_chain 111 = .ok (.iadd, 1) := by decide +kernel
theorem dX8_chain_112 : decode cX8_chain 112 = .ok (.putfield 100, 3) := by decide +kernel
theorem dX8_chain_115 : decode cX8_chain 115 = .ok (.return_, 1) := by decide +kernel
theorem dX8_chain_116 : decode cX8_chain 116 = .ok (.aload_n 0, 1) := by decide +kernel
theorem dX8_chain_117 : decode cX8_chain 117 = .ok (.bipush 10, 2) := by decide +kernel
theorem dX8_chain_119 : decode cX8_chain 119 = .ok (.iload_n 2, 1) := by decide +kernel
theorem dX8_chain_120 : decode cX8_chain 120 = .ok (.imul, 1) := by decide +kernel
theorem dX8_chain_121 : decode cX8_chain 121 = .ok (.iload 5, 2) := by decide +kernel
theorem dX8_chain_123 : decode cX8_chain 123 = .ok (.if_icmp .ge 9, 3) := by decide +kernel
theorem dX8_chain_126 : decode cX8_chain 126 = .ok (.sipush 1000, 3) := by decide +kernel
theorem dX8_chain_129 : decode cX8_chain 129 = .ok (.goto 4, 3) := by decide +kernel
theorem dX8_chain_132 : decode cX8_chain 132 = .ok (.iconst 1, 1) := by decide +kernel
theorem dX8_chain_133 : decode cX8_chain 133 = .ok (.putfield 89, 3) := by decide +kernel
theorem dX8_chain_136 : decode cX8_chain 136 = .ok (.aload_n 0, 1) := by decide +kernel
theorem dX8_chain_137 : decode cX8_chain 137 = .ok (.getfield 89, 3) := by decide +kernel
theorem dX8_chain_140 : decode cX8_chain 140 = .ok (.sipush 999, 3) := by decide +kernel
theorem dX8_chain_143 : decode cX8_chain 143 = .ok (.if_icmp .gt 32, 3) := by decide +kernel
theorem dX8_chain_146 : decode cX8_chain 146 = .ok (.iload_n 2, 1) := by decide +kernel
theorem dX8_chain_147 : decode cX8_chain 147 = .ok (.iload_n 3, 1) := by decide +kernel
theorem dX8_chain_148 : decode cX8_chain 148 = .ok (.iload 4, 2) := by decide +kernel
theorem dX8_chain_150 : decode cX8_chain 150 = .ok (.aload_n 0, 1) := by decide +kernel
theorem dX8_chain_151 : decode cX8_chain 151 = .ok (.getfield 89, 3) := by decide +kernel
theorem dX8_chain_154 : decode cX8_chain 154 = .ok (.invokestatic 103, 3) := by decide +kernel
theorem dX8_chain_157 : decode cX8_chain 157 = .ok (.iload 5, 2) := by decide +kernel
theorem dX8_chain_159 : decode cX8_chain 159 = .ok (.if_icmp .ge 16, 3) := by decide +kernel
theorem dX8_chain_162 : decode cX8_chain 162 = .ok (.aload_n 0, 1) := by decide +kernel
theorem dX8_chain_163 : decode cX8_chain 163 = .ok (.dup, 1) := by decide +kernel
theorem dX8_chain_164 : decode cX8_chain 164 = .ok (.getfield 89, 3) := by decide +kernel
theorem dX8_chain_167 : decode cX8_chain 167 = .ok (.iconst 1, 1) := by decide +kernel
theorem dX8_chain_168 : decode cX8_chain 168 = .ok (.iadd, 1) := by decide +kernel
theorem dX8_chain_169 : decode cX8_chain 169 = .ok (.putfield 89, 3) := by decide +kernel
theorem dX8_chain_172 : decode cX8_chain 172 = .ok (.goto (-36), 3) := by decide +kernel
theorem dX8_chain_175 : decode cX8_chain 175 = .ok (.aload_n 0, 1) := by decide +kernel
theorem dX8_chain_176 : decode cX8_chain 176 = .ok (.aload_n 0, 1) := by decide +kernel
theorem dX8_chain_177 : decode cX8_chain 177 = .ok (.getfield 89, 3) := by decide +kernel
theorem dX8_chain_180 : decode cX8_chain 180 = .ok (.sipush 999, 3) := by decide +kernel
theorem dX8_chain_183 : decode cX8_chain 183 = .ok (.if_icmp .le 7, 3) := by decide +kernel
theorem dX8_chain_186 : decode cX8_chain 186 = .ok (.iconst 1, 1) := by decide +kernel
theorem dX8_chain_187 : decode cX8_chain 187 = .ok (.goto 4, 3) := by decide +kernel
theorem dX8_chain_190 : decode cX8_chain 190 = .ok (.iconst 0, 1) := by decide +kernel
theorem dX8_chain_191 : decode cX8_chain 191 = .ok (.putfield 92, 3) := by decide +kernel
theorem dX8_chain_194 : decode cX8_chain 194 = .ok (.aload_n 0, 1) := by decide +kernel
theorem dX8_chain_195 : decode cX8_chain 195 = .ok (.aload_n 0, 1) := by decide +kernel
theorem dX8_chain_196 : decode cX8_chain 196 = .ok (.getfield 92, 3) := by decide +kernel
theorem dX8_chain_199 : decode cX8_chain 199 = .ok (.ifCond .eq 9, 3) := by decide +kernel
theorem dX8_chain_202 : decode cX8_chain 202 = .ok (.sipush 999, 3) := by decide +kernel
theorem dX8_chain_205 : decode cX8_chain 205 = .ok (.goto 7, 3) := by decide +kernel
theorem dX8_chain_208 : decode cX8_chain 208 = .ok (.aload_n 0, 1) := by decide +kernel
theorem dX8_chain_209 : decode cX8_chain 209 = .ok (.getfield 89, 3) := by decide +kernel
theorem dX8_chain_212 : decode cX8_chain 212 = .ok (.putfield 89, 3) := by decide +kernel
theorem dX8_chain_215 : decode cX8_chain 215 = .ok (.aload_n 0, 1) := by decide +kernel
theorem dX8_chain_216 : decode cX8_chain 216 = .ok (.aload_n 0, 1) := by decide +kernel
theorem dX8_chain_217 : decode cX8_chain 217 = .ok (.getfield 92, 3) := by decide +kernel
theorem dX8_chain_220 : decode cX8_chain 220 = .ok (.ifCond .eq 7, 3) := by decide +kernel
theorem dX8_chain_223 : decode cX8_chain 223 = .ok (.iconst 0, 1) := by decide +kernel
theorem dX8_chain_224 : decode cX8_chain 224 = .ok (.goto 14, 3) := by decide +kernel
theorem dX8_chain_227 : decode cX8_chain 227 = .ok (.iload_n 2, 1) := by decide +kernel
theorem dX8_chain_228 : decode cX8_chain 228 = .ok (.iload_n 3, 1) := by decide +kernel
theorem dX8_chain_229 : decode cX8_chain 229 = .ok (.iload 4, 2) := by decide +kernel
theorem dX8_chain_231 : decode cX8_chain 231 = .ok (.aload_n 0, 1) := by decide +kernel
theorem dX8_chain_232 : decode cX8_chain 232 = .ok (.getfield 89, 3) := by decide +kernel
theorem dX8_chain_235 : decode cX8_chain 235 = .ok (.invokestatic 96, 3) := by decide +kernel
theorem dX8_chain_238 : decode cX8_chain 238 = .ok (.putfield 100, 3) := by decide +kernel
theorem dX8_chain_241 : decode cX8_chain 241 = .ok (.return_, 1) := by decide +kernel
theorem dX8_holding_0 : decode cX8_holding 0 = .ok (.iload_n 1, 1) := by decide +kernel
theorem dX8_holding_1 : decode cX8_holding 1 = .ok (.iconst 3, 1) := by decide +kernel
theorem dX8_holding_2 : decode cX8_holding 2 = .ok (.aload_n 0, 1) := by decide +kernel
theorem dX8_holding_3 : decode cX8_holding 3 = .ok (.getfield 89, 3) := by decide +kernel
theorem dX8_holding_6 : decode cX8_holding 6 = .ok (.imul, 1) := by decide +kernel
theorem dX8_holding_7 : decode cX8_holding 7 = .ok (.isub, 1) := by decide +kernel
theorem dX8_holding_8 : decode cX8_holding 8 = .ok (.istore_n 2, 1) := by decide +kernel
theorem dX8_holding_9 : decode cX8_holding 9 = .ok (.aload_n 0, 1) := by decide +kernel
theorem dX8_holding_10 : decode cX8_holding 10 = .ok (.getfield 92, 3) := by decide +kernel
theorem dX8_holding_13 : decode cX8_holding 13 = .ok (.ifCond .ne 7, 3) := by decide +kernel
theorem dX8_holding_16 : decode cX8_holding 16 = .ok (.iload_n 2, 1) := by decide +kernel
theorem dX8_holding_17 : decode cX8_holding 17 = .ok (.ifCond .ge 7, 3) := by decide +kernel
theorem dX8_holding_20 : decode cX8_holding 20 = .ok (.iconst 0, 1) := by decide +kernel
theorem dX8_holding_21 : decode cX8_holding 21 = .ok (.goto 4, 3) := by decide +kernel
theorem dX8_holding_24 : decode cX8_holding 24 = .ok (.iload_n 2, 1) := by decide +kernel
theorem dX8_holding_25 : decode cX8_holding 25 = .ok (.ireturn, 1) := by decide +kernel
set_option maxRecDepth 20000 in
theorem ggX8_pull_X8_of : GoodIn wsX8_pull wsX8_of := goodIn_r _ [5, 6, 7, 8, 9, 10, 11, 12, 13, 14, 15, 16, 17, 18, 19] (by decide +kernel) (by decide +kernel)
set_option maxRecDepth 20000 in
theorem gX8_pull_X8_of : GoodIn wsX8_pull (wsV RX8 106 RX8 yX8_of wsX8_of) := goodIn_app (goodIn_of _ (by decide +kernel)) ggX8_pull_X8_of
theorem dX8_pull_0 : decode cX8_pull 0 = .ok (.iload_n 2, 1) := by decide +kernel
theorem dX8_pull_1 : decode cX8_pull 1 = .ok (.iload_n 2, 1) := by decide +kernel
theorem dX8_pull_2 : decode cX8_pull 2 = .ok (.imul, 1) := by decide +kernel
theorem dX8_pull_3 : decode cX8_pull 3 = .ok (.aload_n 0, 1) := by decide +kernel
theorem dX8_pull_4 : decode cX8_pull 4 = .ok (.iload_n 1, 1) := by decide +kernel
theorem dX8_pull_5 : decode cX8_pull 5 = .ok (.iconst 5, 1) := by decide +kernel
theorem dX8_pull_6 : decode cX8_pull 6 = .ok (.invokevirtual 106, 3) := by decide +kernel
theorem dX8_pull_9 : decode cX8_pull 9 = .ok (.imul, 1) := by decide +kernel
theorem dX8_pull_10 : decode cX8_pull 10 = .ok (.iconst 4, 1) := by decide +kernel
theorem dX8_pull_11 : decode cX8_pull 11 = .ok (.idiv, 1) := by decide +kernel
theorem dX8_pull_12 : decode cX8_pull 12 = .ok (.ireturn, 1) := by decide +kernel
set_option maxRecDepth 20000 in
theorem ggX8_chainOf_X8_of : GoodIn wsX8_chainOf wsX8_of := goodIn_r _ [5, 6, 28, 29, 30, 31, 32, 33, 34, 35, 36, 37, 38, 39, 40] (by decide +kernel) (by decide +kernel)
set_option maxRecDepth 20000 in
theorem gX8_chainOf_X8_of : GoodIn wsX8_chainOf (wsV RX8 106 RX8 yX8_of wsX8_of) := goodIn_app (goodIn_of _ (by decide +kernel)) ggX8_chainOf_X8_of
set_option maxRecDepth 20000 in
theorem ggX8_chainOf_X8_chain : GoodIn wsX8_chainOf wsX8_chain := goodIn_r _ [10, 6, 11, 12, 13, 14, 15, 16, 17, 4, 18, 19, 20, 21, 22, 23, 24, 25, 26, 27, 28, 29, 30, 31, 32, 33, 34, 35, 36, 37, 38, 39, 40] (by decide +kernel) (by decide +kernel)
set_option maxRecDepth 20000 in
theorem gX8_chainOf_X8_chain : GoodIn wsX8_chainOf (wsV RX8 109 RX8 yX8_chain wsX8_chain) := goodIn_app (goodIn_of _ (by decide +kernel)) ggX8_chainOf_X8_chain
theorem dX8_chainOf_0 : decode cX8_chainOf 0 = .ok (.aload_n 0, 1) := by decide +kernel
theorem dX8_chainOf_1 : decode cX8_chainOf 1 = .ok (.aload_n 0, 1) := by decide +kernel
theorem dX8_chainOf_2 : decode cX8_chainOf 2 = .ok (.iload_n 1, 1) := by decide +kernel
theorem dX8_chainOf_3 : decode cX8_chainOf 3 = .ok (.iload_n 2, 1) := by decide +kernel
theorem dX8_chainOf_4 : decode cX8_chainOf 4 = .ok (.ifCond .ne 7, 3) := by decide +kernel
theorem dX8_chainOf_7 : decode cX8_chainOf 7 = .ok (.iconst 0, 1) := by decide +kernel
theorem dX8_chainOf_8 : decode cX8_chainOf 8 = .ok (.goto 5, 3) := by decide +kernel
theorem dX8_chainOf_11 : decode cX8_chainOf 11 = .ok (.bipush 10, 2) := by decide +kernel
theorem dX8_chainOf_13 : decode cX8_chainOf 13 = .ok (.invokevirtual 106, 3) := by decide +kernel
theorem dX8_chainOf_16 : decode cX8_chainOf 16 = .ok (.aload_n 0, 1) := by decide +kernel
theorem dX8_chainOf_17 : decode cX8_chainOf 17 = .ok (.iload_n 1, 1) := by decide +kernel
theorem dX8_chainOf_18 : decode cX8_chainOf 18 = .ok (.iload_n 2, 1) := by decide +kernel
theorem dX8_chainOf_19 : decode cX8_chainOf 19 = .ok (.ifCond .ne 7, 3) := by decide +kernel
theorem dX8_chainOf_22 : decode cX8_chainOf 22 = .ok (.iconst 2, 1) := by decide +kernel
theorem dX8_chainOf_23 : decode cX8_chainOf 23 = .ok (.goto 5, 3) := by decide +kernel
theorem dX8_chainOf_26 : decode cX8_chainOf 26 = .ok (.bipush 12, 2) := by decide +kernel
theorem dX8_chainOf_28 : decode cX8_chainOf 28 = .ok (.invokevirtual 106, 3) := by decide +kernel
theorem dX8_chainOf_31 : decode cX8_chainOf 31 = .ok (.aload_n 0, 1) := by decide +kernel
theorem dX8_chainOf_32 : decode cX8_chainOf 32 = .ok (.iload_n 1, 1) := by decide +kernel
theorem dX8_chainOf_33 : decode cX8_chainOf 33 = .ok (.iconst 3, 1) := by decide +kernel
theorem dX8_chainOf_34 : decode cX8_chainOf 34 = .ok (.invokevirtual 106, 3) := by decide +kernel
theorem dX8_chainOf_37 : decode cX8_chainOf 37 = .ok (.iload_n 3, 1) := by decide +kernel
theorem dX8_chainOf_38 : decode cX8_chainOf 38 = .ok (.invokevirtual 109, 3) := by decide +kernel
theorem dX8_chainOf_41 : decode cX8_chainOf 41 = .ok (.return_, 1) := by decide +kernel
set_option maxRecDepth 20000 in
theorem ggX8_doesHold_X8_chainOf : GoodIn wsX8_doesHold wsX8_chainOf := goodIn_r _ [5, 6, 7, 8, 4, 9, 10, 11, 12, 13, 14, 15, 16, 17, 18, 19, 20, 21, 22, 23, 24, 25, 26, 27, 28, 29, 30, 31, 36, 37, 38, 39, 40, 41, 42, 43, 44, 45, 46, 47, 48] (by decide +kernel) (by decide +kernel)
set_option maxRecDepth 20000 in
theorem gX8_doesHold_X8_chainOf : GoodIn wsX8_doesHold (wsV RX8 112 RX8 yX8_chainOf wsX8_chainOf) := goodIn_app (goodIn_of _ (by decide +kernel)) ggX8_doesHold_X8_chainOf
set_option maxRecDepth 20000 in
theorem ggX8_doesHold_X8_of : GoodIn wsX8_doesHold wsX8_of := goodIn_r _ [9, 10, 36, 37, 38, 39, 40, 41, 42, 43, 44, 45, 46, 47, 48] (by decide +kernel) (by decide +kernel)
set_option maxRecDepth 20000 in
theorem gX8_doesHold_X8_of : GoodIn wsX8_doesHold (wsV RX8 106 RX8 yX8_of wsX8_of) := goodIn_app (goodIn_of _ (by decide +kernel)) ggX8_doesHold_X8_of
set_option maxRecDepth 20000 in
theorem ggX8_doesHold_X8_holding : GoodIn wsX8_doesHold wsX8_holding := goodIn_r _ [35, 17, 18, 36, 37, 38, 39, 40, 41, 42, 43, 44, 45, 46, 47, 48] (by decide +kernel) (by decide +kernel)
set_option maxRecDepth 20000 in
theorem gX8_doesHold_X8_holding : GoodIn wsX8_doesHold (wsV RX8 115 RX8 yX8_holding wsX8_holding) := goodIn_app (goodIn_of _ (by decide +kernel)) ggX8_doesHold_X8_holding
theorem dX8_doesHold_0 : decode cX8_doesHold 0 = .ok (.aload_n 0, 1) := by decide +kernel
theorem dX8_doesHold_1 : decode cX8_doesHold 1 = .ok (.iload_n 1, 1) := by decide +kernel
theorem dX8_doesHold_2 : decode cX8_doesHold 2 = .ok (.iload_n 2, 1) := by decide +kernel
theorem dX8_doesHold_3 : decode cX8_doesHold 3 = .ok (.iload_n 3, 1) := by decide +kernel
theorem dX8_doesHold_4 : decode cX8_doesHold 4 = .ok (.invokevirtual 112, 3) := by decide +kernel
theorem dX8_doesHold_7 : decode cX8_doesHold 7 = .ok (.iload_n 3, 1) := by decide +kernel
theorem dX8_doesHold_8 : decode cX8_doesHold 8 = .ok (.aload_n 0, 1) := by decide +kernel
theorem dX8_doesHold_9 : decode cX8_doesHold 9 = .ok (.aload_n 0, 1) := by decide +kernel
theorem dX8_doesHold_10 : decode cX8_doesHold 10 = .ok (.iload_n 1, 1) := by decide +kernel
theorem dX8_doesHold_11 : decode cX8_doesHold 11 = .ok (.bipush 6, 2) := by decide +kernel
theorem dX8_doesHold_13 : decode cX8_doesHold 13 = .ok (.invokevirtual 106, 3) := by decide +kernel
theorem dX8_doesHold_16 : decode cX8_doesHold 16 = .ok (.invokevirtual 115, 3) := by decide +kernel
theorem dX8_doesHold_19 : decode cX8_doesHold 19 = .ok (.if_icmp .gt 7, 3) := by decide +kernel
theorem dX8_doesHold_22 : decode cX8_doesHold 22 = .ok (.iconst 1, 1) := by decide +kernel
theorem dX8_doesHold_23 : decode cX8_doesHold 23 = .ok (.goto 4, 3) := by decide +kernel
theorem dX8_doesHold_26 : decode cX8_doesHold 26 = .ok (.iconst 0, 1) := by decide +kernel
theorem dX8_doesHold_27 : decode cX8_doesHold 27 = .ok (.ireturn, 1) := by decide +kernel
set_option maxRecDepth 20000 in
theorem ggX8_holds_X8_pull : GoodIn wsX8_holds wsX8_pull := goodIn_r _ [5, 6, 7, 8, 4, 9, 10, 44, 45, 46, 47, 48, 49, 50, 51, 52, 53, 54, 55, 56] (by decide +kernel) (by decide +kernel)
set_option maxRecDepth 20000 in
theorem gX8_holds_X8_pull : GoodIn wsX8_holds (wsV RX8 118 RX8 yX8_pull wsX8_pull) := goodIn_app (goodIn_of _ (by decide +kernel)) ggX8_holds_X8_pull
set_option maxRecDepth 20000 in
theorem ggX8_holds_X8_of : GoodIn wsX8_holds wsX8_of := goodIn_r _ [9, 10, 44, 45, 46, 47, 48, 49, 50, 51, 52, 53, 54, 55, 56] (by decide +kernel) (by decide +kernel)
set_option maxRecDepth 20000 in
theorem gX8_holds_X8_of : GoodIn wsX8_holds (wsV RX8 106 RX8 yX8_of wsX8_of) := goodIn_app (goodIn_of _ (by decide +kernel)) ggX8_holds_X8_of
set_option maxRecDepth 20000 in
theorem ggX8_holds_X8_doesHold : GoodIn wsX8_holds wsX8_doesHold := goodIn_r _ [14, 15, 16, 17, 4, 18, 6, 7, 8, 9, 10, 19, 20, 21, 22, 23, 24, 25, 26, 27, 28, 29, 30, 31, 32, 33, 34, 35, 36, 37, 38, 39, 40, 41, 42, 43, 44, 45, 46, 47, 48, 49, 50, 51, 52, 53, 54, 55, 56] (by decide +kernel) (by decide +kernel)
set_option maxRecDepth 20000 in
theorem gX8_holds_X8_doesHold : GoodIn wsX8_holds (wsV RX8 121 RX8 yX8_doesHold wsX8_doesHold) := goodIn_app (goodIn_of _ (by decide +kernel)) ggX8_holds_X8_doesHold
theorem dX8_holds_0 : decode cX8_holds 0 = .ok (.aload_n 0, 1) := by decide +kernel
theorem dX8_holds_1 : decode cX8_holds 1 = .ok (.iload_n 1, 1) := by decide +kernel
theorem dX8_holds_2 : decode cX8_holds 2 = .ok (.iload_n 2, 1) := by decide +kernel
theorem dX8_holds_3 : decode cX8_holds 3 = .ok (.invokevirtual 118, 3) := by decide +kernel
theorem dX8_holds_6 : decode cX8_holds 6 = .ok (.istore_n 3, 1) := by decide +kernel
theorem dX8_holds_7 : decode cX8_holds 7 = .ok (.aload_n 0, 1) := by decide +kernel
theorem dX8_holds_8 : decode cX8_holds 8 = .ok (.iload_n 1, 1) := by decide +kernel
theorem dX8_holds_9 : decode cX8_holds 9 = .ok (.bipush 7, 2) := by decide +kernel
theorem dX8_holds_11 : decode cX8_holds 11 = .ok (.invokevirtual 106, 3) := by decide +kernel
theorem dX8_holds_14 : decode cX8_holds 14 = .ok (.iconst 1, 1) := by decide +kernel
theorem dX8_holds_15 : decode cX8_holds 15 = .ok (.if_icmp .ne 5, 3) := by decide +kernel
theorem dX8_holds_18 : decode cX8_holds 18 = .ok (.iconst 0, 1) := by decide +kernel
theorem dX8_holds_19 : decode cX8_holds 19 = .ok (.ireturn, 1) := by decide +kernel
theorem dX8_holds_20 : decode cX8_holds 20 = .ok (.aload_n 0, 1) := by decide +kernel
theorem dX8_holds_21 : decode cX8_holds 21 = .ok (.iload_n 1, 1) := by decide +kernel
theorem dX8_holds_22 : decode cX8_holds 22 = .ok (.bipush 9, 2) := by decide +kernel
theorem dX8_holds_24 : decode cX8_holds 24 = .ok (.invokevirtual 106, 3) := by decide +kernel
theorem dX8_holds_27 : decode cX8_holds 27 = .ok (.ifCond .ne 11, 3) := by decide +kernel
theorem dX8_holds_30 : decode cX8_holds 30 = .ok (.aload_n 0, 1) := by decide +kernel
theorem dX8_holds_31 : decode cX8_holds 31 = .ok (.iload_n 1, 1) := by decide +kernel
theorem dX8_holds_32 : decode cX8_holds 32 = .ok (.iconst 0, 1) := by decide +kernel
theorem dX8_holds_33 : decode cX8_holds 33 = .ok (.iload_n 3, 1) := by decide +kernel
theorem dX8_holds_34 : decode cX8_holds 34 = .ok (.invokevirtual 121, 3) := by decide +kernel
theorem dX8_holds_37 : decode cX8_holds 37 = .ok (.ireturn, 1) := by decide +kernel
theorem dX8_holds_38 : decode cX8_holds 38 = .ok (.iload_n 3, 1) := by decide +kernel
theorem dX8_holds_39 : decode cX8_holds 39 = .ok (.iconst 1, 1) := by decide +kernel
theorem dX8_holds_40 : decode cX8_holds 40 = .ok (.iadd, 1) := by decide +kernel
theorem dX8_holds_41 : decode cX8_holds 41 = .ok (.iconst 2, 1) := by decide +kernel
theorem dX8_holds_42 : decode cX8_holds 42 = .ok (.idiv, 1) := by decide +kernel
theorem dX8_holds_43 : decode cX8_holds 43 = .ok (.istore 4, 2) := by decide +kernel
theorem dX8_holds_45 : decode cX8_holds 45 = .ok (.aload_n 0, 1) := by decide +kernel
theorem dX8_holds_46 : decode cX8_holds 46 = .ok (.iload_n 1, 1) := by decide +kernel
theorem dX8_holds_47 : decode cX8_holds 47 = .ok (.iconst 0, 1) := by decide +kernel
theorem dX8_holds_48 : decode cX8_holds 48 = .ok (.iload 4, 2) := by decide +kernel
theorem dX8_holds_50 : decode cX8_holds 50 = .ok (.invokevirtual 121, 3) := by decide +kernel
theorem dX8_holds_53 : decode cX8_holds 53 = .ok (.ifCond .eq 14, 3) := by decide +kernel
theorem dX8_holds_56 : decode cX8_holds 56 = .ok (.aload_n 0, 1) := by decide +kernel
theorem dX8_holds_57 : decode cX8_holds 57 = .ok (.iload_n 1, 1) := by decide +kernel
theorem dX8_holds_58 : decode cX8_holds 58 = .ok (.iconst 1, 1) := by decide +kernel
theorem dX8_holds_59 : decode cX8_holds 59 = .ok (.iload 4, 2) := by decide +kernel
theorem dX8_holds_61 : decode cX8_holds 61 = .ok (.invokevirtual 121, 3) := by decide +kernel
theorem dX8_holds_64 : decode cX8_holds 64 = .ok (.ifCond .ne 23, 3) := by decide +kernel
theorem dX8_holds_67 : decode cX8_holds 67 = .ok (.aload_n 0, 1) := by decide +kernel
theorem dX8_holds_68 : decode cX8_holds 68 = .ok (.iload_n 1, 1) := by decide +kernel
theorem dX8_holds_69 : decode cX8_holds 69 = .ok (.iconst 0, 1) := by decide +kernel
theorem dX8_holds_70 : decode cX8_holds 70 = .ok (.iload_n 3, 1) := by decide +kernel
theorem dX8_holds_71 : decode cX8_holds 71 = .ok (.invokevirtual 121, 3) := by decide +kernel
theorem dX8_holds_74 : decode cX8_holds 74 = .ok (.ifCond .ne 13, 3) := by decide +kernel
theorem dX8_holds_77 : decode cX8_holds 77 = .ok (.aload_n 0, 1) := by decide +kernel
theorem dX8_holds_78 : decode cX8_holds 78 = .ok (.iload_n 1, 1) := by decide +kernel
theorem dX8_holds_79 : decode cX8_holds 79 = .ok (.iconst 1, 1) := by decide +kernel
theorem dX8_holds_80 : decode cX8_holds 80 = .ok (.iload_n 3, 1) := by decide +kernel
theorem dX8_holds_81 : decode cX8_holds 81 = .ok (.invokevirtual 121, 3) := by decide +kernel
theorem dX8_holds_84 : decode cX8_holds 84 = .ok (.ifCond .eq 7, 3) := by decide +kernel
theorem dX8_holds_87 : decode cX8_holds 87 = .ok (.iconst 1, 1) := by decide +kernel
theorem dX8_holds_88 : decode cX8_holds 88 = .ok (.goto 4, 3) := by decide +kernel
theorem dX8_holds_91 : decode cX8_holds 91 = .ok (.iconst 0, 1) := by decide +kernel
theorem dX8_holds_92 : decode cX8_holds 92 = .ok (.ireturn, 1) := by decide +kernel
set_option maxRecDepth 20000 in
theorem ggX8_swing_X8_pull : GoodIn wsX8_swing wsX8_pull := goodIn_r _ [6, 7, 8, 9, 5, 10, 11, 36, 37, 38, 39, 40, 41, 42, 43, 44, 45, 46, 47, 48] (by decide +kernel) (by decide +kernel)
set_option maxRecDepth 20000 in
theorem gX8_swing_X8_pull : GoodIn wsX8_swing (wsV RX8 118 RX8 yX8_pull wsX8_pull) := goodIn_app (goodIn_of _ (by decide +kernel)) ggX8_swing_X8_pull
set_option maxRecDepth 20000 in
theorem ggX8_swing_X8_chainOf : GoodIn wsX8_swing wsX8_chainOf := goodIn_r _ [15, 7, 8, 9, 5, 10, 11, 16, 17, 18, 19, 20, 21, 22, 23, 1, 24, 25, 26, 27, 28, 29, 30, 31, 32, 33, 34, 35, 36, 37, 38, 39, 40, 41, 42, 43, 44, 45, 46, 47, 48] (by decide +kernel) (by decide +kernel)
set_option maxRecDepth 20000 in
theorem gX8_swing_X8_chainOf : GoodIn wsX8_swing (wsV RX8 112 RX8 yX8_chainOf wsX8_chainOf) := goodIn_app (goodIn_of _ (by decide +kernel)) ggX8_swing_X8_chainOf
set_option maxRecDepth 20000 in
theorem ggX8_swing_X8_of : GoodIn wsX8_swing wsX8_of := goodIn_r _ [10, 11, 36, 37, 38, 39, 40, 41, 42, 43, 44, 45, 46, 47, 48] (by decide +kernel) (by decide +kernel)
set_option maxRecDepth 20000 in
theorem gX8_swing_X8_of : GoodIn wsX8_swing (wsV RX8 106 RX8 yX8_of wsX8_of) := goodIn_app (goodIn_of _ (by decide +kernel)) ggX8_swing_X8_of
theorem dX8_swing_0 : decode cX8_swing 0 = .ok (.aload_n 0, 1) := by decide +kernel
theorem dX8_swing_1 : decode cX8_swing 1 = .ok (.iload_n 1, 1) := by decide +kernel
theorem dX8_swing_2 : decode cX8_swing 2 = .ok (.iconst 0, 1) := by decide +kernel
theorem dX8_swing_3 : decode cX8_swing 3 = .ok (.aload_n 0, 1) := by decide +kernel
theorem dX8_swing_4 : decode cX8_swing 4 = .ok (.iload_n 1, 1) := by decide +kernel
theorem dX8_swing_5 : decode cX8_swing 5 = .ok (.iload_n 2, 1) := by decide +kernel
theorem dX8_swing_6 : decode cX8_swing 6 = .ok (.invokevirtual 118, 3) := by decide +kernel
theorem dX8_swing_9 : decode cX8_swing 9 = .ok (.invokevirtual 112, 3) := by decide +kernel
theorem dX8_swing_12 : decode cX8_swing 12 = .ok (.aload_n 0, 1) := by decide +kernel
theorem dX8_swing_13 : decode cX8_swing 13 = .ok (.getfield 100, 3) := by decide +kernel
theorem dX8_swing_16 : decode cX8_swing 16 = .ok (.bipush 10, 2) := by decide +kernel
theorem dX8_swing_18 : decode cX8_swing 18 = .ok (.aload_n 0, 1) := by decide +kernel
theorem dX8_swing_19 : decode cX8_swing 19 = .ok (.iload_n 1, 1) := by decide +kernel
theorem dX8_swing_20 : decode cX8_swing 20 = .ok (.iconst 4, 1) := by decide +kernel
theorem dX8_swing_21 : decode cX8_swing 21 = .ok (.invokevirtual 106, 3) := by decide +kernel
theorem dX8_swing_24 : decode cX8_swing 24 = .ok (.imul, 1) := by decide +kernel
theorem dX8_swing_25 : decode cX8_swing 25 = .ok (.iadd, 1) := by decide +kernel
theorem dX8_swing_26 : decode cX8_swing 26 = .ok (.ireturn, 1) := by decide +kernel
set_option maxRecDepth 20000 in
theorem ggX8_isShip_X8_in : GoodIn wsX8_isShip wsX8_in := goodIn_r _ [5] (by decide +kernel) (by decide +kernel)
set_option maxRecDepth 20000 in
theorem gX8_isShip_X8_in : GoodIn wsX8_isShip (va_wsS RX8 40 yX8_in wsX8_in) := goodIn_app (goodIn_of _ (by decide +kernel)) ggX8_isShip_X8_in
theorem dX8_isShip_0 : decode cX8_isShip 0 = .ok (.iload_n 1, 1) := by decide +kernel
theorem dX8_isShip_1 : decode cX8_isShip 1 = .ok (.iconst 0, 1) := by decide +kernel
theorem dX8_isShip_2 : decode cX8_isShip 2 = .ok (.aload_n 0, 1) := by decide +kernel
theorem dX8_isShip_3 : decode cX8_isShip 3 = .ok (.getfield 7, 3) := by decide +kernel
theorem dX8_isShip_6 : decode cX8_isShip 6 = .ok (.iconst 1, 1) := by decide +kernel
theorem dX8_isShip_7 : decode cX8_isShip 7 = .ok (.iaload, 1) := by decide +kernel
theorem dX8_isShip_8 : decode cX8_isShip 8 = .ok (.iconst 1, 1) := by decide +kernel
theorem dX8_isShip_9 : decode cX8_isShip 9 = .ok (.isub, 1) := by decide +kernel
theorem dX8_isShip_10 : decode cX8_isShip 10 = .ok (.invokestatic 40, 3) := by decide +kernel
theorem dX8_isShip_13 : decode cX8_isShip 13 = .ok (.ireturn, 1) := by decide +kernel
set_option maxRecDepth 20000 in
theorem ggX8_isColumn_X8_in : GoodIn wsX8_isColumn wsX8_in := goodIn_r _ [5] (by decide +kernel) (by decide +kernel)
set_option maxRecDepth 20000 in
theorem gX8_isColumn_X8_in : GoodIn wsX8_isColumn (va_wsS RX8 40 yX8_in wsX8_in) := goodIn_app (goodIn_of _ (by decide +kernel)) ggX8_isColumn_X8_in
theorem dX8_isColumn_0 : decode cX8_isColumn 0 = .ok (.iload_n 1, 1) := by decide +kernel
theorem dX8_isColumn_1 : decode cX8_isColumn 1 = .ok (.iconst 0, 1) := by decide +kernel
theorem dX8_isColumn_2 : decode cX8_isColumn 2 = .ok (.aload_n 0, 1) := by decide +kernel
theorem dX8_isColumn_3 : decode cX8_isColumn 3 = .ok (.getfield 7, 3) := by decide +kernel
theorem dX8_isColumn_6 : decode cX8_isColumn 6 = .ok (.iconst 0, 1) := by decide +kernel
theorem dX8_isColumn_7 : decode cX8_isColumn 7 = .ok (.iaload, 1) := by decide +kernel
theorem dX8_isColumn_8 : decode cX8_isColumn 8 = .ok (.iconst 1, 1) := by decide +kernel
theorem dX8_isColumn_9 : decode cX8_isColumn 9 = .ok (.isub, 1) := by decide +kernel
theorem dX8_isColumn_10 : decode cX8_isColumn 10 = .ok (.invokestatic 40, 3) := by decide +kernel
theorem dX8_isColumn_13 : decode cX8_isColumn 13 = .ok (.ireturn, 1) := by decide +kernel
set_option maxRecDepth 20000 in
theorem ggX8_isWind_X8_in : GoodIn wsX8_isWind wsX8_in := goodIn_r _ [4] (by decide +kernel) (by decide +kernel)
set_option maxRecDepth 20000 in
theorem gX8_isWind_X8_in : GoodIn wsX8_isWind (va_wsS RX8 40 yX8_in wsX8_in) := goodIn_app (goodIn_of _ (by decide +kernel)) ggX8_isWind_X8_in
theorem dX8_isWind_0 : decode cX8_isWind 0 = .ok (.iload_n 0, 1) := by decide +kernel
theorem dX8_isWind_1 : decode cX8_isWind 1 = .ok (.iconst 0, 1) := by decide +kernel
theorem dX8_isWind_2 : decode cX8_isWind 2 = .ok (.bipush 20, 2) := by decide +kernel
theorem dX8_isWind_4 : decode cX8_isWind 4 = .ok (.invokestatic 40, 3) := by decide +kernel
theorem dX8_isWind_7 : decode cX8_isWind 7 = .ok (.ireturn, 1) := by decide +kernel
set_option maxRecDepth 20000 in
theorem ggX8_links_X8_isShip : GoodIn wsX8_links wsX8_isShip := goodIn_r _ [5, 6, 7, 8, 4, 9, 24, 25, 26, 27, 28, 29, 30, 31, 32, 33, 34, 35, 36] (by decide +kernel) (by decide +kernel)
set_option maxRecDepth 20000 in
theorem gX8_links_X8_isShip : GoodIn wsX8_links (wsV RX8 124 RX8 yX8_isShip wsX8_isShip) := goodIn_app (goodIn_of _ (by decide +kernel)) ggX8_links_X8_isShip
set_option maxRecDepth 20000 in
theorem ggX8_links_X8_in : GoodIn wsX8_links wsX8_in := goodIn_r _ [9] (by decide +kernel) (by decide +kernel)
set_option maxRecDepth 20000 in
theorem gX8_links_X8_in : GoodIn wsX8_links (va_wsS RX8 40 yX8_in wsX8_in) := goodIn_app (goodIn_of _ (by decide +kernel)) ggX8_links_X8_in
set_option maxRecDepth 20000 in
theorem ggX8_links_X8_of : GoodIn wsX8_links wsX8_of := goodIn_r _ [13, 6, 24, 25, 26, 27, 28, 29, 30, 31, 32, 33, 34, 35, 36] (by decide +kernel) (by decide +kernel)

theorem dX3_init_0 : decode cX3_init 0 = .ok (.aload_n 0, 1) := by decide +kernel
theorem dX3_init_1 : decode cX3_init 1 = .ok (.invokespecial 3, 3) := by decide +kernel
theorem dX3_init_4 : decode cX3_init 4 = .ok (.aload_n 0, 1) := by decide +kernel
theorem dX3_init_5 : decode cX3_init 5 = .ok (.aload_n 1, 1) := by decide +kernel
theorem dX3_init_6 : decode cX3_init 6 = .ok (.putfield 9, 3) := by decide +kernel
theorem dX3_init_9 : decode cX3_init 9 = .ok (.return_, 1) := by decide +kernel
set_option maxRecDepth 20000 in
theorem ggX3_measure_X1_placeOf : GoodIn wsX3_measure wsX1_placeOf := goodIn_r _ [20, 21, 22, 45, 46, 47, 48, 49] (by decide +kernel) (by decide +kernel)
set_option maxRecDepth 20000 in
theorem gX3_measure_X1_placeOf : GoodIn wsX3_measure (wsV RX3 39 RX1 yX1_placeOf wsX1_placeOf) := goodIn_app (goodIn_of _ (by decide +kernel)) ggX3_measure_X1_placeOf
set_option maxRecDepth 20000 in
theorem ggX3_measure_X1_greyAt : GoodIn wsX3_measure wsX1_greyAt := goodIn_r _ [26, 27, 28, 29, 30, 19, 31, 32, 33, 34, 35, 36, 37, 45, 46, 47, 48, 49] (by decide +kernel) (by decide +kernel)
set_option maxRecDepth 20000 in
theorem gX3_measure_X1_greyAt : GoodIn wsX3_measure (wsV RX3 42 RX1 yX1_greyAt wsX1_greyAt) := goodIn_app (goodIn_of _ (by decide +kernel)) ggX3_measure_X1_greyAt
theorem dX3_measure_0 : decode cX3_measure 0 = .ok (.aload_n 0, 1) := by decide +kernel
theorem dX3_measure_1 : decode cX3_measure 1 = .ok (.iconst 0, 1) := by decide +kernel
theorem dX3_measure_2 : decode cX3_measure 2 = .ok (.putfield 15, 3) := by decide +kernel
theorem dX3_measure_5 : decode cX3_measure 5 = .ok (.aload_n 0, 1) := by decide +kernel
theorem dX3_measure_6 : decode cX3_measure 6 = .ok (.iconst 0, 1) := by decide +kernel
theorem dX3_measure_7 : decode cX3_measure 7 = .ok (.putfield 19, 3) := by decide +kernel
theorem dX3_measure_10 : decode cX3_measure 10 = .ok (.aload_n 0, 1) := by decide +kernel
theorem dX3_measure_11 : decode cX3_measure 11 = .ok (.getfield 9, 3) := by decide +kernel
theorem dX3_measure_14 : decode cX3_measure 14 = .ok (.getfield 22, 3) := by decide +kernel
theorem dX3_measure_17 : decode cX3_measure 17 = .ok (.aload_n 0, 1) := by decide +kernel
theorem dX3_measure_18 : decode cX3_measure 18 = .ok (.getfield 9, 3) := by decide +kernel
theorem dX3_measure_21 : decode cX3_measure 21 = .ok (.getfield 22, 3) := by decide +kernel
theorem dX3_measure_24 : decode cX3_measure 24 = .ok (.iload_n 3, 1) := by decide +kernel
theorem dX3_measure_25 : decode cX3_measure 25 = .ok (.isub, 1) := by decide +kernel
theorem dX3_measure_26 : decode cX3_measure 26 = .ok (.invokestatic 27, 3) := by decide +kernel
theorem dX3_measure_29 : decode cX3_measure 29 = .ok (.istore 4, 2) := by decide +kernel
theorem dX3_measure_31 : decode cX3_measure 31 = .ok (.aload_n 0, 1) := by decide +kernel
theorem dX3_measure_32 : decode cX3_measure 32 = .ok (.getfield 9, 3) := by decide +kernel
theorem dX3_measure_35 : decode cX3_measure 35 = .ok (.getfield 33, 3) := by decide +kernel
theorem dX3_measure_38 : decode cX3_measure 38 = .ok (.aload_n 0, 1) := by decide +kernel
theorem dX3_measure_39 : decode cX3_measure 39 = .ok (.getfield 9, 3) := by decide +kernel
theorem dX3_measure_42 : decode cX3_measure 42 = .ok (.getfield 33, 3) := by decide +kernel
theorem dX3_measure_45 : decode cX3_measure 45 = .ok (.iload_n 2, 1) := by decide +kernel
theorem dX3_measure_46 : decode cX3_measure 46 = .ok (.isub, 1) := by decide +kernel
theorem dX3_measure_47 : decode cX3_measure 47 = .ok (.invokestatic 27, 3) := by decide +kernel
theorem dX3_measure_50 : decode cX3_measure 50 = .ok (.istore 5, 2) := by decide +kernel
theorem dX3_measure_52 : decode cX3_measure 52 = .ok (.iconst 0, 1) := by decide +kernel
theorem dX3_measure_53 : decode cX3_measure 53 = .ok (.iload_n 3, 1) := by decide +kernel
theorem dX3_measure_54 : decode cX3_measure 54 = .ok (.ineg, 1) := by decide +kernel
theorem dX3_measure_55 : decode cX3_measure 55 = .ok (.invokestatic 36, 3) := by decide +kernel
theorem dX3_measure_58 : decode cX3_measure 58 = .ok (.istore 6, 2) := by decide +kernel
theorem dX3_measure_60 : decode cX3_measure 60 = .ok (.iload 6, 2) := by decide +kernel
theorem dX3_measure_62 : decode cX3_measure 62 = .ok (.iload 4, 2) := by decide +kernel
theorem dX3_measure_64 : decode cX3_measure 64 = .ok (.if_icmp .ge 117, 3) := by decide +kernel
theorem dX3_measure_67 : decode cX3_measure 67 = .ok (.iconst 0, 1) := by decide +kernel
theorem dX3_measure_68 : decode cX3_measure 68 = .ok (.iload_n 2, 1) := by decide +kernel
theorem dX3_measure_69 : decode cX3_measure 69 = .ok (.ineg, 1) := by decide +kernel
theorem dX3_measure_70 : decode cX3_measure 70 = .ok (.invokestatic 36, 3) := by decide +kernel
theorem dX3_measure_73 : decode cX3_measure 73 = .ok (.istore 7, 2) := by decide +kernel
theorem dX3_measure_75 : decode cX3_measure 75 = .ok (.iload 7, 2) := by decide +kernel
theorem dX3_measure_77 : decode cX3_measure 77 = .ok (.iload 5, 2) := by decide +kernel
theorem dX3_measure_79 : decode cX3_measure 79 = .ok (.if_icmp .ge 96, 3) := by decide +kernel
theorem dX3_measure_82 : decode cX3_measure 82 = .ok (.aload_n 0, 1) := by decide +kernel
theorem dX3_measure_83 : decode cX3_measure 83 = .ok (.getfield 9, 3) := by decide +kernel
theorem dX3_measure_86 : decode cX3_measure 86 = .ok (.iload_n 1, 1) := by decide +kernel
theorem dX3_measure_87 : decode cX3_measure 87 = .ok (.iconst 1, 1) := by decide +kernel
theorem dX3_measure_88 : decode cX3_measure 88 = .ok (.isub, 1) := by decide +kernel
theorem dX3_measure_89 : decode cX3_measure 89 = .ok (.aload_n 0, 1) := by decide +kernel
theorem dX3_measure_90 : decode cX3_measure 90 = .ok (.getfield 9, 3) := by decide +kernel
theorem dX3_measure_93 : decode cX3_measure 93 = .ok (.iload 6, 2) := by decide +kernel
theorem dX3_measure_95 : decode cX3_measure 95 = .ok (.iload 7, 2) := by decide +kernel
theorem dX3_measure_97 : decode cX3_measure 97 = .ok (.invokevirtual 39, 3) := by decide +kernel
theorem dX3_measure_100 : decode cX3_measure 100 = .ok (.invokevirtual 42, 3) := by decide +kernel
theorem dX3_measure_103 : decode cX3_measure 103 = .ok (.istore 8, 2) := by decide +kernel
theorem dX3_measure_105 : decode cX3_measure 105 = .ok (.aload_n 0, 1) := by decide +kernel
theorem dX3_measure_106 : decode cX3_measure 106 = .ok (.getfield 9, 3) := by decide +kernel
theorem dX3_measure_109 : decode cX3_measure 109 = .ok (.iload_n 1, 1) := by decide +kernel
theorem dX3_measure_110 : decode cX3_measure 110 = .ok (.aload_n 0, 1) := by decide +kernel
theorem dX3_measure_111 : decode cX3_measure 111 = .ok (.getfield 9, 3) := by decide +kernel
theorem dX3_measure_114 : decode cX3_measure 114 = .ok (.iload 6, 2) := by decide +kernel
theorem dX3_measure_116 : decode cX3_measure 116 = .ok (.iload_n 3, 1) := by decide +kernel
theorem dX3_measure_117 : decode cX3_measure 117 = .ok (.iadd, 1) := by decide +kernel
theorem dX3_measure_118 : decode cX3_measure 118 = .ok (.iload 7, 2) := by decide +kernel
theorem dX3_measure_120 : decode cX3_measure 120 = .ok (.iload_n 2, 1) := by decide +kernel
theorem dX3_measure_121 : decode cX3_measure 121 = .ok (.iadd, 1) := by decide +kernel
theorem dX3_measure_122 : decode cX3_measure 122 = .ok (.invokevirtual 39, 3) := by decide +kernel
theorem dX3_measure_125 : decode cX3_measure 125 = .ok (.invokevirtual 42, 3) := by decide +kernel
theorem dX3_measure_128 : decode cX3_measure 128 = .ok (.istore 9, 2) := by decide +kernel
theorem dX3_measure_130 : decode cX3_measure 130 = .ok (.iload 8, 2) := by decide +kernel
theorem dX3_measure_132 : decode cX3_measure 132 = .ok (.iconst (-1), 1) := by decide +kernel
theorem dX3_measure_133 : decode cX3_measure 133 = .ok (.if_icmp .eq 36, 3) := by decide +kernel
theorem dX3_measure_136 : decode cX3_measure 136 = .ok (.iload 9, 2) := by decide +kernel
theorem dX3_measure_138 : decode cX3_measure 138 = .ok (.iconst (-1), 1) := by decide +kernel
theorem dX3_measure_139 : decode cX3_measure 139 = .ok (.if_icmp .eq 30, 3) := by decide +kernel
theorem dX3_measure_142 : decode cX3_measure 142 = .ok (.aload_n 0, 1) := by decide +kernel
theorem dX3_measure_143 : decode cX3_measure 143 = .ok (.dup, 1) := by decide +kernel
theorem dX3_measure_144 : decode cX3_measure 144 = .ok (.getfield 15, 3) := by decide +kernel
theorem dX3_measure_147 : decode cX3_measure 147 = .ok (.iload 9, 2) := by decide +kernel
theorem dX3_measure_149 : decode cX3_measure 149 = .ok (.iload 8, 2) := by decide +kernel
theorem dX3_measure_151 : decode cX3_measure 151 = .ok (.isub, 1) := by decide +kernel
theorem dX3_measure_152 : decode cX3_measure 152 = .ok (.invokestatic 45, 3) := by decide +kernel
theorem dX3_measure_155 : decode cX3_measure 155 = .ok (.iadd, 1) := by decide +kernel
theorem dX3_measure_156 : decode cX3_measure 156 = .ok (.putfield 15, 3) := by decide +kernel
theorem dX3_measure_159 : decode cX3_measure 159 = .ok (.aload_n 0, 1) := by decide +kernel
theorem dX3_measure_160 : decode cX3_measure 160 = .ok (.dup, 1) := by decide +kernel
theorem dX3_measure_161 : decode cX3_measure 161 = .ok (.getfield 19, 3) := by decide +kernel
theorem dX3_measure_164 : decode cX3_measure 164 = .ok (.iconst 1, 1) := by decide +kernel
theorem dX3_measure_165 : decode cX3_measure 165 = .ok (.iadd, 1) := by decide +kernel
theorem dX3_measure_166 : decode cX3_measure 166 = .ok (.putfield 19, 3) := by decide +kernel
theorem dX3_measure_169 : decode cX3_measure 169 = .ok (.iinc 7 1, 3) := by decide +kernel
theorem dX3_measure_172 : decode cX3_measure 172 = .ok (.goto (-97), 3) := by decide +kernel
theorem dX3_measure_175 : decode cX3_measure 175 = .ok (.iinc 6 1, 3) := by decide +kernel
theorem dX3_measure_178 : decode cX3_measure 178 = .ok (.goto (-118), 3) := by decide +kernel
theorem dX3_measure_181 : decode cX3_measure 181 = .ok (.return_, 1) := by decide +kernel
theorem dX3_isEnough_0 : decode cX3_isEnough 0 = .ok (.iconst 4, 1) := by decide +kernel
theorem dX3_isEnough_1 : decode cX3_isEnough 1 = .ok (.aload_n 0, 1) := by decide +kernel
theorem dX3_isEnough_2 : decode cX3_isEnough 2 = .ok (.getfield 19, 3) := by decide +kernel
theorem dX3_isEnough_5 : decode cX3_isEnough 5 = .ok (.imul, 1) := by decide +kernel
theorem dX3_isEnough_6 : decode cX3_isEnough 6 = .ok (.aload_n 0, 1) := by decide +kernel
theorem dX3_isEnough_7 : decode cX3_isEnough 7 = .ok (.getfield 9, 3) := by decide +kernel
theorem dX3_isEnough_10 : decode cX3_isEnough 10 = .ok (.getfield 49, 3) := by decide +kernel
theorem dX3_isEnough_13 : decode cX3_isEnough 13 = .ok (.if_icmp .lt 7, 3) := by decide +kernel
theorem dX3_isEnough_16 : decode cX3_isEnough 16 = .ok (.iconst 1, 1) := by decide +kernel
theorem dX3_isEnough_17 : decode cX3_isEnough 17 = .ok (.goto 4, 3) := by decide +kernel
theorem dX3_isEnough_20 : decode cX3_isEnough 20 = .ok (.iconst 0, 1) := by decide +kernel
theorem dX3_isEnough_21 : decode cX3_isEnough 21 = .ok (.ireturn, 1) := by decide +kernel
set_option maxRecDepth 20000 in
theorem ggX3_find_X3_measure : GoodIn wsX3_find wsX3_measure := goodIn_r _ [11, 4, 6, 12, 13, 14, 15, 16, 17, 18, 19, 20, 21, 22, 23, 24, 25, 26, 27, 28, 29, 30, 31, 32, 33, 34, 35, 36, 37, 38, 39, 40, 41, 42, 43, 44, 45, 46, 56, 57, 58, 59, 60, 61, 62, 63, 64, 65, 66, 67] (by decide +kernel) (by decide +kernel)
set_option maxRecDepth 20000 in
theorem gX3_find_X3_measure : GoodIn wsX3_find (wsV RX3 61 RX3 yX3_measure wsX3_measure) := goodIn_app (goodIn_of _ (by decide +kernel)) ggX3_find_X3_measure
set_option maxRecDepth 20000 in
theorem ggX3_find_X3_isEnough : GoodIn wsX3_find wsX3_isEnough := goodIn_r _ [50, 6, 12, 51, 56, 57, 58, 59, 60, 61, 62, 63, 64, 65, 66, 67] (by decide +kernel) (by decide +kernel)
set_option maxRecDepth 20000 in
theorem gX3_find_X3_isEnough : GoodIn wsX3_find (wsV RX3 65 RX3 yX3_isEnough wsX3_isEnough) := goodIn_app (goodIn_of _ (by decide +kernel)) ggX3_find_X3_isEnough
set_option maxRecDepth 20000 in
theorem ggX3_find_X3_isBetter : GoodIn wsX3_find wsX3_isBetter := goodIn_r _ [55, 3, 4, 5, 6, 22, 23, 16, 24, 1, 2, 56, 57, 58, 59, 60, 61, 62] (by decide +kernel) (by decide +kernel)
set_option maxRecDepth 20000 in
theorem gX3_find_X3_isBetter : GoodIn wsX3_find (wsV RX3 69 RX3 yX3_isBetter wsX3_isBetter) := goodIn_app (goodIn_of _ (by decide +kernel)) ggX3_find_X3_isBetter
theorem dX3_find_0 : decode cX3_find 0 = .ok (.aload_n 0, 1) := by decide +kernel
theorem dX3_find_1 : decode cX3_find 1 = .ok (.iconst 0, 1) := by decide +kernel
theorem dX3_find_2 : decode cX3_find 2 = .ok (.putfield 52, 3) := by decide +kernel
theorem dX3_find_5 : decode cX3_find 5 = .ok (.aload_n 0, 1) := by decide +kernel
theorem dX3_find_6 : decode cX3_find 6 = .ok (.iconst 0, 1) := by decide +kernel
theorem dX3_find_7 : decode cX3_find 7 = .ok (.putfield 55, 3) := by decide +kernel
theorem dX3_find_10 : decode cX3_find 10 = .ok (.aload_n 0, 1) := by decide +kernel
theorem dX3_find_11 : decode cX3_find 11 = .ok (.iconst 0, 1) := by decide +kernel
theorem dX3_find_12 : decode cX3_find 12 = .ok (.putfield 58, 3) := by decide +kernel
theorem dX3_find_15 : decode cX3_find 15 = .ok (.bipush (-2), 2) := by decide +kernel
theorem dX3_find_17 : decode cX3_find 17 = .ok (.istore_n 2, 1) := by decide +kernel
theorem dX3_find_18 : decode cX3_find 18 = .ok (.iload_n 2, 1) := by decide +kernel
theorem dX3_find_19 : decode cX3_find 19 = .ok (.iconst 2, 1) := by decide +kernel
theorem dX3_find_20 : decode cX3_find 20 = .ok (.if_icmp .gt 72, 3) := by decide +kernel
theorem dX3_find_23 : decode cX3_find 23 = .ok (.bipush (-2), 2) := by decide +kernel
theorem dX3_find_25 : decode cX3_find 25 = .ok (.istore_n 3, 1) := by decide +kernel
theorem dX3_find_26 : decode cX3_find 26 = .ok (.iload_n 3, 1) := by decide +kernel
theorem dX3_find_27 : decode cX3_find 27 = .ok (.iconst 2, 1) := by decide +kernel
theorem dX3_find_28 : decode cX3_find 28 = .ok (.if_icmp .gt 58, 3) := by decide +kernel
theorem dX3_find_31 : decode cX3_find 31 = .ok (.aload_n 0, 1) := by decide +kernel
theorem dX3_find_32 : decode cX3_find 32 = .ok (.iload_n 1, 1) := by decide +kernel
theorem dX3_find_33 : decode cX3_find 33 = .ok (.iload_n 3, 1) := by decide +kernel
theorem dX3_find_34 : decode cX3_find 34 = .ok (.iload_n 2, 1) := by decide +kernel
theorem dX3_find_35 : decode cX3_find 35 = .ok (.invokevirtual 61, 3) := by decide +kernel
theorem dX3_find_38 : decode cX3_find 38 = .ok (.aload_n 0, 1) := by decide +kernel
theorem dX3_find_39 : decode cX3_find 39 = .ok (.invokevirtual 65, 3) := by decide +kernel
theorem dX3_find_42 : decode cX3_find 42 = .ok (.ifCond .eq 38, 3) := by decide +kernel
theorem dX3_find_45 : decode cX3_find 45 = .ok (.aload_n 0, 1) := by decide +kernel
theorem dX3_find_46 : decode cX3_find 46 = .ok (.iload_n 3, 1) := by decide +kernel
theorem dX3_find_47 : decode cX3_find 47 = .ok (.iload_n 2, 1) := by decide +kernel
theorem dX3_find_48 : decode cX3_find 48 = .ok (.invokevirtual 69, 3) := by decide +kernel
theorem dX3_find_51 : decode cX3_find 51 = .ok (.ifCond .eq 29, 3) := by decide +kernel
theorem dX3_find_54 : decode cX3_find 54 = .ok (.aload_n 0, 1) := by decide +kernel
theorem dX3_find_55 : decode cX3_find 55 = .ok (.iload_n 3, 1) := by decide +kernel
theorem dX3_find_56 : decode cX3_find 56 = .ok (.putfield 52, 3) := by decide +kernel
theorem dX3_find_59 : decode cX3_find 59 = .ok (.aload_n 0, 1) := by decide +kernel
theorem dX3_find_60 : decode cX3_find 60 = .ok (.iload_n 2, 1) := by decide +kernel
theorem dX3_find_61 : decode cX3_find 61 = .ok (.putfield 55, 3) := by decide +kernel
theorem dX3_find_64 : decode cX3_find 64 = .ok (.aload_n 0, 1) := by decide +kernel
theorem dX3_find_65 : decode cX3_find 65 = .ok (.aload_n 0, 1) := by decide +kernel
theorem dX3_find_66 : decode cX3_find 66 = .ok (.getfield 15, 3) := by decide +kernel
theorem dX3_find_69 : decode cX3_find 69 = .ok (.putfield 73, 3) := by decide +kernel
theorem dX3_find_72 : decode cX3_find 72 = .ok (.aload_n 0, 1) := by decide +kernel
theorem dX3_find_73 : decode cX3_find 73 = .ok (.aload_n 0, 1) := by decide +kernel
theorem dX3_find_74 : decode cX3_find 74 = .ok (.getfield 19, 3) := by decide +kernel
theorem dX3_find_77 : decode cX3_find 77 = .ok (.putfield 58, 3) := by decide +kernel
theorem dX3_find_80 : decode cX3_find 80 = .ok (.iinc 3 1, 3) := by decide +kernel
theorem dX3_find_83 : decode cX3_find 83 = .ok (.goto (-57), 3) := by decide +kernel
theorem dX3_find_86 : decode cX3_find 86 = .ok (.iinc 2 1, 3) := by decide +kernel
theorem dX3_find_89 : decode cX3_find 89 = .ok (.goto (-71), 3) := by decide +kernel
theorem dX3_find_92 : decode cX3_find 92 = .ok (.return_, 1) := by decide +kernel
theorem dX3_isBetter_0 : decode cX3_isBetter 0 = .ok (.aload_n 0, 1) := by decide +kernel
theorem dX3_isBetter_1 : decode cX3_isBetter 1 = .ok (.getfield 58, 3) := by decide +kernel
theorem dX3_isBetter_4 : decode cX3_isBetter 4 = .ok (.ifCond .ne 5, 3) := by decide +kernel
theorem dX3_isBetter_7 : decode cX3_isBetter 7 = .ok (.iconst 1, 1) := by decide +kernel
theorem dX3_isBetter_8 : decode cX3_isBetter 8 = .ok (.ireturn, 1) := by decide +kernel
theorem dX3_isBetter_9 : decode cX3_isBetter 9 = .ok (.aload_n 0, 1) := by decide +kernel
theorem dX3_isBetter_10 : decode cX3_isBetter 10 = .ok (.getfield 15, 3) := by decide +kernel
theorem dX3_isBetter_13 : decode cX3_isBetter 13 = .ok (.aload_n 0, 1) := by decide +kernel
theorem dX3_isBetter_14 : decode cX3_isBetter 14 = .ok (.getfield 58, 3) := by decide +kernel
theorem dX3_isBetter_17 : decode cX3_isBetter 17 = .ok (.imul, 1) := by decide +kernel
theorem dX3_isBetter_18 : decode cX3_isBetter 18 = .ok (.istore_n 3, 1) := by decide +kernel
theorem dX3_isBetter_19 : decode cX3_isBetter 19 = .ok (.aload_n 0, 1) := by decide +kernel
theorem dX3_isBetter_20 : decode cX3_isBetter 20 = .ok (.getfield 73, 3) := by decide +kernel
theorem dX3_isBetter_23 : decode cX3_isBetter 23 = .ok (.aload_n 0, 1) := by decide +kernel
theorem dX3_isBetter_24 : decode cX3_isBetter 24 = .ok (.getfield 19, 3) := by decide +kernel
theorem dX3_isBetter_27 : decode cX3_isBetter 27 = .ok (.imul, 1) := by decide +kernel
theorem dX3_isBetter_28 : decode cX3_isBetter 28 = .ok (.istore 4, 2) := by decide +kernel
theorem dX3_isBetter_30 : decode cX3_isBetter 30 = .ok (.iload_n 3, 1) := by decide +kernel
theorem dX3_isBetter_31 : decode cX3_isBetter 31 = .ok (.iload 4, 2) := by decide +kernel
theorem dX3_isBetter_33 : decode cX3_isBetter 33 = .ok (.if_icmp .eq 15, 3) := by decide +kernel
theorem dX3_isBetter_36 : decode cX3_isBetter 36 = .ok (.iload_n 3, 1) := by decide +kernel
theorem dX3_isBetter_37 : decode cX3_isBetter 37 = .ok (.iload 4, 2) := by decide +kernel
theorem dX3_isBetter_39 : decode cX3_isBetter 39 = .ok (.if_icmp .ge 7, 3) := by decide +kernel
theorem dX3_isBetter_42 : decode cX3_isBetter 42 = .ok (.iconst 1, 1) := by decide +kernel
theorem dX3_isBetter_43 : decode cX3_isBetter 43 = .ok (.goto 4, 3) := by decide +kernel
theorem dX3_isBetter_46 : decode cX3_isBetter 46 = .ok (.iconst 0, 1) := by decide +kernel
theorem dX3_isBetter_47 : decode cX3_isBetter 47 = .ok (.ireturn, 1) := by decide +kernel
theorem dX3_isBetter_48 : decode cX3_isBetter 48 = .ok (.iload_n 1, 1) := by decide +kernel
theorem dX3_isBetter_49 : decode cX3_isBetter 49 = .ok (.invokestatic 45, 3) := by decide +kernel
theorem dX3_isBetter_52 : decode cX3_isBetter 52 = .ok (.iload_n 2, 1) := by decide +kernel
theorem dX3_isBetter_53 : decode cX3_isBetter 53 = .ok (.invokestatic 45, 3) := by decide +kernel
theorem dX3_isBetter_56 : decode cX3_isBetter 56 = .ok (.iadd, 1) := by decide +kernel
theorem dX3_isBetter_57 : decode cX3_isBetter 57 = .ok (.aload_n 0, 1) := by decide +kernel
theorem dX3_isBetter_58 : decode cX3_isBetter 58 = .ok (.getfield 52, 3) := by decide +kernel
theorem dX3_isBetter_61 : decode cX3_isBetter 61 = .ok (.invokestatic 45, 3) := by decide +kernel
theorem dX3_isBetter_64 : decode cX3_isBetter 64 = .ok (.aload_n 0, 1) := by decide +kernel
theorem dX3_isBetter_65 : decode cX3_isBetter 65 = .ok (.getfield 55, 3) := by decide +kernel
theorem dX3_isBetter_68 : decode cX3_isBetter 68 = .ok (.invokestatic 45, 3) := by decide +kernel
theorem dX3_isBetter_71 : decode cX3_isBetter 71 = .ok (.iadd, 1) := by decide +kernel
theorem dX3_isBetter_72 : decode cX3_isBetter 72 = .ok (.if_icmp .ge 7, 3) := by decide +kernel
theorem dX3_isBetter_75 : decode cX3_isBetter 75 = .ok (.iconst 1, 1) := by decide +kernel
theorem dX3_isBetter_76 : decode cX3_isBetter 76 = .ok (.goto 4, 3) := by decide +kernel
theorem dX3_isBetter_79 : decode cX3_isBetter 79 = .ok (.iconst 0, 1) := by decide +kernel
theorem dX3_isBetter_80 : decode cX3_isBetter 80 = .ok (.ireturn, 1) := by decide +kernel
theorem dX3_along_0 : decode cX3_along 0 = .ok (.iload_n 1, 1) := by decide +kernel
theorem dX3_along_1 : decode cX3_along 1 = .ok (.ifCond .ne 10, 3) := by decide +kernel
theorem dX3_along_4 : decode cX3_along 4 = .ok (.aload_n 0, 1) := by decide +kernel
theorem dX3_along_5 : decode cX3_along 5 = .ok (.getfield 52, 3) := by decide +kernel
theorem dX3_along_8 : decode cX3_along 8 = .ok (.goto 7, 3) := by decide +kernel
theorem dX3_along_11 : decode cX3_along 11 = .ok (.aload_n 0, 1) := by decide +kernel
theorem dX3_along_12 : decode cX3_along 12 = .ok (.getfield 55, 3) := by decide +kernel
theorem dX3_along_15 : decode cX3_along 15 = .ok (.ireturn, 1) := by decide +kernel
theorem dX4_init_0 : decode cX4_init 0 = .ok (.aload_n 0, 1) := by decide +kernel
theorem dX4_init_1 : decode cX4_init 1 = .ok (.invokespecial 5, 3) := by decide +kernel
theorem dX4_init_4 : decode cX4_init 4 = .ok (.aload_n 0, 1) := by decide +kernel
theorem dX4_init_5 : decode cX4_init 5 = .ok (.bipush 10, 2) := by decide +kernel
theorem dX4_init_7 : decode cX4_init 7 = .ok (.newarray .int, 2) := by decide +kernel
theorem dX4_init_9 : decode cX4_init 9 = .ok (.putfield 11, 3) := by decide +kernel
theorem dX4_init_12 : decode cX4_init 12 = .ok (.aload_n 0, 1) := by decide +kernel
theorem dX4_init_13 : decode cX4_init 13 = .ok (.bipush 10, 2) := by decide +kernel
theorem dX4_init_15 : decode cX4_init 15 = .ok (.newarray .int, 2) := by decide +kernel
theorem dX4_init_17 : decode cX4_init 17 = .ok (.putfield 15, 3) := by decide +kernel
theorem dX4_init_20 : decode cX4_init 20 = .ok (.aload_n 0, 1) := by decide +kernel
theorem dX4_init_21 : decode cX4_init 21 = .ok (.sipush 490, 3) := by decide +kernel
theorem dX4_init_24 : decode cX4_init 24 = .ok (.newarray .int, 2) := by decide +kernel
theorem dX4_init_26 : decode cX4_init 26 = .ok (.putfield 18, 3) := by decide +kernel
theorem dX4_init_29 : decode cX4_init 29 = .ok (.return_, 1) := by decide +kernel
theorem dX4_setDrift_0 : decode cX4_setDrift 0 = .ok (.iload_n 1, 1) := by decide +kernel
theorem dX4_setDrift_1 : decode cX4_setDrift 1 = .ok (.ifCond .lt 16, 3) := by decide +kernel
theorem dX4_setDrift_4 : decode cX4_setDrift 4 = .ok (.iload_n 1, 1) := by decide +kernel
theorem dX4_setDrift_5 : decode cX4_setDrift 5 = .ok (.bipush 10, 2) := by decide +kernel
theorem dX4_setDrift_7 : decode cX4_setDrift 7 = .ok (.if_icmp .ge 10, 3) := by decide +kernel
theorem dX4_setDrift_10 : decode cX4_setDrift 10 = .ok (.aload_n 0, 1) := by decide +kernel
theorem dX4_setDrift_11 : decode cX4_setDrift 11 = .ok (.getfield 11, 3) := by decide +kernel
theorem dX4_setDrift_14 : decode cX4_setDrift 14 = .ok (.iload_n 1, 1) := by decide +kernel
theorem dX4_setDrift_15 : decode cX4_setDrift 15 = .ok (.iload_n 2, 1) := by decide +kernel
theorem dX4_setDrift_16 : decode cX4_setDrift 16 = .ok (.iastore, 1) := by decide +kernel
theorem dX4_setDrift_17 : decode cX4_setDrift 17 = .ok (.return_, 1) := by decide +kernel
theorem dX4_spotAt_0 : decode cX4_spotAt 0 = .ok (.iload_n 1, 1) := by decide +kernel
theorem dX4_spotAt_1 : decode cX4_spotAt 1 = .ok (.ifCond .lt 20, 3) := by decide +kernel
theorem dX4_spotAt_4 : decode cX4_spotAt 4 = .ok (.iload_n 1, 1) := by decide +kernel
theorem dX4_spotAt_5 : decode cX4_spotAt 5 = .ok (.aload_n 0, 1) := by decide +kernel
theorem dX4_spotAt_6 : decode cX4_spotAt 6 = .ok (.getfield 21, 3) := by decide +kernel
theorem dX4_spotAt_9 : decode cX4_spotAt 9 = .ok (.if_icmp .ge 12, 3) := by decide +kernel
theorem dX4_spotAt_12 : decode cX4_spotAt 12 = .ok (.aload_n 0, 1) := by decide +kernel
theorem dX4_spotAt_13 : decode cX4_spotAt 13 = .ok (.getfield 15, 3) := by decide +kernel
theorem dX4_spotAt_16 : decode cX4_spotAt 16 = .ok (.iload_n 1, 1) := by decide +kernel
theorem dX4_spotAt_17 : decode cX4_spotAt 17 = .ok (.iaload, 1) := by decide +kernel
theorem dX4_spotAt_18 : decode cX4_spotAt 18 = .ok (.goto 6, 3) := by decide +kernel
theorem dX4_spotAt_21 : decode cX4_spotAt 21 = .ok (.sipush (-1000), 3) := by decide +kernel
theorem dX4_spotAt_24 : decode cX4_spotAt 24 = .ok (.ireturn, 1) := by decide +kernel
set_option maxRecDepth 20000 in
theorem ggX4_solve_X4_findCosts : GoodIn wsX4_solve wsX4_findCosts := goodIn_r _ [14, 1, 3, 15, 16, 17, 13, 18, 19, 20, 21, 22, 23, 24, 25, 26, 27, 28, 29, 30, 31, 32, 33, 2, 34, 35, 36, 37, 4, 50, 51, 52, 53, 54, 55] (by decide +kernel) (by decide +kernel)
set_option maxRecDepth 20000 in
theorem gX4_solve_X4_findCosts : GoodIn wsX4_solve (wsV RX4 37 RX4 yX4_findCosts wsX4_findCosts) := goodIn_app (goodIn_of _ (by decide +kernel)) ggX4_solve_X4_findCosts
set_option maxRecDepth 20000 in
theorem ggX4_solve_X4_takeChoices : GoodIn wsX4_solve wsX4_takeChoices := goodIn_r _ [41, 3, 5, 1, 42, 43, 44, 13, 45, 2, 31, 32, 25, 33, 15, 16, 17, 18, 34, 35, 36, 37, 4, 46, 47, 48, 49, 27, 28, 29, 30, 50, 51, 52, 53, 54, 55] (by decide +kernel) (by decide +kernel)
set_option maxRecDepth 20000 in
theorem gX4_solve_X4_takeChoices : GoodIn wsX4_solve (wsV RX4 40 RX4 yX4_takeChoices wsX4_takeChoices) := goodIn_app (goodIn_of _ (by decide +kernel)) ggX4_solve_X4_takeChoices
theorem dX4_solve_0 : decode cX4_solve 0 = .ok (.aload_n 0, 1) := by decide +kernel
theorem dX4_solve_1 : decode cX4_solve 1 = .ok (.iload_n 1, 1) := by decide +kernel
theorem dX4_solve_2 : decode cX4_solve 2 = .ok (.putfield 21, 3) := by decide +kernel
theorem dX4_solve_5 : decode cX4_solve 5 = .ok (.aload_n 0, 1) := by decide +kernel
theorem dX4_solve_6 : decode cX4_solve 6 = .ok (.iload_n 2, 1) := by decide +kernel
theorem dX4_solve_7 : decode cX4_solve 7 = .ok (.putfield 25, 3) := by decide +kernel
theorem dX4_solve_10 : decode cX4_solve 10 = .ok (.aload_n 0, 1) := by decide +kernel
theorem dX4_solve_11 : decode cX4_solve 11 = .ok (.iconst 2, 1) := by decide +kernel
theorem dX4_solve_12 : decode cX4_solve 12 = .ok (.iload_n 2, 1) := by decide +kernel
theorem dX4_solve_13 : decode cX4_solve 13 = .ok (.imul, 1) := by decide +kernel
theorem dX4_solve_14 : decode cX4_solve 14 = .ok (.iconst 1, 1) := by decide +kernel
theorem dX4_solve_15 : decode cX4_solve 15 = .ok (.iadd, 1) := by decide +kernel
theorem dX4_solve_16 : decode cX4_solve 16 = .ok (.putfield 28, 3) := by decide +kernel
theorem dX4_solve_19 : decode cX4_solve 19 = .ok (.aload_n 0, 1) := by decide +kernel
theorem dX4_solve_20 : decode cX4_solve 20 = .ok (.getfield 21, 3) := by decide +kernel
theorem dX4_solve_23 : decode cX4_solve 23 = .ok (.iconst 3, 1) := by decide +kernel
theorem dX4_solve_24 : decode cX4_solve 24 = .ok (.if_icmp .ge 21, 3) := by decide +kernel
theorem dX4_solve_27 : decode cX4_solve 27 = .ok (.aload_n 0, 1) := by decide +kernel
theorem dX4_solve_28 : decode cX4_solve 28 = .ok (.getfield 11, 3) := by decide +kernel
theorem dX4_solve_31 : decode cX4_solve 31 = .ok (.iconst 0, 1) := by decide +kernel
theorem dX4_solve_32 : decode cX4_solve 32 = .ok (.aload_n 0, 1) := by decide +kernel
theorem dX4_solve_33 : decode cX4_solve 33 = .ok (.getfield 15, 3) := by decide +kernel
theorem dX4_solve_36 : decode cX4_solve 36 = .ok (.iconst 0, 1) := by decide +kernel
theorem dX4_solve_37 : decode cX4_solve 37 = .ok (.aload_n 0, 1) := by decide +kernel
theorem dX4_solve_38 : decode cX4_solve 38 = .ok (.getfield 21, 3) := by decide +kernel
theorem dX4_solve_41 : decode cX4_solve 41 = .ok (.invokestatic 31, 3) := by decide +kernel
theorem dX4_solve_44 : decode cX4_solve 44 = .ok (.return_, 1) := by decide +kernel
theorem dX4_solve_45 : decode cX4_solve 45 = .ok (.aload_n 0, 1) := by decide +kernel
theorem dX4_solve_46 : decode cX4_solve 46 = .ok (.invokevirtual 37, 3) := by decide +kernel
theorem dX4_solve_49 : decode cX4_solve 49 = .ok (.aload_n 0, 1) := by decide +kernel
theorem dX4_solve_50 : decode cX4_solve 50 = .ok (.invokevirtual 40, 3) := by decide +kernel
theorem dX4_solve_53 : decode cX4_solve 53 = .ok (.return_, 1) := by decide +kernel
set_option maxRecDepth 20000 in
theorem ggX4_findCosts_X4_slotOf : GoodIn wsX4_findCosts wsX4_slotOf := goodIn_r _ [7] (by decide +kernel) (by decide +kernel)
set_option maxRecDepth 20000 in
theorem gX4_findCosts_X4_slotOf : GoodIn wsX4_findCosts (va_wsS RX4 43 yX4_slotOf wsX4_slotOf) := goodIn_app (goodIn_of _ (by decide +kernel)) ggX4_findCosts_X4_slotOf
set_option maxRecDepth 20000 in
theorem ggX4_findCosts_X4_leastCostBehind : GoodIn wsX4_findCosts wsX4_leastCostBehind := goodIn_r _ [11, 1, 2, 12, 13, 14, 15, 16, 17, 18, 6, 19, 20, 21, 22, 23, 3, 24, 25, 26, 27, 28, 4, 5, 7, 29, 30, 31, 32, 33, 34] (by decide +kernel) (by decide +kernel)
set_option maxRecDepth 20000 in
theorem gX4_findCosts_X4_leastCostBehind : GoodIn wsX4_findCosts (wsV RX4 47 RX4 yX4_leastCostBehind wsX4_leastCostBehind) := goodIn_app (goodIn_of _ (by decide +kernel)) ggX4_findCosts_X4_leastCostBehind
theorem dX4_findCosts_0 : decode cX4_findCosts 0 = .ok (.aload_n 0, 1) := by decide +kernel
theorem dX4_findCosts_1 : decode cX4_findCosts 1 = .ok (.getfield 21, 3) := by decide +kernel
theorem dX4_findCosts_4 : decode cX4_findCosts 4 = .ok (.iconst 2, 1) := by decide +kernel
theorem dX4_findCosts_5 : decode cX4_findCosts 5 = .ok (.isub, 1) := by decide +kernel
theorem dX4_findCosts_6 : decode cX4_findCosts 6 = .ok (.istore_n 1, 1) := by decide +kernel
theorem dX4_findCosts_7 : decode cX4_findCosts 7 = .ok (.iload_n 1, 1) := by decide +kernel
theorem dX4_findCosts_8 : decode cX4_findCosts 8 = .ok (.ifCond .lt 59, 3) := by decide +kernel
theorem dX4_findCosts_11 : decode cX4_findCosts 11 = .ok (.iconst 0, 1) := by decide +kernel
theorem dX4_findCosts_12 : decode cX4_findCosts 12 = .ok (.istore_n 2, 1) := by decide +kernel
theorem dX4_findCosts_13 : decode cX4_findCosts 13 = .ok (.iload_n 2, 1) := by decide +kernel
theorem dX4_findCosts_14 : decode cX4_findCosts 14 = .ok (.aload_n 0, 1) := by decide +kernel
theorem dX4_findCosts_15 : decode cX4_findCosts 15 = .ok (.getfield 28, 3) := by decide +kernel
theorem dX4_findCosts_18 : decode cX4_findCosts 18 = .ok (.if_icmp .ge 43, 3) := by decide +kernel
theorem dX4_findCosts_21 : decode cX4_findCosts 21 = .ok (.iconst 0, 1) := by decide +kernel
theorem dX4_findCosts_22 : decode cX4_findCosts 22 = .ok (.istore_n 3, 1) := by decide +kernel
theorem dX4_findCosts_23 : decode cX4_findCosts 23 = .ok (.iload_n 3, 1) := by decide +kernel
theorem dX4_findCosts_24 : decode cX4_findCosts 24 = .ok (.aload_n 0, 1) := by decide +kernel
theorem dX4_findCosts_25 : decode cX4_findCosts 25 = .ok (.getfield 28, 3) := by decide +kernel
theorem dX4_findCosts_28 : decode cX4_findCosts 28 = .ok (.if_icmp .ge 27, 3) := by decide +kernel
theorem dX4_findCosts_31 : decode cX4_findCosts 31 = .ok (.aload_n 0, 1) := by decide +kernel
theorem dX4_findCosts_32 : decode cX4_findCosts 32 = .ok (.getfield 18, 3) := by decide +kernel
theorem dX4_findCosts_35 : decode cX4_findCosts 35 = .ok (.iload_n 1, 1) := by decide +kernel
theorem dX4_findCosts_36 : decode cX4_findCosts 36 = .ok (.iload_n 2, 1) := by decide +kernel
theorem dX4_findCosts_37 : decode cX4_findCosts 37 = .ok (.iload_n 3, 1) := by decide +kernel
theorem dX4_findCosts_38 : decode cX4_findCosts 38 = .ok (.invokestatic 43, 3) := by decide +kernel
theorem dX4_findCosts_41 : decode cX4_findCosts 41 = .ok (.aload_n 0, 1) := by decide +kernel
theorem dX4_findCosts_42 : decode cX4_findCosts 42 = .ok (.iload_n 1, 1) := by decide +kernel
theorem dX4_findCosts_43 : decode cX4_findCosts 43 = .ok (.iload_n 2, 1) := by decide +kernel
theorem dX4_findCosts_44 : decode cX4_findCosts 44 = .ok (.iload_n 3, 1) := by decide +kernel
theorem dX4_findCosts_45 : decode cX4_findCosts 45 = .ok (.invokevirtual 47, 3) := by decide +kernel
theorem dX4_findCosts_48 : decode cX4_findCosts 48 = .ok (.iastore, 1) := by decide +kernel
theorem dX4_findCosts_49 : decode cX4_findCosts 49 = .ok (.iinc 3 1, 3) := by decide +kernel
theorem dX4_findCosts_52 : decode cX4_findCosts 52 = .ok (.goto (-29), 3) := by decide +kernel
theorem dX4_findCosts_55 : decode cX4_findCosts 55 = .ok (.iinc 2 1, 3) := by decide +kernel
theorem dX4_findCosts_58 : decode cX4_findCosts 58 = .ok (.goto (-45), 3) := by decide +kernel
theorem dX4_findCosts_61 : decode cX4_findCosts 61 = .ok (.iinc 1 (-1), 3) := by decide +kernel
theorem dX4_findCosts_64 : decode cX4_findCosts 64 = .ok (.goto (-57), 3) := by decide +kernel
theorem dX4_findCosts_67 : decode cX4_findCosts 67 = .ok (.return_, 1) := by decide +kernel
set_option maxRecDepth 20000 in
theorem ggX4_leastCostBehind_X4_costThrough : GoodIn wsX4_leastCostBehind wsX4_costThrough := goodIn_r _ [11, 12, 13, 5, 14, 15, 16, 17, 18, 19, 10, 20, 21, 22, 23, 24, 25, 26, 27, 28, 29, 30] (by decide +kernel) (by decide +kernel)
set_option maxRecDepth 20000 in
theorem gX4_leastCostBehind_X4_costThrough : GoodIn wsX4_leastCostBehind (wsV RX4 50 RX4 yX4_costThrough wsX4_costThrough) := goodIn_app (goodIn_of _ (by decide +kernel)) ggX4_leastCostBehind_X4_costThrough
theorem dX4_leastCostBehind_0 : decode cX4_leastCostBehind 0 = .ok (.iload_n 1, 1) := by decide +kernel
theorem dX4_leastCostBehind_1 : decode cX4_leastCostBehind 1 = .ok (.iconst 2, 1) := by decide +kernel
theorem dX4_leastCostBehind_2 : decode cX4_leastCostBehind 2 = .ok (.iadd, 1) := by decide +kernel
theorem dX4_leastCostBehind_3 : decode cX4_leastCostBehind 3 = .ok (.aload_n 0, 1) := by decide +kernel
theorem dX4_leastCostBehind_4 : decode cX4_leastCostBehind 4 = .ok (.getfield 21, 3) := by decide +kernel
theorem dX4_leastCostBehind_7 : decode cX4_leastCostBehind 7 = .ok (.if_icmp .lt 5, 3) := by decide +kernel
theorem dX4_leastCostBehind_10 : decode cX4_leastCostBehind 10 = .ok (.iconst 0, 1) := by decide +kernel
theorem dX4_leastCostBehind_11 : decode cX4_leastCostBehind 11 = .ok (.ireturn, 1) := by decide +kernel
theorem dX4_leastCostBehind_12 : decode cX4_leastCostBehind 12 = .ok (.aload_n 0, 1) := by decide +kernel
theorem dX4_leastCostBehind_13 : decode cX4_leastCostBehind 13 = .ok (.iload_n 1, 1) := by decide +kernel
theorem dX4_leastCostBehind_14 : decode cX4_leastCostBehind 14 = .ok (.iload_n 2, 1) := by decide +kernel
theorem dX4_leastCostBehind_15 : decode cX4_leastCostBehind 15 = .ok (.iload_n 3, 1) := by decide +kernel
theorem dX4_leastCostBehind_16 : decode cX4_leastCostBehind 16 = .ok (.iconst 0, 1) := by decide +kernel
theorem dX4_leastCostBehind_17 : decode cX4_leastCostBehind 17 = .ok (.invokevirtual 50, 3) := by decide +kernel
theorem dX4_leastCostBehind_20 : decode cX4_leastCostBehind 20 = .ok (.istore 4, 2) := by decide +kernel
theorem dX4_leastCostBehind_22 : decode cX4_leastCostBehind 22 = .ok (.iconst 1, 1) := by decide +kernel
theorem dX4_leastCostBehind_23 : decode cX4_leastCostBehind 23 = .ok (.istore 5, 2) := by decide +kernel
theorem dX4_leastCostBehind_25 : decode cX4_leastCostBehind 25 = .ok (.iload 5, 2) := by decide +kernel
theorem dX4_leastCostBehind_27 : decode cX4_leastCostBehind 27 = .ok (.aload_n 0, 1) := by decide +kernel
theorem dX4_leastCostBehind_28 : decode cX4_leastCostBehind 28 = .ok (.getfield 28, 3) := by decide +kernel
theorem dX4_leastCostBehind_31 : decode cX4_leastCostBehind 31 = .ok (.if_icmp .ge 25, 3) := by decide +kernel
theorem dX4_leastCostBehind_34 : decode cX4_leastCostBehind 34 = .ok (.iload 4, 2) := by decide +kernel
theorem dX4_leastCostBehind_36 : decode cX4_leastCostBehind 36 = .ok (.aload_n 0, 1) := by decide +kernel
theorem dX4_leastCostBehind_37 : decode cX4_leastCostBehind 37 = .ok (.iload_n 1, 1) := by decide +kernel
theorem dX4_leastCostBehind_38 : decode cX4_leastCostBehind 38 = .ok (.iload_n 2, 1) := by decide +kernel
theorem dX4_leastCostBehind_39 : decode cX4_leastCostBehind 39 = .ok (.iload_n 3, 1) := by decide +kernel
theorem dX4_leastCostBehind_40 : decode cX4_leastCostBehind 40 = .ok (.iload 5, 2) := by decide +kernel
theorem dX4_leastCostBehind_42 : decode cX4_leastCostBehind 42 = .ok (.invokevirtual 50, 3) := by decide +kernel
theorem dX4_leastCostBehind_45 : decode cX4_leastCostBehind 45 = .ok (.invokestatic 54, 3) := by decide +kernel
theorem dX4_leastCostBehind_48 : decode cX4_leastCostBehind 48 = .ok (.istore 4, 2) := by decide +kernel
theorem dX4_leastCostBehind_50 : decode cX4_leastCostBehind 50 = .ok (.iinc 5 1, 3) := by decide +kernel
theorem dX4_leastCostBehind_53 : decode cX4_leastCostBehind 53 = .ok (.goto (-28), 3) := by decide +kernel
theorem dX4_leastCostBehind_56 : decode cX4_leastCostBehind 56 = .ok (.iload 4, 2) := by decide +kernel
theorem dX4_leastCostBehind_58 : decode cX4_leastCostBehind 58 = .ok (.ireturn, 1) := by decide +kernel
set_option maxRecDepth 20000 in
theorem ggX4_costThrough_X4_spotOf : GoodIn wsX4_costThrough wsX4_spotOf := goodIn_r _ [11, 12, 5, 16, 17, 18, 19, 20, 21] (by decide +kernel) (by decide +kernel)
set_option maxRecDepth 20000 in
theorem gX4_costThrough_X4_spotOf : GoodIn wsX4_costThrough (wsV RX4 60 RX4 yX4_spotOf wsX4_spotOf) := goodIn_app (goodIn_of _ (by decide +kernel)) ggX4_costThrough_X4_spotOf
set_option maxRecDepth 20000 in
theorem ggX4_costThrough_X4_slotOf : GoodIn wsX4_costThrough wsX4_slotOf := goodIn_r _ [15] (by decide +kernel) (by decide +kernel)
set_option maxRecDepth 20000 in
theorem gX4_costThrough_X4_slotOf : GoodIn wsX4_costThrough (va_wsS RX4 43 yX4_slotOf wsX4_slotOf) := goodIn_app (goodIn_of _ (by decide +kernel)) ggX4_costThrough_X4_slotOf
theorem dX4_costThrough_0 : decode cX4_costThrough 0 = .ok (.aload_n 0, 1) := by decide +kernel
theorem dX4_costThrough_1 : decode cX4_costThrough 1 = .ok (.iload_n 1, 1) := by decide +kernel
theorem dX4_costThrough_2 : decode cX4_costThrough 2 = .ok (.iconst 2, 1) := by decide +kernel
theorem dX4_costThrough_3 : decode cX4_costThrough 3 = .ok (.iadd, 1) := by decide +kernel
theorem dX4_costThrough_4 : decode cX4_costThrough 4 = .ok (.iload 4, 2) := by decide +kernel
theorem dX4_costThrough_6 : decode cX4_costThrough 6 = .ok (.invokevirtual 60, 3) := by decide +kernel
theorem dX4_costThrough_9 : decode cX4_costThrough 9 = .ok (.iconst 2, 1) := by decide +kernel
theorem dX4_costThrough_10 : decode cX4_costThrough 10 = .ok (.aload_n 0, 1) := by decide +kernel
theorem dX4_costThrough_11 : decode cX4_costThrough 11 = .ok (.iload_n 1, 1) := by decide +kernel
theorem dX4_costThrough_12 : decode cX4_costThrough 12 = .ok (.iconst 1, 1) := by decide +kernel
theorem dX4_costThrough_13 : decode cX4_costThrough 13 = .ok (.iadd, 1) := by decide +kernel
theorem dX4_costThrough_14 : decode cX4_costThrough 14 = .ok (.iload_n 3, 1) := by decide +kernel
theorem dX4_costThrough_15 : decode cX4_costThrough 15 = .ok (.invokevirtual 60, 3) := by decide +kernel
theorem dX4_costThrough_18 : decode cX4_costThrough 18 = .ok (.imul, 1) := by decide +kernel
theorem dX4_costThrough_19 : decode cX4_costThrough 19 = .ok (.isub, 1) := by decide +kernel
theorem dX4_costThrough_20 : decode cX4_costThrough 20 = .ok (.aload_n 0, 1) := by decide +kernel
theorem dX4_costThrough_21 : decode cX4_costThrough 21 = .ok (.iload_n 1, 1) := by decide +kernel
theorem dX4_costThrough_22 : decode cX4_costThrough 22 = .ok (.iload_n 2, 1) := by decide +kernel
theorem dX4_costThrough_23 : decode cX4_costThrough 23 = .ok (.invokevirtual 60, 3) := by decide +kernel
theorem dX4_costThrough_26 : decode cX4_costThrough 26 = .ok (.iadd, 1) := by decide +kernel
theorem dX4_costThrough_27 : decode cX4_costThrough 27 = .ok (.invokestatic 63, 3) := by decide +kernel
theorem dX4_costThrough_30 : decode cX4_costThrough 30 = .ok (.istore 5, 2) := by decide +kernel
theorem dX4_costThrough_32 : decode cX4_costThrough 32 = .ok (.bipush 100, 2) := by decide +kernel
theorem dX4_costThrough_34 : decode cX4_costThrough 34 = .ok (.iload 5, 2) := by decide +kernel
theorem dX4_costThrough_36 : decode cX4_costThrough 36 = .ok (.imul, 1) := by decide +kernel
theorem dX4_costThrough_37 : decode cX4_costThrough 37 = .ok (.iload 4, 2) := by decide +kernel
theorem dX4_costThrough_39 : decode cX4_costThrough 39 = .ok (.aload_n 0, 1) := by decide +kernel
theorem dX4_costThrough_40 : decode cX4_costThrough 40 = .ok (.getfield 25, 3) := by decide +kernel
theorem dX4_costThrough_43 : decode cX4_costThrough 43 = .ok (.isub, 1) := by decide +kernel
theorem dX4_costThrough_44 : decode cX4_costThrough 44 = .ok (.invokestatic 63, 3) := by decide +kernel
theorem dX4_costThrough_47 : decode cX4_costThrough 47 = .ok (.iadd, 1) := by decide +kernel
theorem dX4_costThrough_48 : decode cX4_costThrough 48 = .ok (.aload_n 0, 1) := by decide +kernel
theorem dX4_costThrough_49 : decode cX4_costThrough 49 = .ok (.getfield 18, 3) := by decide +kernel
theorem dX4_costThrough_52 : decode cX4_costThrough 52 = .ok (.iload_n 1, 1) := by decide +kernel
theorem dX4_costThrough_53 : decode cX4_costThrough 53 = .ok (.iconst 1, 1) := by decide +kernel
theorem dX4_costThrough_54 : decode cX4_costThrough 54 = .ok (.iadd, 1) := by decide +kernel
theorem dX4_costThrough_55 : decode cX4_costThrough 55 = .ok (.iload_n 3, 1) := by decide +kernel
theorem dX4_costThrough_56 : decode cX4_costThrough 56 = .ok (.iload 4, 2) := by decide +kernel
theorem dX4_costThrough_58 : decode cX4_costThrough 58 = .ok (.invokestatic 43, 3) := by decide +kernel
theorem dX4_costThrough_61 : decode cX4_costThrough 61 = .ok (.iaload, 1) := by decide +kernel
theorem dX4_costThrough_62 : decode cX4_costThrough 62 = .ok (.iadd, 1) := by decide +kernel
theorem dX4_costThrough_63 : decode cX4_costThrough 63 = .ok (.ireturn, 1) := by decide +kernel
set_option maxRecDepth 20000 in
theorem ggX4_takeChoices_X4_costOfStart : GoodIn wsX4_takeChoices wsX4_costOfStart := goodIn_r _ [8, 9, 10, 11, 12, 13, 14, 15, 16, 7, 17, 31, 32, 33, 34, 35, 36] (by decide +kernel) (by decide +kernel)
set_option maxRecDepth 20000 in
theorem gX4_takeChoices_X4_costOfStart : GoodIn wsX4_takeChoices (wsV RX4 67 RX4 yX4_costOfStart wsX4_costOfStart) := goodIn_app (goodIn_of _ (by decide +kernel)) ggX4_takeChoices_X4_costOfStart
set_option maxRecDepth 20000 in
theorem ggX4_takeChoices_X4_spotOf : GoodIn wsX4_takeChoices wsX4_spotOf := goodIn_r _ [21, 22, 9, 31, 32, 33, 34, 35, 36] (by decide +kernel) (by decide +kernel)
set_option maxRecDepth 20000 in
theorem gX4_takeChoices_X4_spotOf : GoodIn wsX4_takeChoices (wsV RX4 60 RX4 yX4_spotOf wsX4_spotOf) := goodIn_app (goodIn_of _ (by decide +kernel)) ggX4_takeChoices_X4_spotOf
set_option maxRecDepth 20000 in
theorem ggX4_takeChoices_X4_leastThird : GoodIn wsX4_takeChoices wsX4_leastThird := goodIn_r _ [26, 1, 27, 28, 29, 7, 30, 10, 11, 12, 13, 9, 14, 18, 19, 20, 21, 22, 15, 16, 17, 31, 32, 33, 34, 35, 36] (by decide +kernel) (by decide +kernel)
set_option maxRecDepth 20000 in
theorem gX4_takeChoices_X4_leastThird : GoodIn wsX4_takeChoices (wsV RX4 70 RX4 yX4_leastThird wsX4_leastThird) := goodIn_app (goodIn_of _ (by decide +kernel)) ggX4_takeChoices_X4_leastThird
theorem dX4_takeChoices_0 : decode cX4_takeChoices 0 = .ok (.iconst 0, 1) := by decide +kernel
theorem dX4_takeChoices_1 : decode cX4_takeChoices 1 = .ok (.istore_n 1, 1) := by decide +kernel
theorem dX4_takeChoices_2 : decode cX4_takeChoices 2 = .ok (.iconst 0, 1) := by decide +kernel
theorem dX4_takeChoices_3 : decode cX4_takeChoices 3 = .ok (.istore_n 2, 1) := by decide +kernel
theorem dX4_takeChoices_4 : decode cX4_takeChoices 4 = .ok (.aload_n 0, 1) := by decide +kernel
theorem dX4_takeChoices_5 : decode cX4_takeChoices 5 = .ok (.iconst 0, 1) := by decide +kernel
theorem dX4_takeChoices_6 : decode cX4_takeChoices 6 = .ok (.iconst 0, 1) := by decide +kernel
theorem dX4_takeChoices_7 : decode cX4_takeChoices 7 = .ok (.invokevirtual 67, 3) := by decide +kernel
theorem dX4_takeChoices_10 : decode cX4_takeChoices 10 = .ok (.istore_n 3, 1) := by decide +kernel
theorem dX4_takeChoices_11 : decode cX4_takeChoices 11 = .ok (.iconst 0, 1) := by decide +kernel
theorem dX4_takeChoices_12 : decode cX4_takeChoices 12 = .ok (.istore 4, 2) := by decide +kernel
theorem dX4_takeChoices_14 : decode cX4_takeChoices 14 = .ok (.iload 4, 2) := by decide +kernel
theorem dX4_takeChoices_16 : decode cX4_takeChoices 16 = .ok (.aload_n 0, 1) := by decide +kernel
theorem dX4_takeChoices_17 : decode cX4_takeChoices 17 = .ok (.getfield 28, 3) := by decide +kernel
theorem dX4_takeChoices_20 : decode cX4_takeChoices 20 = .ok (.if_icmp .ge 52, 3) := by decide +kernel
theorem dX4_takeChoices_23 : decode cX4_takeChoices 23 = .ok (.iconst 0, 1) := by decide +kernel
theorem dX4_takeChoices_24 : decode cX4_takeChoices 24 = .ok (.istore 5, 2) := by decide +kernel
theorem dX4_takeChoices_26 : decode cX4_takeChoices 26 = .ok (.iload 5, 2) := by decide +kernel
theorem dX4_takeChoices_28 : decode cX4_takeChoices 28 = .ok (.aload_n 0, 1) := by decide +kernel
theorem dX4_takeChoices_29 : decode cX4_takeChoices 29 = .ok (.getfield 28, 3) := by decide +kernel
theorem dX4_takeChoices_32 : decode cX4_takeChoices 32 = .ok (.if_icmp .ge 34, 3) := by decide +kernel
theorem dX4_takeChoices_35 : decode cX4_takeChoices 35 = .ok (.aload_n 0, 1) := by decide +kernel
theorem dX4_takeChoices_36 : decode cX4_takeChoices 36 = .ok (.iload 4, 2) := by decide +kernel
theorem dX4_takeChoices_38 : decode cX4_takeChoices 38 = .ok (.iload 5, 2) := by decide +kernel
theorem dX4_takeChoices_40 : decode cX4_takeChoices 40 = .ok (.invokevirtual 67, 3) := by decide +kernel
theorem dX4_takeChoices_43 : decode cX4_takeChoices 43 = .ok (.istore 6, 2) := by decide +kernel
theorem dX4_takeChoices_45 : decode cX4_takeChoices 45 = .ok (.iload 6, 2) := by decide +kernel
theorem dX4_takeChoices_47 : decode cX4_takeChoices 47 = .ok (.iload_n 3, 1) := by decide +kernel
theorem dX4_takeChoices_48 : decode cX4_takeChoices 48 = .ok (.if_icmp .ge 12, 3) := by decide +kernel
theorem dX4_takeChoices_51 : decode cX4_takeChoices 51 = .ok (.iload 6, 2) := by decide +kernel
theorem dX4_takeChoices_53 : decode cX4_takeChoices 53 = .ok (.istore_n 3, 1) := by decide +kernel
theorem dX4_takeChoices_54 : decode cX4_takeChoices 54 = .ok (.iload 4, 2) := by decide +kernel
theorem dX4_takeChoices_56 : decode cX4_takeChoices 56 = .ok (.istore_n 1, 1) := by decide +kernel
theorem dX4_takeChoices_57 : decode cX4_takeChoices 57 = .ok (.iload 5, 2) := by decide +kernel
theorem dX4_takeChoices_59 : decode cX4_takeChoices 59 = .ok (.istore_n 2, 1) := by decide +kernel
theorem dX4_takeChoices_60 : decode cX4_takeChoices 60 = .ok (.iinc 5 1, 3) := by decide +kernel
theorem dX4_takeChoices_63 : decode cX4_takeChoices 63 = .ok (.goto (-37), 3) := by decide +kernel
theorem dX4_takeChoices_66 : decode cX4_takeChoices 66 = .ok (.iinc 4 1, 3) := by decide +kernel
theorem dX4_takeChoices_69 : decode cX4_takeChoices 69 = .ok (.goto (-55), 3) := by decide +kernel
theorem dX4_takeChoices_72 : decode cX4_takeChoices 72 = .ok (.aload_n 0, 1) := by decide +kernel
theorem dX4_takeChoices_73 : decode cX4_takeChoices 73 = .ok (.getfield 15, 3) := by decide +kernel
theorem dX4_takeChoices_76 : decode cX4_takeChoices 76 = .ok (.iconst 0, 1) := by decide +kernel
theorem dX4_takeChoices_77 : decode cX4_takeChoices 77 = .ok (.aload_n 0, 1) := by decide +kernel
theorem dX4_takeChoices_78 : decode cX4_takeChoices 78 = .ok (.iconst 0, 1) := by decide +kernel
theorem dX4_takeChoices_79 : decode cX4_takeChoices 79 = .ok (.iload_n 1, 1) := by decide +kernel
theorem dX4_takeChoices_80 : decode cX4_takeChoices 80 = .ok (.invokevirtual 60, 3) := by decide +kernel
theorem dX4_takeChoices_83 : decode cX4_takeChoices 83 = .ok (.iastore, 1) := by decide +kernel
theorem dX4_takeChoices_84 : decode cX4_takeChoices 84 = .ok (.aload_n 0, 1) := by decide +kernel
theorem dX4_takeChoices_85 : decode cX4_takeChoices 85 = .ok (.getfield 15, 3) := by decide +kernel
theorem dX4_takeChoices_88 : decode cX4_takeChoices 88 = .ok (.iconst 1, 1) := by decide +kernel
theorem dX4_takeChoices_89 : decode cX4_takeChoices 89 = .ok (.aload_n 0, 1) := by decide +kernel
theorem dX4_takeChoices_90 : decode cX4_takeChoices 90 = .ok (.iconst 1, 1) := by decide +kernel
theorem dX4_takeChoices_91 : decode cX4_takeChoices 91 = .ok (.iload_n 2, 1) := by decide +kernel
theorem dX4_takeChoices_92 : decode cX4_takeChoices 92 = .ok (.invokevirtual 60, 3) := by decide +kernel
theorem dX4_takeChoices_95 : decode cX4_takeChoices 95 = .ok (.iastore, 1) := by decide +kernel
theorem dX4_takeChoices_96 : decode cX4_takeChoices 96 = .ok (.iconst 0, 1) := by decide +kernel
theorem dX4_takeChoices_97 : decode cX4_takeChoices 97 = .ok (.istore 4, 2) := by decide +kernel
theorem dX4_takeChoices_99 : decode cX4_takeChoices 99 = .ok (.iload 4, 2) := by decide +kernel
theorem dX4_takeChoices_101 : decode cX4_takeChoices 101 = .ok (.iconst 2, 1) := by decide +kernel
theorem dX4_takeChoices_102 : decode cX4_takeChoices 102 = .ok (.iadd, 1) := by decide +kernel
theorem dX4_takeChoices_103 : decode cX4_takeChoices 103 = .ok (.aload_n 0, 1) := by decide +kernel
theorem dX4_takeChoices_104 : decode cX4_takeChoices 104 = .ok (.getfield 21, 3) := by decide +kernel
theorem dX4_takeChoices_107 : decode cX4_takeChoices 107 = .ok (.if_icmp .ge 43, 3) := by decide +kernel
theorem dX4_takeChoices_110 : decode cX4_takeChoices 110 = .ok (.aload_n 0, 1) := by decide +kernel
theorem dX4_takeChoices_111 : decode cX4_takeChoices 111 = .ok (.iload 4, 2) := by decide +kernel
theorem dX4_takeChoices_113 : decode cX4_takeChoices 113 = .ok (.iload_n 1, 1) := by decide +kernel
theorem dX4_takeChoices_114 : decode cX4_takeChoices 114 = .ok (.iload_n 2, 1) := by decide +kernel
theorem dX4_takeChoices_115 : decode cX4_takeChoices 115 = .ok (.invokevirtual 70, 3) := by decide +kernel
theorem dX4_takeChoices_118 : decode cX4_takeChoices 118 = .ok (.istore 5, 2) := by decide +kernel
theorem dX4_takeChoices_120 : decode cX4_takeChoices 120 = .ok (.aload_n 0, 1) := by decide +kernel
theorem dX4_takeChoices_121 : decode cX4_takeChoices 121 = .ok (.getfield 15, 3) := by decide +kernel
theorem dX4_takeChoices_124 : decode cX4_takeChoices 124 = .ok (.iload 4, 2) := by decide +kernel
theorem dX4_takeChoices_126 : decode cX4_takeChoices 126 = .ok (.iconst 2, 1) := by decide +kernel
theorem dX4_takeChoices_127 : decode cX4_takeChoices 127 = .ok (.iadd, 1) := by decide +kernel
theorem dX4_takeChoices_128 : decode cX4_takeChoices 128 = .ok (.aload_n 0, 1) := by decide +kernel
theorem dX4_takeChoices_129 : decode cX4_takeChoices 129 = .ok (.iload 4, 2) := by decide +kernel
theorem dX4_takeChoices_131 : decode cX4_takeChoices 131 = .ok (.iconst 2, 1) := by decide +kernel
theorem dX4_takeChoices_132 : decode cX4_takeChoices 132 = .ok (.iadd, 1) := by decide +kernel
theorem dX4_takeChoices_133 : decode cX4_takeChoices 133 = .ok (.iload 5, 2) := by decide +kernel
theorem dX4_takeChoices_135 : decode cX4_takeChoices 135 = .ok (.invokevirtual 60, 3) := by decide +kernel
theorem dX4_takeChoices_138 : decode cX4_takeChoices 138 = .ok (.iastore, 1) := by decide +kernel
theorem dX4_takeChoices_139 : decode cX4_takeChoices 139 = .ok (.iload_n 2, 1) := by decide +kernel
theorem dX4_takeChoices_140 : decode cX4_takeChoices 140 = .ok (.istore_n 1, 1) := by decide +kernel
theorem dX4_takeChoices_141 : decode cX4_takeChoices 141 = .ok (.iload 5, 2) := by decide +kernel
theorem dX4_takeChoices_143 : decode cX4_takeChoices 143 = .ok (.istore_n 2, 1) := by decide +kernel
theorem dX4_takeChoices_144 : decode cX4_takeChoices 144 = .ok (.iinc 4 1, 3) := by decide +kernel
theorem dX4_takeChoices_147 : decode cX4_takeChoices 147 = .ok (.goto (-48), 3) := by decide +kernel
theorem dX4_takeChoices_150 : decode cX4_takeChoices 150 = .ok (.return_, 1) := by decide +kernel
set_option maxRecDepth 20000 in
theorem ggX4_costOfStart_X4_slotOf : GoodIn wsX4_costOfStart wsX4_slotOf := goodIn_r _ [10] (by decide +kernel) (by decide +kernel)
set_option maxRecDepth 20000 in
theorem gX4_costOfStart_X4_slotOf : GoodIn wsX4_costOfStart (va_wsS RX4 43 yX4_slotOf wsX4_slotOf) := goodIn_app (goodIn_of _ (by decide +kernel)) ggX4_costOfStart_X4_slotOf
theorem dX4_costOfStart_0 : decode cX4_costOfStart 0 = .ok (.iload_n 1, 1) := by decide +kernel
theorem dX4_costOfStart_1 : decode cX4_costOfStart 1 = .ok (.aload_n 0, 1) := by decide +kernel
theorem dX4_costOfStart_2 : decode cX4_costOfStart 2 = .ok (.getfield 25, 3) := by decide +kernel
theorem dX4_costOfStart_5 : decode cX4_costOfStart 5 = .ok (.isub, 1) := by decide +kernel
theorem dX4_costOfStart_6 : decode cX4_costOfStart 6 = .ok (.invokestatic 63, 3) := by decide +kernel
theorem dX4_costOfStart_9 : decode cX4_costOfStart 9 = .ok (.iload_n 2, 1) := by decide +kernel
theorem dX4_costOfStart_10 : decode cX4_costOfStart 10 = .ok (.aload_n 0, 1) := by decide +kernel
theorem dX4_costOfStart_11 : decode cX4_costOfStart 11 = .ok (.getfield 25, 3) := by decide +kernel
theorem dX4_costOfStart_14 : decode cX4_costOfStart 14 = .ok (.isub, 1) := by decide +kernel
theorem dX4_costOfStart_15 : decode cX4_costOfStart 15 = .ok (.invokestatic 63, 3) := by decide +kernel
theorem dX4_costOfStart_18 : decode cX4_costOfStart 18 = .ok (.iadd, 1) := by decide +kernel
theorem dX4_costOfStart_19 : decode cX4_costOfStart 19 = .ok (.aload_n 0, 1) := by decide +kernel
theorem dX4_costOfStart_20 : decode cX4_costOfStart 20 = .ok (.getfield 18, 3) := by decide +kernel
theorem dX4_costOfStart_23 : decode cX4_costOfStart 23 = .ok (.iconst 0, 1) := by decide +kernel
theorem dX4_costOfStart_24 : decode cX4_costOfStart 24 = .ok (.iload_n 1, 1) := by decide +kernel
theorem dX4_costOfStart_25 : decode cX4_costOfStart 25 = .ok (.iload_n 2, 1) := by decide +kernel
theorem dX4_costOfStart_26 : decode cX4_costOfStart 26 = .ok (.invokestatic 43, 3) := by decide +kernel
theorem dX4_costOfStart_29 : decode cX4_costOfStart 29 = .ok (.iaload, 1) := by decide +kernel
theorem dX4_costOfStart_30 : decode cX4_costOfStart 30 = .ok (.iadd, 1) := by decide +kernel
theorem dX4_costOfStart_31 : decode cX4_costOfStart 31 = .ok (.ireturn, 1) := by decide +kernel
set_option maxRecDepth 20000 in
theorem ggX4_leastThird_X4_costThrough : GoodIn wsX4_leastThird wsX4_costThrough := goodIn_r _ [6, 7, 8, 9, 10, 11, 12, 13, 14, 15, 5, 16, 17, 18, 19, 20, 21, 22, 23, 24, 25, 26] (by decide +kernel) (by decide +kernel)
set_option maxRecDepth 20000 in
theorem gX4_leastThird_X4_costThrough : GoodIn wsX4_leastThird (wsV RX4 50 RX4 yX4_costThrough wsX4_costThrough) := goodIn_app (goodIn_of _ (by decide +kernel)) ggX4_leastThird_X4_costThrough
theorem dX4_leastThird_0 : decode cX4_leastThird 0 = .ok (.iconst 0, 1) := by decide +kernel
theorem dX4_leastThird_1 : decode cX4_leastThird 1 = .ok (.istore 4, 2) := by decide +kernel
theorem dX4_leastThird_3 : decode cX4_leastThird 3 = .ok (.iconst 1, 1) := by decide +kernel
theorem dX4_leastThird_4 : decode cX4_leastThird 4 = .ok (.istore 5, 2) := by decide +kernel
theorem dX4_leastThird_6 : decode cX4_leastThird 6 = .ok (.iload 5, 2) := by decide +kernel
theorem dX4_leastThird_8 : decode cX4_leastThird 8 = .ok (.aload_n 0, 1) := by decide +kernel
theorem dX4_leastThird_9 : decode cX4_leastThird 9 = .ok (.getfield 28, 3) := by decide +kernel
theorem dX4_leastThird_12 : decode cX4_leastThird 12 = .ok (.if_icmp .ge 34, 3) := by decide +kernel
theorem dX4_leastThird_15 : decode cX4_leastThird 15 = .ok (.aload_n 0, 1) := by decide +kernel
theorem dX4_leastThird_16 : decode cX4_leastThird 16 = .ok (.iload_n 1, 1) := by decide +kernel
theorem dX4_leastThird_17 : decode cX4_leastThird 17 = .ok (.iload_n 2, 1) := by decide +kernel
theorem dX4_leastThird_18 : decode cX4_leastThird 18 = .ok (.iload_n 3, 1) := by decide +kernel
theorem dX4_leastThird_19 : decode cX4_leastThird 19 = .ok (.iload 5, 2) := by decide +kernel
theorem dX4_leastThird_21 : decode cX4_leastThird 21 = .ok (.invokevirtual 50, 3) := by decide +kernel
theorem dX4_leastThird_24 : decode cX4_leastThird 24 = .ok (.aload_n 0, 1) := by decide +kernel
theorem dX4_leastThird_25 : decode cX4_leastThird 25 = .ok (.iload_n 1, 1) := by decide +kernel
theorem dX4_leastThird_26 : decode cX4_leastThird 26 = .ok (.iload_n 2, 1) := by decide +kernel
theorem dX4_leastThird_27 : decode cX4_leastThird 27 = .ok (.iload_n 3, 1) := by decide +kernel
theorem dX4_leastThird_28 : decode cX4_leastThird 28 = .ok (.iload 4, 2) := by decide +kernel
theorem dX4_leastThird_30 : decode cX4_leastThird 30 = .ok (.invokevirtual 50, 3) := by decide +kernel
theorem dX4_leastThird_33 : decode cX4_leastThird 33 = .ok (.if_icmp .ge 7, 3) := by decide +kernel
theorem dX4_leastThird_36 : decode cX4_leastThird 36 = .ok (.iload 5, 2) := by decide +kernel
theorem dX4_leastThird_38 : decode cX4_leastThird 38 = .ok (.istore 4, 2) := by decide +kernel
theorem dX4_leastThird_40 : decode cX4_leastThird 40 = .ok (.iinc 5 1, 3) := by decide +kernel
theorem dX4_leastThird_43 : decode cX4_leastThird 43 = .ok (.goto (-37), 3) := by decide +kernel
theorem dX4_leastThird_46 : decode cX4_leastThird 46 = .ok (.iload 4, 2) := by decide +kernel
theorem dX4_leastThird_48 : decode cX4_leastThird 48 = .ok (.ireturn, 1) := by decide +kernel
theorem dX4_spotOf_0 : decode cX4_spotOf 0 = .ok (.aload_n 0, 1) := by decide +kernel
theorem dX4_spotOf_1 : decode cX4_spotOf 1 = .ok (.getfield 11, 3) := by decide +kernel
theorem dX4_spotOf_4 : decode cX4_spotOf 4 = .ok (.iload_n 1, 1) := by decide +kernel
theorem dX4_spotOf_5 : decode cX4_spotOf 5 = .ok (.iaload, 1) := by decide +kernel
theorem dX4_spotOf_6 : decode cX4_spotOf 6 = .ok (.iload_n 2, 1) := by decide +kernel
theorem dX4_spotOf_7 : decode cX4_spotOf 7 = .ok (.iadd, 1) := by decide +kernel
theorem dX4_spotOf_8 : decode cX4_spotOf 8 = .ok (.aload_n 0, 1) := by decide +kernel
theorem dX4_spotOf_9 : decode cX4_spotOf 9 = .ok (.getfield 25, 3) := by decide +kernel
theorem dX4_spotOf_12 : decode cX4_spotOf 12 = .ok (.isub, 1) := by decide +kernel
theorem dX4_spotOf_13 : decode cX4_spotOf 13 = .ok (.ireturn, 1) := by decide +kernel
theorem dX4_slotOf_0 : decode cX4_slotOf 0 = .ok (.iload_n 0, 1) := by decide +kernel
theorem dX4_slotOf_1 : decode cX4_slotOf 1 = .ok (.bipush 49, 2) := by decide +kernel
theorem dX4_slotOf_3 : decode cX4_slotOf 3 = .ok (.imul, 1) := by decide +kernel
theorem dX4_slotOf_4 : decode cX4_slotOf 4 = .ok (.iload_n 1, 1) := by decide +kernel
theorem dX4_slotOf_5 : decode cX4_slotOf 5 = .ok (.bipush 7, 2) := by decide +kernel
theorem dX4_slotOf_7 : decode cX4_slotOf 7 = .ok (.imul, 1) := by decide +kernel
theorem dX4_slotOf_8 : decode cX4_slotOf 8 = .ok (.iadd, 1) := by decide +kernel
theorem dX4_slotOf_9 : decode cX4_slotOf 9 = .ok (.iload_n 2, 1) := by decide +kernel
theorem dX4_slotOf_10 : decode cX4_slotOf 10 = .ok (.iadd, 1) := by decide +kernel
theorem dX4_slotOf_11 : decode cX4_slotOf 11 = .ok (.ireturn, 1) := by decide +kernel
theorem dX4_sumOfBends_0 : decode cX4_sumOfBends 0 = .ok (.iconst 0, 1) := by decide +kernel
theorem dX4_sumOfBends_1 : decode cX4_sumOfBends 1 = .ok (.istore_n 1, 1) := by decide +kernel
theorem dX4_sumOfBends_2 : decode cX4_sumOfBends 2 = .ok (.iconst 1, 1) := by decide +kernel
theorem dX4_sumOfBends_3 : decode cX4_sumOfBends 3 = .ok (.istore_n 2, 1) := by decide +kernel
theorem dX4_sumOfBends_4 : decode cX4_sumOfBends 4 = .ok (.iload_n 2, 1) := by decide +kernel
theorem dX4_sumOfBends_5 : decode cX4_sumOfBends 5 = .ok (.iconst 1, 1) := by decide +kernel
theorem dX4_sumOfBends_6 : decode cX4_sumOfBends 6 = .ok (.iadd, 1) := by decide +kernel
theorem dX4_sumOfBends_7 : decode cX4_sumOfBends 7 = .ok (.aload_n 0, 1) := by decide +kernel
theorem dX4_sumOfBends_8 : decode cX4_sumOfBends 8 = .ok (.getfield 21, 3) := by decide +kernel
theorem dX4_sumOfBends_11 : decode cX4_sumOfBends 11 = .ok (.if_icmp .ge 41, 3) := by decide +kernel
theorem dX4_sumOfBends_14 : decode cX4_sumOfBends 14 = .ok (.iload_n 1, 1) := by decide +kernel
theorem dX4_sumOfBends_15 : decode cX4_sumOfBends 15 = .ok (.aload_n 0, 1) := by decide +kernel
theorem dX4_sumOfBends_16 : decode cX4_sumOfBends 16 = .ok (.getfield 15, 3) := by decide +kernel
theorem dX4_sumOfBends_19 : decode cX4_sumOfBends 19 = .ok (.iload_n 2, 1) := by decide +kernel
theorem dX4_sumOfBends_20 : decode cX4_sumOfBends 20 = .ok (.iconst 1, 1) := by decide +kernel
theorem dX4_sumOfBends_21 : decode cX4_sumOfBends 21 = .ok (.iadd, 1) := by decide +kernel
theorem dX4_sumOfBends_22 : decode cX4_sumOfBends 22 = .ok (.iaload, 1) := by decide +kernel
theorem dX4_sumOfBends_23 : decode cX4_sumOfBends 23 = .ok (.iconst 2, 1) := by decide +kernel
theorem dX4_sumOfBends_24 : decode cX4_sumOfBends 24 = .ok (.aload_n 0, 1) := by decide +kernel
theorem dX4_sumOfBends_25 : decode cX4_sumOfBends 25 = .ok (.getfield 15, 3) := by decide +kernel
theorem dX4_sumOfBends_28 : decode cX4_sumOfBends 28 = .ok (.iload_n 2, 1) := by decide +kernel
theorem dX4_sumOfBends_29 : decode cX4_sumOfBends 29 = .ok (.iaload, 1) := by decide +kernel
theorem dX4_sumOfBends_30 : decode cX4_sumOfBends 30 = .ok (.imul, 1) := by decide +kernel
theorem dX4_sumOfBends_31 : decode cX4_sumOfBends 31 = .ok (.isub, 1) := by decide +kernel
theorem dX4_sumOfBends_32 : decode cX4_sumOfBends 32 = .ok (.aload_n 0, 1) := by decide +kernel
theorem dX4_sumOfBends_33 : decode cX4_sumOfBends 33 = .ok (.getfield 15, 3) := by decide +kernel
theorem dX4_sumOfBends_36 : decode cX4_sumOfBends 36 = .ok (.iload_n 2, 1) := by decide +kernel
theorem dX4_sumOfBends_37 : decode cX4_sumOfBends 37 = .ok (.iconst 1, 1) := by decide +kernel
theorem dX4_sumOfBends_38 : decode cX4_sumOfBends 38 = .ok (.isub, 1) := by decide +kernel
theorem dX4_sumOfBends_39 : decode cX4_sumOfBends 39 = .ok (.iaload, 1) := by decide +kernel
theorem dX4_sumOfBends_40 : decode cX4_sumOfBends 40 = .ok (.iadd, 1) := by decide +kernel
theorem dX4_sumOfBends_41 : decode cX4_sumOfBends 41 = .ok (.invokestatic 63, 3) := by decide +kernel
theorem dX4_sumOfBends_44 : decode cX4_sumOfBends 44 = .ok (.iadd, 1) := by decide +kernel
theorem dX4_sumOfBends_45 : decode cX4_sumOfBends 45 = .ok (.istore_n 1, 1) := by decide +kernel
theorem dX4_sumOfBends_46 : decode cX4_sumOfBends 46 = .ok (.iinc 2 1, 3) := by decide +kernel
theorem dX4_sumOfBends_49 : decode cX4_sumOfBends 49 = .ok (.goto (-45), 3) := by decide +kernel
theorem dX4_sumOfBends_52 : decode cX4_sumOfBends 52 = .ok (.iload_n 1, 1) := by decide +kernel
theorem dX4_sumOfBends_53 : decode cX4_sumOfBends 53 = .ok (.ireturn, 1) := by decide +kernel
theorem dX4_sumOfStrays_0 : decode cX4_sumOfStrays 0 = .ok (.iconst 0, 1) := by decide +kernel
theorem dX4_sumOfStrays_1 : decode cX4_sumOfStrays 1 = .ok (.istore_n 1, 1) := by decide +kernel
theorem dX4_sumOfStrays_2 : decode cX4_sumOfStrays 2 = .ok (.iconst 0, 1) := by decide +kernel
theorem dX4_sumOfStrays_3 : decode cX4_sumOfStrays 3 = .ok (.istore_n 2, 1) := by decide +kernel
theorem dX4_sumOfStrays_4 : decode cX4_sumOfStrays 4 = .ok (.iload_n 2, 1) := by decide +kernel
theorem dX4_sumOfStrays_5 : decode cX4_sumOfStrays 5 = .ok (.aload_n 0, 1) := by decide +kernel
theorem dX4_sumOfStrays_6 : decode cX4_sumOfStrays 6 = .ok (.getfield 21, 3) := by decide +kernel
theorem dX4_sumOfStrays_9 : decode cX4_sumOfStrays 9 = .ok (.if_icmp .ge 28, 3) := by decide +kernel
theorem dX4_sumOfStrays_12 : decode cX4_sumOfStrays 12 = .ok (.iload_n 1, 1) := by decide +kernel
theorem dX4_sumOfStrays_13 : decode cX4_sumOfStrays 13 = .ok (.aload_n 0, 1) := by decide +kernel
theorem dX4_sumOfStrays_14 : decode cX4_sumOfStrays 14 = .ok (.getfield 15, 3) := by decide +kernel
theorem dX4_sumOfStrays_17 : decode cX4_sumOfStrays 17 = .ok (.iload_n 2, 1) := by decide +kernel
theorem dX4_sumOfStrays_18 : decode cX4_sumOfStrays 18 = .ok (.iaload, 1) := by decide +kernel
theorem dX4_sumOfStrays_19 : decode cX4_sumOfStrays 19 = .ok (.aload_n 0, 1) := by decide +kernel
theorem dX4_sumOfStrays_20 : decode cX4_sumOfStrays 20 = .ok (.getfield 11, 3) := by decide +kernel
theorem dX4_sumOfStrays_23 : decode cX4_sumOfStrays 23 = .ok (.iload_n 2, 1) := by decide +kernel
theorem dX4_sumOfStrays_24 : decode cX4_sumOfStrays 24 = .ok (.iaload, 1) := by decide +kernel
theorem dX4_sumOfStrays_25 : decode cX4_sumOfStrays 25 = .ok (.isub, 1) := by decide +kernel
theorem dX4_sumOfStrays_26 : decode cX4_sumOfStrays 26 = .ok (.invokestatic 63, 3) := by decide +kernel
theorem dX4_sumOfStrays_29 : decode cX4_sumOfStrays 29 = .ok (.iadd, 1) := by decide +kernel
theorem dX4_sumOfStrays_30 : decode cX4_sumOfStrays 30 = .ok (.istore_n 1, 1) := by decide +kernel
theorem dX4_sumOfStrays_31 : decode cX4_sumOfStrays 31 = .ok (.iinc 2 1, 3) := by decide +kernel
theorem dX4_sumOfStrays_34 : decode cX4_sumOfStrays 34 = .ok (.goto (-30), 3) := by decide +kernel
theorem dX4_sumOfStrays_37 : decode cX4_sumOfStrays 37 = .ok (.iload_n 1, 1) := by decide +kernel
theorem dX4_sumOfStrays_38 : decode cX4_sumOfStrays 38 = .ok (.ireturn, 1) := by decide +kernel

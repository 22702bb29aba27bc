theorem dX6_init_0 : decode cX6_init 0 = .ok (.aload_n 0, 1) := by decide +kernel
theorem dX6_init_1 : decode cX6_init 1 = .ok (.invokespecial 1, 3) := by decide +kernel
theorem dX6_init_4 : decode cX6_init 4 = .ok (.aload_n 0, 1) := by decide +kernel
theorem dX6_init_5 : decode cX6_init 5 = .ok (.iconst 2, 1) := by decide +kernel
theorem dX6_init_6 : decode cX6_init 6 = .ok (.putfield 7, 3) := by decide +kernel
theorem dX6_init_9 : decode cX6_init 9 = .ok (.aload_n 0, 1) := by decide +kernel
theorem dX6_init_10 : decode cX6_init 10 = .ok (.iconst 2, 1) := by decide +kernel
theorem dX6_init_11 : decode cX6_init 11 = .ok (.putfield 13, 3) := by decide +kernel
theorem dX6_init_14 : decode cX6_init 14 = .ok (.aload_n 0, 1) := by decide +kernel
theorem dX6_init_15 : decode cX6_init 15 = .ok (.sipush 360, 3) := by decide +kernel
theorem dX6_init_18 : decode cX6_init 18 = .ok (.newarray .int, 2) := by decide +kernel
theorem dX6_init_20 : decode cX6_init 20 = .ok (.putfield 16, 3) := by decide +kernel
theorem dX6_init_23 : decode cX6_init 23 = .ok (.aload_n 0, 1) := by decide +kernel
theorem dX6_init_24 : decode cX6_init 24 = .ok (.bipush 12, 2) := by decide +kernel
theorem dX6_init_26 : decode cX6_init 26 = .ok (.newarray .int, 2) := by decide +kernel
theorem dX6_init_28 : decode cX6_init 28 = .ok (.putfield 20, 3) := by decide +kernel
theorem dX6_init_31 : decode cX6_init 31 = .ok (.aload_n 0, 1) := by decide +kernel
theorem dX6_init_32 : decode cX6_init 32 = .ok (.bipush 12, 2) := by decide +kernel
theorem dX6_init_34 : decode cX6_init 34 = .ok (.newarray .int, 2) := by decide +kernel
theorem dX6_init_36 : decode cX6_init 36 = .ok (.putfield 23, 3) := by decide +kernel
theorem dX6_init_39 : decode cX6_init 39 = .ok (.aload_n 0, 1) := by decide +kernel
theorem dX6_init_40 : decode cX6_init 40 = .ok (.bipush 12, 2) := by decide +kernel
theorem dX6_init_42 : decode cX6_init 42 = .ok (.newarray .int, 2) := by decide +kernel
theorem dX6_init_44 : decode cX6_init 44 = .ok (.putfield 26, 3) := by decide +kernel
theorem dX6_init_47 : decode cX6_init 47 = .ok (.aload_n 0, 1) := by decide +kernel
theorem dX6_init_48 : decode cX6_init 48 = .ok (.bipush 12, 2) := by decide +kernel
theorem dX6_init_50 : decode cX6_init 50 = .ok (.newarray .int, 2) := by decide +kernel
theorem dX6_init_52 : decode cX6_init 52 = .ok (.putfield 29, 3) := by decide +kernel
theorem dX6_init_55 : decode cX6_init 55 = .ok (.aload_n 0, 1) := by decide +kernel
theorem dX6_init_56 : decode cX6_init 56 = .ok (.bipush 12, 2) := by decide +kernel
theorem dX6_init_58 : decode cX6_init 58 = .ok (.newarray .boolean, 2) := by decide +kernel
theorem dX6_init_60 : decode cX6_init 60 = .ok (.putfield 32, 3) := by decide +kernel
theorem dX6_init_63 : decode cX6_init 63 = .ok (.aload_n 0, 1) := by decide +kernel
theorem dX6_init_64 : decode cX6_init 64 = .ok (.iconst 3, 1) := by decide +kernel
theorem dX6_init_65 : decode cX6_init 65 = .ok (.newarray .int, 2) := by decide +kernel
theorem dX6_init_67 : decode cX6_init 67 = .ok (.dup, 1) := by decide +kernel
theorem dX6_init_68 : decode cX6_init 68 = .ok (.iconst 0, 1) := by decide +kernel
theorem dX6_init_69 : decode cX6_init 69 = .ok (.iconst 1, 1) := by decide +kernel
theorem dX6_init_70 : decode cX6_init 70 = .ok (.iastore, 1) := by decide +kernel
theorem dX6_init_71 : decode cX6_init 71 = .ok (.dup, 1) := by decide +kernel
theorem dX6_init_72 : decode cX6_init 72 = .ok (.iconst 1, 1) := by decide +kernel
theorem dX6_init_73 : decode cX6_init 73 = .ok (.iconst 2, 1) := by decide +kernel
theorem dX6_init_74 : decode cX6_init 74 = .ok (.iastore, 1) := by decide +kernel
theorem dX6_init_75 : decode cX6_init 75 = .ok (.dup, 1) := by decide +kernel
theorem dX6_init_76 : decode cX6_init 76 = .ok (.iconst 2, 1) := by decide +kernel
theorem dX6_init_77 : decode cX6_init 77 = .ok (.iconst 5, 1) := by decide +kernel
theorem dX6_init_78 : decode cX6_init 78 = .ok (.iastore, 1) := by decide +kernel
theorem dX6_init_79 : decode cX6_init 79 = .ok (.putfield 36, 3) := by decide +kernel
theorem dX6_init_82 : decode cX6_init 82 = .ok (.aload_n 0, 1) := by decide +kernel
theorem dX6_init_83 : decode cX6_init 83 = .ok (.sipush 360, 3) := by decide +kernel
theorem dX6_init_86 : decode cX6_init 86 = .ok (.newarray .int, 2) := by decide +kernel
theorem dX6_init_88 : decode cX6_init 88 = .ok (.putfield 39, 3) := by decide +kernel
theorem dX6_init_91 : decode cX6_init 91 = .ok (.aload_n 0, 1) := by decide +kernel
theorem dX6_init_92 : decode cX6_init 92 = .ok (.bipush 12, 2) := by decide +kernel
theorem dX6_init_94 : decode cX6_init 94 = .ok (.newarray .int, 2) := by decide +kernel
theorem dX6_init_96 : decode cX6_init 96 = .ok (.putfield 42, 3) := by decide +kernel
theorem dX6_init_99 : decode cX6_init 99 = .ok (.aload_n 0, 1) := by decide +kernel
theorem dX6_init_100 : decode cX6_init 100 = .ok (.bipush 12, 2) := by decide +kernel
theorem dX6_init_102 : decode cX6_init 102 = .ok (.newarray .int, 2) := by decide +kernel
theorem dX6_init_104 : decode cX6_init 104 = .ok (.putfield 45, 3) := by decide +kernel
theorem dX6_init_107 : decode cX6_init 107 = .ok (.aload_n 0, 1) := by decide +kernel
theorem dX6_init_108 : decode cX6_init 108 = .ok (.bipush 12, 2) := by decide +kernel
theorem dX6_init_110 : decode cX6_init 110 = .ok (.newarray .int, 2) := by decide +kernel
theorem dX6_init_112 : decode cX6_init 112 = .ok (.putfield 48, 3) := by decide +kernel
theorem dX6_init_115 : decode cX6_init 115 = .ok (.aload_n 0, 1) := by decide +kernel
theorem dX6_init_116 : decode cX6_init 116 = .ok (.bipush 12, 2) := by decide +kernel
theorem dX6_init_118 : decode cX6_init 118 = .ok (.newarray .int, 2) := by decide +kernel
theorem dX6_init_120 : decode cX6_init 120 = .ok (.putfield 51, 3) := by decide +kernel
theorem dX6_init_123 : decode cX6_init 123 = .ok (.aload_n 0, 1) := by decide +kernel
theorem dX6_init_124 : decode cX6_init 124 = .ok (.bipush 12, 2) := by decide +kernel
theorem dX6_init_126 : decode cX6_init 126 = .ok (.newarray .boolean, 2) := by decide +kernel
theorem dX6_init_128 : decode cX6_init 128 = .ok (.putfield 54, 3) := by decide +kernel
theorem dX6_init_131 : decode cX6_init 131 = .ok (.aload_n 0, 1) := by decide +kernel
theorem dX6_init_132 : decode cX6_init 132 = .ok (.bipush 10, 2) := by decide +kernel
theorem dX6_init_134 : decode cX6_init 134 = .ok (.newarray .int, 2) := by decide +kernel
theorem dX6_init_136 : decode cX6_init 136 = .ok (.putfield 57, 3) := by decide +kernel
theorem dX6_init_139 : decode cX6_init 139 = .ok (.aload_n 0, 1) := by decide +kernel
theorem dX6_init_140 : decode cX6_init 140 = .ok (.bipush 10, 2) := by decide +kernel
theorem dX6_init_142 : decode cX6_init 142 = .ok (.newarray .int, 2) := by decide +kernel
theorem dX6_init_144 : decode cX6_init 144 = .ok (.putfield 60, 3) := by decide +kernel
theorem dX6_init_147 : decode cX6_init 147 = .ok (.aload_n 0, 1) := by decide +kernel
theorem dX6_init_148 : decode cX6_init 148 = .ok (.sipush 490, 3) := by decide +kernel
theorem dX6_init_151 : decode cX6_init 151 = .ok (.newarray .int, 2) := by decide +kernel
theorem dX6_init_153 : decode cX6_init 153 = .ok (.putfield 63, 3) := by decide +kernel
theorem dX6_init_156 : decode cX6_init 156 = .ok (.aload_n 0, 1) := by decide +kernel
theorem dX6_init_157 : decode cX6_init 157 = .ok (.bipush 36, 2) := by decide +kernel
theorem dX6_init_159 : decode cX6_init 159 = .ok (.newarray .int, 2) := by decide +kernel
theorem dX6_init_161 : decode cX6_init 161 = .ok (.putfield 66, 3) := by decide +kernel
theorem dX6_init_164 : decode cX6_init 164 = .ok (.aload_n 0, 1) := by decide +kernel
theorem dX6_init_165 : decode cX6_init 165 = .ok (.bipush 36, 2) := by decide +kernel
theorem dX6_init_167 : decode cX6_init 167 = .ok (.newarray .int, 2) := by decide +kernel
theorem dX6_init_169 : decode cX6_init 169 = .ok (.putfield 69, 3) := by decide +kernel
theorem dX6_init_172 : decode cX6_init 172 = .ok (.return_, 1) := by decide +kernel
theorem dX6_in_0 : decode cX6_in 0 = .ok (.iload_n 0, 1) := by decide +kernel
theorem dX6_in_1 : decode cX6_in 1 = .ok (.iload_n 1, 1) := by decide +kernel
theorem dX6_in_2 : decode cX6_in 2 = .ok (.if_icmp .lt 12, 3) := by decide +kernel
theorem dX6_in_5 : decode cX6_in 5 = .ok (.iload_n 0, 1) := by decide +kernel
theorem dX6_in_6 : decode cX6_in 6 = .ok (.iload_n 2, 1) := by decide +kernel
theorem dX6_in_7 : decode cX6_in 7 = .ok (.if_icmp .gt 7, 3) := by decide +kernel
theorem dX6_in_10 : decode cX6_in 10 = .ok (.iconst 1, 1) := by decide +kernel
theorem dX6_in_11 : decode cX6_in 11 = .ok (.goto 4, 3) := by decide +kernel
theorem dX6_in_14 : decode cX6_in 14 = .ok (.iconst 0, 1) := by decide +kernel
theorem dX6_in_15 : decode cX6_in 15 = .ok (.ireturn, 1) := by decide +kernel
set_option maxRecDepth 20000 in
theorem ggX6_isFrame_X6_in : GoodIn wsX6_isFrame wsX6_in := goodIn_r _ [5] (by decide +kernel) (by decide +kernel)
set_option maxRecDepth 20000 in
theorem gX6_isFrame_X6_in : GoodIn wsX6_isFrame (va_wsS RX6 75 yX6_in wsX6_in) := goodIn_app (goodIn_of _ (by decide +kernel)) ggX6_isFrame_X6_in
theorem dX6_isFrame_0 : decode cX6_isFrame 0 = .ok (.iload_n 1, 1) := by decide +kernel
theorem dX6_isFrame_1 : decode cX6_isFrame 1 = .ok (.iconst 0, 1) := by decide +kernel
theorem dX6_isFrame_2 : decode cX6_isFrame 2 = .ok (.aload_n 0, 1) := by decide +kernel
theorem dX6_isFrame_3 : decode cX6_isFrame 3 = .ok (.getfield 72, 3) := by decide +kernel
theorem dX6_isFrame_6 : decode cX6_isFrame 6 = .ok (.iconst 1, 1) := by decide +kernel
theorem dX6_isFrame_7 : decode cX6_isFrame 7 = .ok (.isub, 1) := by decide +kernel
theorem dX6_isFrame_8 : decode cX6_isFrame 8 = .ok (.invokestatic 75, 3) := by decide +kernel
theorem dX6_isFrame_11 : decode cX6_isFrame 11 = .ok (.ireturn, 1) := by decide +kernel
set_option maxRecDepth 20000 in
theorem ggX6_isSquare_X6_in : GoodIn wsX6_isSquare wsX6_in := goodIn_r _ [6] (by decide +kernel) (by decide +kernel)
set_option maxRecDepth 20000 in
theorem gX6_isSquare_X6_in : GoodIn wsX6_isSquare (va_wsS RX6 75 yX6_in wsX6_in) := goodIn_app (goodIn_of _ (by decide +kernel)) ggX6_isSquare_X6_in
theorem dX6_isSquare_0 : decode cX6_isSquare 0 = .ok (.iload_n 1, 1) := by decide +kernel
theorem dX6_isSquare_1 : decode cX6_isSquare 1 = .ok (.iconst 0, 1) := by decide +kernel
theorem dX6_isSquare_2 : decode cX6_isSquare 2 = .ok (.aload_n 0, 1) := by decide +kernel
theorem dX6_isSquare_3 : decode cX6_isSquare 3 = .ok (.getfield 7, 3) := by decide +kernel
theorem dX6_isSquare_6 : decode cX6_isSquare 6 = .ok (.iconst 1, 1) := by decide +kernel
theorem dX6_isSquare_7 : decode cX6_isSquare 7 = .ok (.isub, 1) := by decide +kernel
theorem dX6_isSquare_8 : decode cX6_isSquare 8 = .ok (.invokestatic 75, 3) := by decide +kernel
theorem dX6_isSquare_11 : decode cX6_isSquare 11 = .ok (.ifCond .eq 21, 3) := by decide +kernel
theorem dX6_isSquare_14 : decode cX6_isSquare 14 = .ok (.iload_n 2, 1) := by decide +kernel
theorem dX6_isSquare_15 : decode cX6_isSquare 15 = .ok (.iconst 0, 1) := by decide +kernel
theorem dX6_isSquare_16 : decode cX6_isSquare 16 = .ok (.aload_n 0, 1) := by decide +kernel
theorem dX6_isSquare_17 : decode cX6_isSquare 17 = .ok (.getfield 13, 3) := by decide +kernel
theorem dX6_isSquare_20 : decode cX6_isSquare 20 = .ok (.iconst 1, 1) := by decide +kernel
theorem dX6_isSquare_21 : decode cX6_isSquare 21 = .ok (.isub, 1) := by decide +kernel
theorem dX6_isSquare_22 : decode cX6_isSquare 22 = .ok (.invokestatic 75, 3) := by decide +kernel
theorem dX6_isSquare_25 : decode cX6_isSquare 25 = .ok (.ifCond .eq 7, 3) := by decide +kernel
theorem dX6_isSquare_28 : decode cX6_isSquare 28 = .ok (.iconst 1, 1) := by decide +kernel
theorem dX6_isSquare_29 : decode cX6_isSquare 29 = .ok (.goto 4, 3) := by decide +kernel
theorem dX6_isSquare_32 : decode cX6_isSquare 32 = .ok (.iconst 0, 1) := by decide +kernel
theorem dX6_isSquare_33 : decode cX6_isSquare 33 = .ok (.ireturn, 1) := by decide +kernel
theorem dX6_at_0 : decode cX6_at 0 = .ok (.bipush 36, 2) := by decide +kernel
theorem dX6_at_2 : decode cX6_at 2 = .ok (.iload_n 1, 1) := by decide +kernel
theorem dX6_at_3 : decode cX6_at 3 = .ok (.imul, 1) := by decide +kernel
theorem dX6_at_4 : decode cX6_at 4 = .ok (.aload_n 0, 1) := by decide +kernel
theorem dX6_at_5 : decode cX6_at 5 = .ok (.getfield 13, 3) := by decide +kernel
theorem dX6_at_8 : decode cX6_at 8 = .ok (.iload_n 2, 1) := by decide +kernel
theorem dX6_at_9 : decode cX6_at 9 = .ok (.imul, 1) := by decide +kernel
theorem dX6_at_10 : decode cX6_at 10 = .ok (.iadd, 1) := by decide +kernel
theorem dX6_at_11 : decode cX6_at 11 = .ok (.iload_n 3, 1) := by decide +kernel
theorem dX6_at_12 : decode cX6_at 12 = .ok (.iadd, 1) := by decide +kernel
theorem dX6_at_13 : decode cX6_at 13 = .ok (.ireturn, 1) := by decide +kernel
set_option maxRecDepth 20000 in
theorem ggX6_reel_X6_in : GoodIn wsX6_reel wsX6_in := goodIn_r _ [8] (by decide +kernel) (by decide +kernel)
set_option maxRecDepth 20000 in
theorem gX6_reel_X6_in : GoodIn wsX6_reel (va_wsS RX6 75 yX6_in wsX6_in) := goodIn_app (goodIn_of _ (by decide +kernel)) ggX6_reel_X6_in
theorem dX6_reel_0 : decode cX6_reel 0 = .ok (.iload_n 1, 1) := by decide +kernel
theorem dX6_reel_1 : decode cX6_reel 1 = .ok (.iconst 2, 1) := by decide +kernel
theorem dX6_reel_2 : decode cX6_reel 2 = .ok (.bipush 6, 2) := by decide +kernel
theorem dX6_reel_4 : decode cX6_reel 4 = .ok (.invokestatic 75, 3) := by decide +kernel
theorem dX6_reel_7 : decode cX6_reel 7 = .ok (.ifCond .eq 13, 3) := by decide +kernel
theorem dX6_reel_10 : decode cX6_reel 10 = .ok (.iload_n 2, 1) := by decide +kernel
theorem dX6_reel_11 : decode cX6_reel 11 = .ok (.iconst 2, 1) := by decide +kernel
theorem dX6_reel_12 : decode cX6_reel 12 = .ok (.bipush 6, 2) := by decide +kernel
theorem dX6_reel_14 : decode cX6_reel 14 = .ok (.invokestatic 75, 3) := by decide +kernel
theorem dX6_reel_17 : decode cX6_reel 17 = .ok (.ifCond .ne 5, 3) := by decide +kernel
theorem dX6_reel_20 : decode cX6_reel 20 = .ok (.iconst (-1), 1) := by decide +kernel
theorem dX6_reel_21 : decode cX6_reel 21 = .ok (.ireturn, 1) := by decide +kernel
theorem dX6_reel_22 : decode cX6_reel 22 = .ok (.aload_n 0, 1) := by decide +kernel
theorem dX6_reel_23 : decode cX6_reel 23 = .ok (.iload_n 1, 1) := by decide +kernel
theorem dX6_reel_24 : decode cX6_reel 24 = .ok (.putfield 7, 3) := by decide +kernel
theorem dX6_reel_27 : decode cX6_reel 27 = .ok (.aload_n 0, 1) := by decide +kernel
theorem dX6_reel_28 : decode cX6_reel 28 = .ok (.iload_n 2, 1) := by decide +kernel
theorem dX6_reel_29 : decode cX6_reel 29 = .ok (.putfield 13, 3) := by decide +kernel
theorem dX6_reel_32 : decode cX6_reel 32 = .ok (.aload_n 0, 1) := by decide +kernel
theorem dX6_reel_33 : decode cX6_reel 33 = .ok (.iconst 0, 1) := by decide +kernel
theorem dX6_reel_34 : decode cX6_reel 34 = .ok (.putfield 72, 3) := by decide +kernel
theorem dX6_reel_37 : decode cX6_reel 37 = .ok (.aload_n 0, 1) := by decide +kernel
theorem dX6_reel_38 : decode cX6_reel 38 = .ok (.iconst 0, 1) := by decide +kernel
theorem dX6_reel_39 : decode cX6_reel 39 = .ok (.putfield 79, 3) := by decide +kernel
theorem dX6_reel_42 : decode cX6_reel 42 = .ok (.iload_n 1, 1) := by decide +kernel
theorem dX6_reel_43 : decode cX6_reel 43 = .ok (.iload_n 2, 1) := by decide +kernel
theorem dX6_reel_44 : decode cX6_reel 44 = .ok (.imul, 1) := by decide +kernel
theorem dX6_reel_45 : decode cX6_reel 45 = .ok (.ireturn, 1) := by decide +kernel
theorem dX6_frame_0 : decode cX6_frame 0 = .ok (.aload_n 0, 1) := by decide +kernel
theorem dX6_frame_1 : decode cX6_frame 1 = .ok (.getfield 72, 3) := by decide +kernel
theorem dX6_frame_4 : decode cX6_frame 4 = .ok (.bipush 10, 2) := by decide +kernel
theorem dX6_frame_6 : decode cX6_frame 6 = .ok (.if_icmp .ne 6, 3) := by decide +kernel
theorem dX6_frame_9 : decode cX6_frame 9 = .ok (.bipush (-2), 2) := by decide +kernel
theorem dX6_frame_11 : decode cX6_frame 11 = .ok (.ireturn, 1) := by decide +kernel
theorem dX6_frame_12 : decode cX6_frame 12 = .ok (.iconst 0, 1) := by decide +kernel
theorem dX6_frame_13 : decode cX6_frame 13 = .ok (.istore_n 1, 1) := by decide +kernel
theorem dX6_frame_14 : decode cX6_frame 14 = .ok (.iload_n 1, 1) := by decide +kernel
theorem dX6_frame_15 : decode cX6_frame 15 = .ok (.bipush 36, 2) := by decide +kernel
theorem dX6_frame_17 : decode cX6_frame 17 = .ok (.if_icmp .ge 24, 3) := by decide +kernel
theorem dX6_frame_20 : decode cX6_frame 20 = .ok (.aload_n 0, 1) := by decide +kernel
theorem dX6_frame_21 : decode cX6_frame 21 = .ok (.getfield 16, 3) := by decide +kernel
theorem dX6_frame_24 : decode cX6_frame 24 = .ok (.bipush 36, 2) := by decide +kernel
theorem dX6_frame_26 : decode cX6_frame 26 = .ok (.aload_n 0, 1) := by decide +kernel
theorem dX6_frame_27 : decode cX6_frame 27 = .ok (.getfield 72, 3) := by decide +kernel
theorem dX6_frame_30 : decode cX6_frame 30 = .ok (.imul, 1) := by decide +kernel
theorem dX6_frame_31 : decode cX6_frame 31 = .ok (.iload_n 1, 1) := by decide +kernel
theorem dX6_frame_32 : decode cX6_frame 32 = .ok (.iadd, 1) := by decide +kernel
theorem dX6_frame_33 : decode cX6_frame 33 = .ok (.iconst (-1), 1) := by decide +kernel
theorem dX6_frame_34 : decode cX6_frame 34 = .ok (.iastore, 1) := by decide +kernel
theorem dX6_frame_35 : decode cX6_frame 35 = .ok (.iinc 1 1, 3) := by decide +kernel
theorem dX6_frame_38 : decode cX6_frame 38 = .ok (.goto (-24), 3) := by decide +kernel
theorem dX6_frame_41 : decode cX6_frame 41 = .ok (.aload_n 0, 1) := by decide +kernel
theorem dX6_frame_42 : decode cX6_frame 42 = .ok (.dup, 1) := by decide +kernel
theorem dX6_frame_43 : decode cX6_frame 43 = .ok (.getfield 72, 3) := by decide +kernel
theorem dX6_frame_46 : decode cX6_frame 46 = .ok (.iconst 1, 1) := by decide +kernel
theorem dX6_frame_47 : decode cX6_frame 47 = .ok (.iadd, 1) := by decide +kernel
theorem dX6_frame_48 : decode cX6_frame 48 = .ok (.putfield 72, 3) := by decide +kernel
theorem dX6_frame_51 : decode cX6_frame 51 = .ok (.aload_n 0, 1) := by decide +kernel
theorem dX6_frame_52 : decode cX6_frame 52 = .ok (.getfield 72, 3) := by decide +kernel
theorem dX6_frame_55 : decode cX6_frame 55 = .ok (.iconst 1, 1) := by decide +kernel
theorem dX6_frame_56 : decode cX6_frame 56 = .ok (.isub, 1) := by decide +kernel
theorem dX6_frame_57 : decode cX6_frame 57 = .ok (.ireturn, 1) := by decide +kernel
set_option maxRecDepth 20000 in
theorem ggX6_again_X6_isFrame : GoodIn wsX6_again wsX6_isFrame := goodIn_r _ [7, 1, 8, 9, 6, 10, 11, 12, 13, 14, 15, 16, 17, 18, 19, 20, 21, 22, 23, 24, 25, 26, 27, 28, 29, 30, 31, 32, 33, 34, 35, 36, 37, 38, 39, 40, 41, 42, 43] (by decide +kernel) (by decide +kernel)
set_option maxRecDepth 20000 in
theorem gX6_again_X6_isFrame : GoodIn wsX6_again (wsV RX6 82 RX6 yX6_isFrame wsX6_isFrame) := goodIn_app (goodIn_of _ (by decide +kernel)) ggX6_again_X6_isFrame
set_option maxRecDepth 20000 in
theorem ggX6_again_X6_in : GoodIn wsX6_again wsX6_in := goodIn_r _ [10] (by decide +kernel) (by decide +kernel)
set_option maxRecDepth 20000 in
theorem gX6_again_X6_in : GoodIn wsX6_again (va_wsS RX6 75 yX6_in wsX6_in) := goodIn_app (goodIn_of _ (by decide +kernel)) ggX6_again_X6_in
theorem dX6_again_0 : decode cX6_again 0 = .ok (.aload_n 0, 1) := by decide +kernel
theorem dX6_again_1 : decode cX6_again 1 = .ok (.iload_n 1, 1) := by decide +kernel
theorem dX6_again_2 : decode cX6_again 2 = .ok (.invokevirtual 82, 3) := by decide +kernel
theorem dX6_again_5 : decode cX6_again 5 = .ok (.ifCond .eq 14, 3) := by decide +kernel
theorem dX6_again_8 : decode cX6_again 8 = .ok (.iload_n 2, 1) := by decide +kernel
theorem dX6_again_9 : decode cX6_again 9 = .ok (.bipush (-63), 2) := by decide +kernel
theorem dX6_again_11 : decode cX6_again 11 = .ok (.bipush 63, 2) := by decide +kernel
theorem dX6_again_13 : decode cX6_again 13 = .ok (.invokestatic 75, 3) := by decide +kernel
theorem dX6_again_16 : decode cX6_again 16 = .ok (.ifCond .ne 5, 3) := by decide +kernel
theorem dX6_again_19 : decode cX6_again 19 = .ok (.iconst (-1), 1) := by decide +kernel
theorem dX6_again_20 : decode cX6_again 20 = .ok (.ireturn, 1) := by decide +kernel
theorem dX6_again_21 : decode cX6_again 21 = .ok (.aload_n 0, 1) := by decide +kernel
theorem dX6_again_22 : decode cX6_again 22 = .ok (.getfield 72, 3) := by decide +kernel
theorem dX6_again_25 : decode cX6_again 25 = .ok (.bipush 10, 2) := by decide +kernel
theorem dX6_again_27 : decode cX6_again 27 = .ok (.if_icmp .ne 6, 3) := by decide +kernel
theorem dX6_again_30 : decode cX6_again 30 = .ok (.bipush (-2), 2) := by decide +kernel
theorem dX6_again_32 : decode cX6_again 32 = .ok (.ireturn, 1) := by decide +kernel
theorem dX6_again_33 : decode cX6_again 33 = .ok (.iconst 0, 1) := by decide +kernel
theorem dX6_again_34 : decode cX6_again 34 = .ok (.istore_n 3, 1) := by decide +kernel
theorem dX6_again_35 : decode cX6_again 35 = .ok (.iload_n 3, 1) := by decide +kernel
theorem dX6_again_36 : decode cX6_again 36 = .ok (.bipush 36, 2) := by decide +kernel
theorem dX6_again_38 : decode cX6_again 38 = .ok (.if_icmp .ge 79, 3) := by decide +kernel
theorem dX6_again_41 : decode cX6_again 41 = .ok (.aload_n 0, 1) := by decide +kernel
theorem dX6_again_42 : decode cX6_again 42 = .ok (.getfield 16, 3) := by decide +kernel
theorem dX6_again_45 : decode cX6_again 45 = .ok (.bipush 36, 2) := by decide +kernel
theorem dX6_again_47 : decode cX6_again 47 = .ok (.iload_n 1, 1) := by decide +kernel
theorem dX6_again_48 : decode cX6_again 48 = .ok (.imul, 1) := by decide +kernel
theorem dX6_again_49 : decode cX6_again 49 = .ok (.iload_n 3, 1) := by decide +kernel
theorem dX6_again_50 : decode cX6_again 50 = .ok (.iadd, 1) := by decide +kernel
theorem dX6_again_51 : decode cX6_again 51 = .ok (.iaload, 1) := by decide +kernel
theorem dX6_again_52 : decode cX6_again 52 = .ok (.istore 4, 2) := by decide +kernel
theorem dX6_again_54 : decode cX6_again 54 = .ok (.iload 4, 2) := by decide +kernel
theorem dX6_again_56 : decode cX6_again 56 = .ok (.iload_n 2, 1) := by decide +kernel
theorem dX6_again_57 : decode cX6_again 57 = .ok (.iadd, 1) := by decide +kernel
theorem dX6_again_58 : decode cX6_again 58 = .ok (.ifCond .ge 7, 3) := by decide +kernel
theorem dX6_again_61 : decode cX6_again 61 = .ok (.iconst 0, 1) := by decide +kernel
theorem dX6_again_62 : decode cX6_again 62 = .ok (.goto 21, 3) := by decide +kernel
theorem dX6_again_65 : decode cX6_again 65 = .ok (.iload 4, 2) := by decide +kernel
theorem dX6_again_67 : decode cX6_again 67 = .ok (.iload_n 2, 1) := by decide +kernel
theorem dX6_again_68 : decode cX6_again 68 = .ok (.iadd, 1) := by decide +kernel
theorem dX6_again_69 : decode cX6_again 69 = .ok (.bipush 63, 2) := by decide +kernel
theorem dX6_again_71 : decode cX6_again 71 = .ok (.if_icmp .le 8, 3) := by decide +kernel
theorem dX6_again_74 : decode cX6_again 74 = .ok (.bipush 63, 2) := by decide +kernel
theorem dX6_again_76 : decode cX6_again 76 = .ok (.goto 7, 3) := by decide +kernel
theorem dX6_again_79 : decode cX6_again 79 = .ok (.iload 4, 2) := by decide +kernel
theorem dX6_again_81 : decode cX6_again 81 = .ok (.iload_n 2, 1) := by decide +kernel
theorem dX6_again_82 : decode cX6_again 82 = .ok (.iadd, 1) := by decide +kernel
theorem dX6_again_83 : decode cX6_again 83 = .ok (.istore 5, 2) := by decide +kernel
theorem dX6_again_85 : decode cX6_again 85 = .ok (.aload_n 0, 1) := by decide +kernel
theorem dX6_again_86 : decode cX6_again 86 = .ok (.getfield 16, 3) := by decide +kernel
theorem dX6_again_89 : decode cX6_again 89 = .ok (.bipush 36, 2) := by decide +kernel
theorem dX6_again_91 : decode cX6_again 91 = .ok (.aload_n 0, 1) := by decide +kernel
theorem dX6_again_92 : decode cX6_again 92 = .ok (.getfield 72, 3) := by decide +kernel
theorem dX6_again_95 : decode cX6_again 95 = .ok (.imul, 1) := by decide +kernel
theorem dX6_again_96 : decode cX6_again 96 = .ok (.iload_n 3, 1) := by decide +kernel
theorem dX6_again_97 : decode cX6_again 97 = .ok (.iadd, 1) := by decide +kernel
theorem dX6_again_98 : decode cX6_again 98 = .ok (.iload 4, 2) := by decide +kernel
theorem dX6_again_100 : decode cX6_again 100 = .ok (.iconst (-1), 1) := by decide +kernel
theorem dX6_again_101 : decode cX6_again 101 = .ok (.if_icmp .ne 7, 3) := by decide +kernel
theorem dX6_again_104 : decode cX6_again 104 = .ok (.iconst (-1), 1) := by decide +kernel
theorem dX6_again_105 : decode cX6_again 105 = .ok (.goto 5, 3) := by decide +kernel
theorem dX6_again_108 : decode cX6_again 108 = .ok (.iload 5, 2) := by decide +kernel
theorem dX6_again_110 : decode cX6_again 110 = .ok (.iastore, 1) := by decide +kernel
theorem dX6_again_111 : decode cX6_again 111 = .ok (.iinc 3 1, 3) := by decide +kernel
theorem dX6_again_114 : decode cX6_again 114 = .ok (.goto (-79), 3) := by decide +kernel
theorem dX6_again_117 : decode cX6_again 117 = .ok (.aload_n 0, 1) := by decide +kernel
theorem dX6_again_118 : decode cX6_again 118 = .ok (.dup, 1) := by decide +kernel
theorem dX6_again_119 : decode cX6_again 119 = .ok (.getfield 72, 3) := by decide +kernel
theorem dX6_again_122 : decode cX6_again 122 = .ok (.iconst 1, 1) := by decide +kernel
theorem dX6_again_123 : decode cX6_again 123 = .ok (.iadd, 1) := by decide +kernel
theorem dX6_again_124 : decode cX6_again 124 = .ok (.putfield 72, 3) := by decide +kernel
theorem dX6_again_127 : decode cX6_again 127 = .ok (.aload_n 0, 1) := by decide +kernel
theorem dX6_again_128 : decode cX6_again 128 = .ok (.getfield 72, 3) := by decide +kernel
theorem dX6_again_131 : decode cX6_again 131 = .ok (.iconst 1, 1) := by decide +kernel
theorem dX6_again_132 : decode cX6_again 132 = .ok (.isub, 1) := by decide +kernel
theorem dX6_again_133 : decode cX6_again 133 = .ok (.ireturn, 1) := by decide +kernel
set_option maxRecDepth 20000 in
theorem ggX6_put_X6_isFrame : GoodIn wsX6_put wsX6_isFrame := goodIn_r _ [6, 7, 8, 9, 5, 10, 21, 22, 23, 24, 25, 26, 27, 28, 29, 30, 31, 32, 33, 34, 35, 36, 37, 38, 39, 40, 41, 42, 43, 44, 45, 46, 47, 48, 49, 50, 51, 52, 53] (by decide +kernel) (by decide +kernel)
set_option maxRecDepth 20000 in
theorem gX6_put_X6_isFrame : GoodIn wsX6_put (wsV RX6 82 RX6 yX6_isFrame wsX6_isFrame) := goodIn_app (goodIn_of _ (by decide +kernel)) ggX6_put_X6_isFrame
set_option maxRecDepth 20000 in
theorem ggX6_put_X6_isSquare : GoodIn wsX6_put wsX6_isSquare := goodIn_r _ [14, 15, 16, 8, 9, 5, 10, 21, 22, 23, 24, 25, 26, 27, 28, 29, 30, 31, 32, 33, 34, 35, 36, 37, 38, 39, 40, 41, 42, 43, 44, 45, 46, 47, 48, 49, 50, 51, 52, 53] (by decide +kernel) (by decide +kernel)
set_option maxRecDepth 20000 in
theorem gX6_put_X6_isSquare : GoodIn wsX6_put (wsV RX6 86 RX6 yX6_isSquare wsX6_isSquare) := goodIn_app (goodIn_of _ (by decide +kernel)) ggX6_put_X6_isSquare
set_option maxRecDepth 20000 in
theorem ggX6_put_X6_in : GoodIn wsX6_put wsX6_in := goodIn_r _ [10] (by decide +kernel) (by decide +kernel)
set_option maxRecDepth 20000 in
theorem gX6_put_X6_in : GoodIn wsX6_put (va_wsS RX6 75 yX6_in wsX6_in) := goodIn_app (goodIn_of _ (by decide +kernel)) ggX6_put_X6_in
set_option maxRecDepth 20000 in
theorem ggX6_put_X6_at : GoodIn wsX6_put wsX6_at := goodIn_r _ [20, 16, 21, 22, 23, 24, 25, 26, 27, 28, 29, 30, 31, 32, 33, 34, 35, 36, 37, 38, 39, 40, 41, 42, 43, 44, 45, 46, 47, 48, 49, 50, 51, 52, 53] (by decide +kernel) (by decide +kernel)
set_option maxRecDepth 20000 in
theorem gX6_put_X6_at : GoodIn wsX6_put (wsV RX6 90 RX6 yX6_at wsX6_at) := goodIn_app (goodIn_of _ (by decide +kernel)) ggX6_put_X6_at
theorem dX6_put_0 : decode cX6_put 0 = .ok (.aload_n 0, 1) := by decide +kernel
theorem dX6_put_1 : decode cX6_put 1 = .ok (.iload_n 1, 1) := by decide +kernel
theorem dX6_put_2 : decode cX6_put 2 = .ok (.invokevirtual 82, 3) := by decide +kernel
theorem dX6_put_5 : decode cX6_put 5 = .ok (.ifCond .eq 23, 3) := by decide +kernel
theorem dX6_put_8 : decode cX6_put 8 = .ok (.aload_n 0, 1) := by decide +kernel
theorem dX6_put_9 : decode cX6_put 9 = .ok (.iload_n 2, 1) := by decide +kernel
theorem dX6_put_10 : decode cX6_put 10 = .ok (.iload_n 3, 1) := by decide +kernel
theorem dX6_put_11 : decode cX6_put 11 = .ok (.invokevirtual 86, 3) := by decide +kernel
theorem dX6_put_14 : decode cX6_put 14 = .ok (.ifCond .eq 14, 3) := by decide +kernel
theorem dX6_put_17 : decode cX6_put 17 = .ok (.iload 4, 2) := by decide +kernel
theorem dX6_put_19 : decode cX6_put 19 = .ok (.iconst (-1), 1) := by decide +kernel
theorem dX6_put_20 : decode cX6_put 20 = .ok (.bipush 63, 2) := by decide +kernel
theorem dX6_put_22 : decode cX6_put 22 = .ok (.invokestatic 75, 3) := by decide +kernel
theorem dX6_put_25 : decode cX6_put 25 = .ok (.ifCond .ne 7, 3) := by decide +kernel
theorem dX6_put_28 : decode cX6_put 28 = .ok (.sipush (-1000), 3) := by decide +kernel
theorem dX6_put_31 : decode cX6_put 31 = .ok (.ireturn, 1) := by decide +kernel
theorem dX6_put_32 : decode cX6_put 32 = .ok (.aload_n 0, 1) := by decide +kernel
theorem dX6_put_33 : decode cX6_put 33 = .ok (.getfield 16, 3) := by decide +kernel
theorem dX6_put_36 : decode cX6_put 36 = .ok (.aload_n 0, 1) := by decide +kernel
theorem dX6_put_37 : decode cX6_put 37 = .ok (.iload_n 1, 1) := by decide +kernel
theorem dX6_put_38 : decode cX6_put 38 = .ok (.iload_n 2, 1) := by decide +kernel
theorem dX6_put_39 : decode cX6_put 39 = .ok (.iload_n 3, 1) := by decide +kernel
theorem dX6_put_40 : decode cX6_put 40 = .ok (.invokevirtual 90, 3) := by decide +kernel
theorem dX6_put_43 : decode cX6_put 43 = .ok (.iaload, 1) := by decide +kernel
theorem dX6_put_44 : decode cX6_put 44 = .ok (.istore 5, 2) := by decide +kernel
theorem dX6_put_46 : decode cX6_put 46 = .ok (.aload_n 0, 1) := by decide +kernel
theorem dX6_put_47 : decode cX6_put 47 = .ok (.getfield 16, 3) := by decide +kernel
theorem dX6_put_50 : decode cX6_put 50 = .ok (.aload_n 0, 1) := by decide +kernel
theorem dX6_put_51 : decode cX6_put 51 = .ok (.iload_n 1, 1) := by decide +kernel
theorem dX6_put_52 : decode cX6_put 52 = .ok (.iload_n 2, 1) := by decide +kernel
theorem dX6_put_53 : decode cX6_put 53 = .ok (.iload_n 3, 1) := by decide +kernel
theorem dX6_put_54 : decode cX6_put 54 = .ok (.invokevirtual 90, 3) := by decide +kernel
theorem dX6_put_57 : decode cX6_put 57 = .ok (.iload 4, 2) := by decide +kernel
theorem dX6_put_59 : decode cX6_put 59 = .ok (.iastore, 1) := by decide +kernel
theorem dX6_put_60 : decode cX6_put 60 = .ok (.iload 5, 2) := by decide +kernel
theorem dX6_put_62 : decode cX6_put 62 = .ok (.ireturn, 1) := by decide +kernel
set_option maxRecDepth 20000 in
theorem ggX6_row_X6_isFrame : GoodIn wsX6_row wsX6_isFrame := goodIn_r _ [9, 10, 11, 12, 8, 13, 18, 19, 20, 21, 22, 23, 24, 25, 26, 27, 28, 29, 30, 31, 32, 33, 34, 35, 36, 37, 38, 39, 40, 41, 42, 43, 44, 45, 46, 47, 48, 49, 50] (by decide +kernel) (by decide +kernel)
set_option maxRecDepth 20000 in
theorem gX6_row_X6_isFrame : GoodIn wsX6_row (wsV RX6 82 RX6 yX6_isFrame wsX6_isFrame) := goodIn_app (goodIn_of _ (by decide +kernel)) ggX6_row_X6_isFrame
set_option maxRecDepth 20000 in
theorem ggX6_row_X6_in : GoodIn wsX6_row wsX6_in := goodIn_r _ [13] (by decide +kernel) (by decide +kernel)
set_option maxRecDepth 20000 in
theorem gX6_row_X6_in : GoodIn wsX6_row (va_wsS RX6 75 yX6_in wsX6_in) := goodIn_app (goodIn_of _ (by decide +kernel)) ggX6_row_X6_in
set_option maxRecDepth 20000 in
theorem ggX6_row_X6_at : GoodIn wsX6_row wsX6_at := goodIn_r _ [17, 2, 18, 19, 20, 21, 22, 23, 24, 25, 26, 27, 28, 29, 30, 31, 32, 33, 34, 35, 36, 37, 38, 39, 40, 41, 42, 43, 44, 45, 46, 47, 48, 49, 50] (by decide +kernel) (by decide +kernel)
set_option maxRecDepth 20000 in
theorem gX6_row_X6_at : GoodIn wsX6_row (wsV RX6 90 RX6 yX6_at wsX6_at) := goodIn_app (goodIn_of _ (by decide +kernel)) ggX6_row_X6_at
theorem dX6_row_0 : decode cX6_row 0 = .ok (.aload_n 0, 1) := by decide +kernel
theorem dX6_row_1 : decode cX6_row 1 = .ok (.iload_n 1, 1) := by decide +kernel
theorem dX6_row_2 : decode cX6_row 2 = .ok (.invokevirtual 82, 3) := by decide +kernel
theorem dX6_row_5 : decode cX6_row 5 = .ok (.ifCond .eq 17, 3) := by decide +kernel
theorem dX6_row_8 : decode cX6_row 8 = .ok (.iload_n 2, 1) := by decide +kernel
theorem dX6_row_9 : decode cX6_row 9 = .ok (.iconst 0, 1) := by decide +kernel
theorem dX6_row_10 : decode cX6_row 10 = .ok (.aload_n 0, 1) := by decide +kernel
theorem dX6_row_11 : decode cX6_row 11 = .ok (.getfield 7, 3) := by decide +kernel
theorem dX6_row_14 : decode cX6_row 14 = .ok (.iconst 1, 1) := by decide +kernel
theorem dX6_row_15 : decode cX6_row 15 = .ok (.isub, 1) := by decide +kernel
theorem dX6_row_16 : decode cX6_row 16 = .ok (.invokestatic 75, 3) := by decide +kernel
theorem dX6_row_19 : decode cX6_row 19 = .ok (.ifCond .ne 5, 3) := by decide +kernel
theorem dX6_row_22 : decode cX6_row 22 = .ok (.iconst (-1), 1) := by decide +kernel
theorem dX6_row_23 : decode cX6_row 23 = .ok (.ireturn, 1) := by decide +kernel
theorem dX6_row_24 : decode cX6_row 24 = .ok (.iconst 0, 1) := by decide +kernel
theorem dX6_row_25 : decode cX6_row 25 = .ok (.istore 5, 2) := by decide +kernel
theorem dX6_row_27 : decode cX6_row 27 = .ok (.iconst 0, 1) := by decide +kernel
theorem dX6_row_28 : decode cX6_row 28 = .ok (.istore 6, 2) := by decide +kernel
theorem dX6_row_30 : decode cX6_row 30 = .ok (.iload 6, 2) := by decide +kernel
theorem dX6_row_32 : decode cX6_row 32 = .ok (.aload_n 0, 1) := by decide +kernel
theorem dX6_row_33 : decode cX6_row 33 = .ok (.getfield 13, 3) := by decide +kernel
theorem dX6_row_36 : decode cX6_row 36 = .ok (.if_icmp .ge 66, 3) := by decide +kernel
theorem dX6_row_39 : decode cX6_row 39 = .ok (.lload_n 3, 1) := by decide +kernel
theorem dX6_row_40 : decode cX6_row 40 = .ok (.bipush 7, 2) := by decide +kernel
theorem dX6_row_42 : decode cX6_row 42 = .ok (.iload 6, 2) := by decide +kernel
theorem dX6_row_44 : decode cX6_row 44 = .ok (.imul, 1) := by decide +kernel
theorem dX6_row_45 : decode cX6_row 45 = .ok (.lshr, 1) := by decide +kernel
theorem dX6_row_46 : decode cX6_row 46 = .ok (.ldc2_w 94, 3) := by decide +kernel
theorem dX6_row_49 : decode cX6_row 49 = .ok (.land, 1) := by decide +kernel
theorem dX6_row_50 : decode cX6_row 50 = .ok (.l2i, 1) := by decide +kernel
theorem dX6_row_51 : decode cX6_row 51 = .ok (.istore 7, 2) := by decide +kernel
theorem dX6_row_53 : decode cX6_row 53 = .ok (.aload_n 0, 1) := by decide +kernel
theorem dX6_row_54 : decode cX6_row 54 = .ok (.getfield 16, 3) := by decide +kernel
theorem dX6_row_57 : decode cX6_row 57 = .ok (.aload_n 0, 1) := by decide +kernel
theorem dX6_row_58 : decode cX6_row 58 = .ok (.iload_n 1, 1) := by decide +kernel
theorem dX6_row_59 : decode cX6_row 59 = .ok (.iload_n 2, 1) := by decide +kernel
theorem dX6_row_60 : decode cX6_row 60 = .ok (.iload 6, 2) := by decide +kernel
theorem dX6_row_62 : decode cX6_row 62 = .ok (.invokevirtual 90, 3) := by decide +kernel
theorem dX6_row_65 : decode cX6_row 65 = .ok (.iload 7, 2) := by decide +kernel
theorem dX6_row_67 : decode cX6_row 67 = .ok (.bipush 64, 2) := by decide +kernel
theorem dX6_row_69 : decode cX6_row 69 = .ok (.if_icmp .ge 8, 3) := by decide +kernel
theorem dX6_row_72 : decode cX6_row 72 = .ok (.iload 7, 2) := by decide +kernel
theorem dX6_row_74 : decode cX6_row 74 = .ok (.goto 4, 3) := by decide +kernel
theorem dX6_row_77 : decode cX6_row 77 = .ok (.iconst (-1), 1) := by decide +kernel
theorem dX6_row_78 : decode cX6_row 78 = .ok (.iastore, 1) := by decide +kernel
theorem dX6_row_79 : decode cX6_row 79 = .ok (.iload 5, 2) := by decide +kernel
theorem dX6_row_81 : decode cX6_row 81 = .ok (.iload 7, 2) := by decide +kernel
theorem dX6_row_83 : decode cX6_row 83 = .ok (.bipush 64, 2) := by decide +kernel
theorem dX6_row_85 : decode cX6_row 85 = .ok (.if_icmp .ge 7, 3) := by decide +kernel
theorem dX6_row_88 : decode cX6_row 88 = .ok (.iconst 1, 1) := by decide +kernel
theorem dX6_row_89 : decode cX6_row 89 = .ok (.goto 4, 3) := by decide +kernel
theorem dX6_row_92 : decode cX6_row 92 = .ok (.iconst 0, 1) := by decide +kernel
theorem dX6_row_93 : decode cX6_row 93 = .ok (.iadd, 1) := by decide +kernel
theorem dX6_row_94 : decode cX6_row 94 = .ok (.istore 5, 2) := by decide +kernel
theorem dX6_row_96 : decode cX6_row 96 = .ok (.iinc 6 1, 3) := by decide +kernel
theorem dX6_row_99 : decode cX6_row 99 = .ok (.goto (-69), 3) := by decide +kernel
theorem dX6_row_102 : decode cX6_row 102 = .ok (.iload 5, 2) := by decide +kernel
theorem dX6_row_104 : decode cX6_row 104 = .ok (.ireturn, 1) := by decide +kernel
set_option maxRecDepth 20000 in
theorem ggX6_raw_X6_isFrame : GoodIn wsX6_raw wsX6_isFrame := goodIn_r _ [6, 7, 8, 9, 5, 10, 21, 22, 23, 24, 25, 26, 27, 28, 29, 30, 31, 32, 33, 34, 35, 36, 37, 38, 39, 40, 41, 42, 43, 44, 45, 46, 47, 48, 49, 50, 51, 52, 53] (by decide +kernel) (by decide +kernel)
set_option maxRecDepth 20000 in
theorem gX6_raw_X6_isFrame : GoodIn wsX6_raw (wsV RX6 82 RX6 yX6_isFrame wsX6_isFrame) := goodIn_app (goodIn_of _ (by decide +kernel)) ggX6_raw_X6_isFrame
set_option maxRecDepth 20000 in
theorem ggX6_raw_X6_isSquare : GoodIn wsX6_raw wsX6_isSquare := goodIn_r _ [14, 15, 16, 8, 9, 5, 10, 21, 22, 23, 24, 25, 26, 27, 28, 29, 30, 31, 32, 33, 34, 35, 36, 37, 38, 39, 40, 41, 42, 43, 44, 45, 46, 47, 48, 49, 50, 51, 52, 53] (by decide +kernel) (by decide +kernel)
set_option maxRecDepth 20000 in
theorem gX6_raw_X6_isSquare : GoodIn wsX6_raw (wsV RX6 86 RX6 yX6_isSquare wsX6_isSquare) := goodIn_app (goodIn_of _ (by decide +kernel)) ggX6_raw_X6_isSquare
set_option maxRecDepth 20000 in
theorem ggX6_raw_X6_at : GoodIn wsX6_raw wsX6_at := goodIn_r _ [20, 16, 21, 22, 23, 24, 25, 26, 27, 28, 29, 30, 31, 32, 33, 34, 35, 36, 37, 38, 39, 40, 41, 42, 43, 44, 45, 46, 47, 48, 49, 50, 51, 52, 53] (by decide +kernel) (by decide +kernel)
set_option maxRecDepth 20000 in
theorem gX6_raw_X6_at : GoodIn wsX6_raw (wsV RX6 90 RX6 yX6_at wsX6_at) := goodIn_app (goodIn_of _ (by decide +kernel)) ggX6_raw_X6_at
theorem dX6_raw_0 : decode cX6_raw 0 = .ok (.aload_n 0, 1) := by decide +kernel
theorem dX6_raw_1 : decode cX6_raw 1 = .ok (.iload_n 1, 1) := by decide +kernel
theorem dX6_raw_2 : decode cX6_raw 2 = .ok (.invokevirtual 82, 3) := by decide +kernel
theorem dX6_raw_5 : decode cX6_raw 5 = .ok (.ifCond .eq 27, 3) := by decide +kernel
theorem dX6_raw_8 : decode cX6_raw 8 = .ok (.aload_n 0, 1) := by decide +kernel
theorem dX6_raw_9 : decode cX6_raw 9 = .ok (.iload_n 2, 1) := by decide +kernel
theorem dX6_raw_10 : decode cX6_raw 10 = .ok (.iload_n 3, 1) := by decide +kernel
theorem dX6_raw_11 : decode cX6_raw 11 = .ok (.invokevirtual 86, 3) := by decide +kernel
theorem dX6_raw_14 : decode cX6_raw 14 = .ok (.ifCond .eq 18, 3) := by decide +kernel
theorem dX6_raw_17 : decode cX6_raw 17 = .ok (.aload_n 0, 1) := by decide +kernel
theorem dX6_raw_18 : decode cX6_raw 18 = .ok (.getfield 16, 3) := by decide +kernel
theorem dX6_raw_21 : decode cX6_raw 21 = .ok (.aload_n 0, 1) := by decide +kernel
theorem dX6_raw_22 : decode cX6_raw 22 = .ok (.iload_n 1, 1) := by decide +kernel
theorem dX6_raw_23 : decode cX6_raw 23 = .ok (.iload_n 2, 1) := by decide +kernel
theorem dX6_raw_24 : decode cX6_raw 24 = .ok (.iload_n 3, 1) := by decide +kernel
theorem dX6_raw_25 : decode cX6_raw 25 = .ok (.invokevirtual 90, 3) := by decide +kernel
theorem dX6_raw_28 : decode cX6_raw 28 = .ok (.iaload, 1) := by decide +kernel
theorem dX6_raw_29 : decode cX6_raw 29 = .ok (.goto 6, 3) := by decide +kernel
theorem dX6_raw_32 : decode cX6_raw 32 = .ok (.sipush (-1000), 3) := by decide +kernel
theorem dX6_raw_35 : decode cX6_raw 35 = .ok (.ireturn, 1) := by decide +kernel
set_option maxRecDepth 20000 in
theorem ggX6_rule_X6_in : GoodIn wsX6_rule wsX6_in := goodIn_r _ [5] (by decide +kernel) (by decide +kernel)
set_option maxRecDepth 20000 in
theorem gX6_rule_X6_in : GoodIn wsX6_rule (va_wsS RX6 75 yX6_in wsX6_in) := goodIn_app (goodIn_of _ (by decide +kernel)) ggX6_rule_X6_in
theorem dX6_rule_0 : decode cX6_rule 0 = .ok (.iload_n 1, 1) := by decide +kernel
theorem dX6_rule_1 : decode cX6_rule 1 = .ok (.iconst 0, 1) := by decide +kernel
theorem dX6_rule_2 : decode cX6_rule 2 = .ok (.iconst 2, 1) := by decide +kernel
theorem dX6_rule_3 : decode cX6_rule 3 = .ok (.invokestatic 75, 3) := by decide +kernel
theorem dX6_rule_6 : decode cX6_rule 6 = .ok (.ifCond .eq 40, 3) := by decide +kernel
theorem dX6_rule_9 : decode cX6_rule 9 = .ok (.iload_n 2, 1) := by decide +kernel
theorem dX6_rule_10 : decode cX6_rule 10 = .ok (.iload_n 1, 1) := by decide +kernel
theorem dX6_rule_11 : decode cX6_rule 11 = .ok (.iconst 2, 1) := by decide +kernel
theorem dX6_rule_12 : decode cX6_rule 12 = .ok (.if_icmp .ne 7, 3) := by decide +kernel
theorem dX6_rule_15 : decode cX6_rule 15 = .ok (.iconst 1, 1) := by decide +kernel
theorem dX6_rule_16 : decode cX6_rule 16 = .ok (.goto 4, 3) := by decide +kernel
theorem dX6_rule_19 : decode cX6_rule 19 = .ok (.iconst 0, 1) := by decide +kernel
theorem dX6_rule_20 : decode cX6_rule 20 = .ok (.iload_n 1, 1) := by decide +kernel
theorem dX6_rule_21 : decode cX6_rule 21 = .ok (.ifCond .ne 7, 3) := by decide +kernel
theorem dX6_rule_24 : decode cX6_rule 24 = .ok (.iconst 3, 1) := by decide +kernel
theorem dX6_rule_25 : decode cX6_rule 25 = .ok (.goto 15, 3) := by decide +kernel
theorem dX6_rule_28 : decode cX6_rule 28 = .ok (.iload_n 1, 1) := by decide +kernel
theorem dX6_rule_29 : decode cX6_rule 29 = .ok (.iconst 1, 1) := by decide +kernel
theorem dX6_rule_30 : decode cX6_rule 30 = .ok (.if_icmp .ne 8, 3) := by decide +kernel
theorem dX6_rule_33 : decode cX6_rule 33 = .ok (.bipush 10, 2) := by decide +kernel
theorem dX6_rule_35 : decode cX6_rule 35 = .ok (.goto 5, 3) := by decide +kernel
theorem dX6_rule_38 : decode cX6_rule 38 = .ok (.bipush 63, 2) := by decide +kernel
theorem dX6_rule_40 : decode cX6_rule 40 = .ok (.invokestatic 75, 3) := by decide +kernel
theorem dX6_rule_43 : decode cX6_rule 43 = .ok (.ifCond .ne 5, 3) := by decide +kernel
theorem dX6_rule_46 : decode cX6_rule 46 = .ok (.iconst (-1), 1) := by decide +kernel
theorem dX6_rule_47 : decode cX6_rule 47 = .ok (.ireturn, 1) := by decide +kernel
theorem dX6_rule_48 : decode cX6_rule 48 = .ok (.aload_n 0, 1) := by decide +kernel
theorem dX6_rule_49 : decode cX6_rule 49 = .ok (.getfield 36, 3) := by decide +kernel
theorem dX6_rule_52 : decode cX6_rule 52 = .ok (.iload_n 1, 1) := by decide +kernel
theorem dX6_rule_53 : decode cX6_rule 53 = .ok (.iaload, 1) := by decide +kernel
theorem dX6_rule_54 : decode cX6_rule 54 = .ok (.istore_n 3, 1) := by decide +kernel
theorem dX6_rule_55 : decode cX6_rule 55 = .ok (.aload_n 0, 1) := by decide +kernel
theorem dX6_rule_56 : decode cX6_rule 56 = .ok (.getfield 36, 3) := by decide +kernel
theorem dX6_rule_59 : decode cX6_rule 59 = .ok (.iload_n 1, 1) := by decide +kernel
theorem dX6_rule_60 : decode cX6_rule 60 = .ok (.iload_n 2, 1) := by decide +kernel
theorem dX6_rule_61 : decode cX6_rule 61 = .ok (.iastore, 1) := by decide +kernel
theorem dX6_rule_62 : decode cX6_rule 62 = .ok (.iload_n 3, 1) := by decide +kernel
theorem dX6_rule_63 : decode cX6_rule 63 = .ok (.ireturn, 1) := by decide +kernel
set_option maxRecDepth 20000 in
theorem ggX6_findMiss_X6_isSquare : GoodIn wsX6_findMiss wsX6_isSquare := goodIn_r _ [10, 3, 4, 11, 12, 9, 13, 18, 19, 20, 21, 22, 23, 24, 25, 26, 27, 28, 29, 30, 31, 32, 33, 34, 35, 36, 37, 38, 39, 40, 41, 42, 43, 44, 45, 46, 47, 48, 49, 50] (by decide +kernel) (by decide +kernel)
set_option maxRecDepth 20000 in
theorem gX6_findMiss_X6_isSquare : GoodIn wsX6_findMiss (wsV RX6 86 RX6 yX6_isSquare wsX6_isSquare) := goodIn_app (goodIn_of _ (by decide +kernel)) ggX6_findMiss_X6_isSquare
set_option maxRecDepth 20000 in
theorem ggX6_findMiss_X6_at : GoodIn wsX6_findMiss wsX6_at := goodIn_r _ [17, 4, 18, 19, 20, 21, 22, 23, 24, 25, 26, 27, 28, 29, 30, 31, 32, 33, 34, 35, 36, 37, 38, 39, 40, 41, 42, 43, 44, 45, 46, 47, 48, 49, 50] (by decide +kernel) (by decide +kernel)
set_option maxRecDepth 20000 in
theorem gX6_findMiss_X6_at : GoodIn wsX6_findMiss (wsV RX6 90 RX6 yX6_at wsX6_at) := goodIn_app (goodIn_of _ (by decide +kernel)) ggX6_findMiss_X6_at
theorem dX6_findMiss_0 : decode cX6_findMiss 0 = .ok (.aload_n 0, 1) := by decide +kernel
theorem dX6_findMiss_1 : decode cX6_findMiss 1 = .ok (.iconst 0, 1) := by decide +kernel
theorem dX6_findMiss_2 : decode cX6_findMiss 2 = .ok (.putfield 96, 3) := by decide +kernel
theorem dX6_findMiss_5 : decode cX6_findMiss 5 = .ok (.aload_n 0, 1) := by decide +kernel
theorem dX6_findMiss_6 : decode cX6_findMiss 6 = .ok (.iconst 0, 1) := by decide +kernel
theorem dX6_findMiss_7 : decode cX6_findMiss 7 = .ok (.putfield 99, 3) := by decide +kernel
theorem dX6_findMiss_10 : decode cX6_findMiss 10 = .ok (.iconst 0, 1) := by decide +kernel
theorem dX6_findMiss_11 : decode cX6_findMiss 11 = .ok (.istore 4, 2) := by decide +kernel
theorem dX6_findMiss_13 : decode cX6_findMiss 13 = .ok (.iload 4, 2) := by decide +kernel
theorem dX6_findMiss_15 : decode cX6_findMiss 15 = .ok (.aload_n 0, 1) := by decide +kernel
theorem dX6_findMiss_16 : decode cX6_findMiss 16 = .ok (.getfield 7, 3) := by decide +kernel
theorem dX6_findMiss_19 : decode cX6_findMiss 19 = .ok (.if_icmp .ge 137, 3) := by decide +kernel
theorem dX6_findMiss_22 : decode cX6_findMiss 22 = .ok (.iconst 0, 1) := by decide +kernel
theorem dX6_findMiss_23 : decode cX6_findMiss 23 = .ok (.istore 5, 2) := by decide +kernel
theorem dX6_findMiss_25 : decode cX6_findMiss 25 = .ok (.iload 5, 2) := by decide +kernel
theorem dX6_findMiss_27 : decode cX6_findMiss 27 = .ok (.aload_n 0, 1) := by decide +kernel
theorem dX6_findMiss_28 : decode cX6_findMiss 28 = .ok (.getfield 13, 3) := by decide +kernel
theorem dX6_findMiss_31 : decode cX6_findMiss 31 = .ok (.if_icmp .ge 119, 3) := by decide +kernel
theorem dX6_findMiss_34 : decode cX6_findMiss 34 = .ok (.aload_n 0, 1) := by decide +kernel
theorem dX6_findMiss_35 : decode cX6_findMiss 35 = .ok (.iload 4, 2) := by decide +kernel
theorem dX6_findMiss_37 : decode cX6_findMiss 37 = .ok (.iload_n 3, 1) := by decide +kernel
theorem dX6_findMiss_38 : decode cX6_findMiss 38 = .ok (.iadd, 1) := by decide +kernel
theorem dX6_findMiss_39 : decode cX6_findMiss 39 = .ok (.iload 5, 2) := by decide +kernel
theorem dX6_findMiss_41 : decode cX6_findMiss 41 = .ok (.iload_n 2, 1) := by decide +kernel
theorem dX6_findMiss_42 : decode cX6_findMiss 42 = .ok (.iadd, 1) := by decide +kernel
theorem dX6_findMiss_43 : decode cX6_findMiss 43 = .ok (.invokevirtual 86, 3) := by decide +kernel
theorem dX6_findMiss_46 : decode cX6_findMiss 46 = .ok (.ifCond .ne 6, 3) := by decide +kernel
theorem dX6_findMiss_49 : decode cX6_findMiss 49 = .ok (.goto 95, 3) := by decide +kernel
theorem dX6_findMiss_52 : decode cX6_findMiss 52 = .ok (.aload_n 0, 1) := by decide +kernel
theorem dX6_findMiss_53 : decode cX6_findMiss 53 = .ok (.getfield 16, 3) := by decide +kernel
theorem dX6_findMiss_56 : decode cX6_findMiss 56 = .ok (.aload_n 0, 1) := by decide +kernel
theorem dX6_findMiss_57 : decode cX6_findMiss 57 = .ok (.iload_n 1, 1) := by decide +kernel
theorem dX6_findMiss_58 : decode cX6_findMiss 58 = .ok (.iconst 1, 1) := by decide +kernel
theorem dX6_findMiss_59 : decode cX6_findMiss 59 = .ok (.isub, 1) := by decide +kernel
theorem dX6_findMiss_60 : decode cX6_findMiss 60 = .ok (.iload 4, 2) := by decide +kernel
theorem dX6_findMiss_62 : decode cX6_findMiss 62 = .ok (.iload 5, 2) := by decide +kernel
theorem dX6_findMiss_64 : decode cX6_findMiss 64 = .ok (.invokevirtual 90, 3) := by decide +kernel
theorem dX6_findMiss_67 : decode cX6_findMiss 67 = .ok (.iaload, 1) := by decide +kernel
theorem dX6_findMiss_68 : decode cX6_findMiss 68 = .ok (.istore 6, 2) := by decide +kernel
theorem dX6_findMiss_70 : decode cX6_findMiss 70 = .ok (.aload_n 0, 1) := by decide +kernel
theorem dX6_findMiss_71 : decode cX6_findMiss 71 = .ok (.getfield 16, 3) := by decide +kernel
theorem dX6_findMiss_74 : decode cX6_findMiss 74 = .ok (.aload_n 0, 1) := by decide +kernel
theorem dX6_findMiss_75 : decode cX6_findMiss 75 = .ok (.iload_n 1, 1) := by decide +kernel
theorem dX6_findMiss_76 : decode cX6_findMiss 76 = .ok (.iload 4, 2) := by decide +kernel
theorem dX6_findMiss_78 : decode cX6_findMiss 78 = .ok (.iload_n 3, 1) := by decide +kernel
theorem dX6_findMiss_79 : decode cX6_findMiss 79 = .ok (.iadd, 1) := by decide +kernel
theorem dX6_findMiss_80 : decode cX6_findMiss 80 = .ok (.iload 5, 2) := by decide +kernel
theorem dX6_findMiss_82 : decode cX6_findMiss 82 = .ok (.iload_n 2, 1) := by decide +kernel
theorem dX6_findMiss_83 : decode cX6_findMiss 83 = .ok (.iadd, 1) := by decide +kernel
theorem dX6_findMiss_84 : decode cX6_findMiss 84 = .ok (.invokevirtual 90, 3) := by decide +kernel
theorem dX6_findMiss_87 : decode cX6_findMiss 87 = .ok (.iaload, 1) := by decide +kernel
theorem dX6_findMiss_88 : decode cX6_findMiss 88 = .ok (.istore 7, 2) := by decide +kernel
theorem dX6_findMiss_90 : decode cX6_findMiss 90 = .ok (.iload 6, 2) := by decide +kernel
theorem dX6_findMiss_92 : decode cX6_findMiss 92 = .ok (.iconst (-1), 1) := by decide +kernel
theorem dX6_findMiss_93 : decode cX6_findMiss 93 = .ok (.if_icmp .eq 51, 3) := by decide +kernel
theorem dX6_findMiss_96 : decode cX6_findMiss 96 = .ok (.iload 7, 2) := by decide +kernel
theorem dX6_findMiss_98 : decode cX6_findMiss 98 = .ok (.iconst (-1), 1) := by decide +kernel
theorem dX6_findMiss_99 : decode cX6_findMiss 99 = .ok (.if_icmp .ne 6, 3) := by decide +kernel
theorem dX6_findMiss_102 : decode cX6_findMiss 102 = .ok (.goto 42, 3) := by decide +kernel
theorem dX6_findMiss_105 : decode cX6_findMiss 105 = .ok (.aload_n 0, 1) := by decide +kernel
theorem dX6_findMiss_106 : decode cX6_findMiss 106 = .ok (.dup, 1) := by decide +kernel
theorem dX6_findMiss_107 : decode cX6_findMiss 107 = .ok (.getfield 96, 3) := by decide +kernel
theorem dX6_findMiss_110 : decode cX6_findMiss 110 = .ok (.iload 6, 2) := by decide +kernel
theorem dX6_findMiss_112 : decode cX6_findMiss 112 = .ok (.iload 7, 2) := by decide +kernel
theorem dX6_findMiss_114 : decode cX6_findMiss 114 = .ok (.if_icmp .ge 11, 3) := by decide +kernel
theorem dX6_findMiss_117 : decode cX6_findMiss 117 = .ok (.iload 7, 2) := by decide +kernel
theorem dX6_findMiss_119 : decode cX6_findMiss 119 = .ok (.iload 6, 2) := by decide +kernel
theorem dX6_findMiss_121 : decode cX6_findMiss 121 = .ok (.isub, 1) := by decide +kernel
theorem dX6_findMiss_122 : decode cX6_findMiss 122 = .ok (.goto 8, 3) := by decide +kernel
theorem dX6_findMiss_125 : decode cX6_findMiss 125 = .ok (.iload 6, 2) := by decide +kernel
theorem dX6_findMiss_127 : decode cX6_findMiss 127 = .ok (.iload 7, 2) := by decide +kernel
theorem dX6_findMiss_129 : decode cX6_findMiss 129 = .ok (.isub, 1) := by decide +kernel
theorem dX6_findMiss_130 : decode cX6_findMiss 130 = .ok (.iadd, 1) := by decide +kernel
theorem dX6_findMiss_131 : decode cX6_findMiss 131 = .ok (.putfield 96, 3) := by decide +kernel
theorem dX6_findMiss_134 : decode cX6_findMiss 134 = .ok (.aload_n 0, 1) := by decide +kernel
theorem dX6_findMiss_135 : decode cX6_findMiss 135 = .ok (.dup, 1) := by decide +kernel
theorem dX6_findMiss_136 : decode cX6_findMiss 136 = .ok (.getfield 99, 3) := by decide +kernel
theorem dX6_findMiss_139 : decode cX6_findMiss 139 = .ok (.iconst 1, 1) := by decide +kernel
theorem dX6_findMiss_140 : decode cX6_findMiss 140 = .ok (.iadd, 1) := by decide +kernel
theorem dX6_findMiss_141 : decode cX6_findMiss 141 = .ok (.putfield 99, 3) := by decide +kernel
theorem dX6_findMiss_144 : decode cX6_findMiss 144 = .ok (.iinc 5 1, 3) := by decide +kernel
theorem dX6_findMiss_147 : decode cX6_findMiss 147 = .ok (.goto (-122), 3) := by decide +kernel
theorem dX6_findMiss_150 : decode cX6_findMiss 150 = .ok (.iinc 4 1, 3) := by decide +kernel
theorem dX6_findMiss_153 : decode cX6_findMiss 153 = .ok (.goto (-140), 3) := by decide +kernel
theorem dX6_findMiss_156 : decode cX6_findMiss 156 = .ok (.iconst 4, 1) := by decide +kernel
theorem dX6_findMiss_157 : decode cX6_findMiss 157 = .ok (.aload_n 0, 1) := by decide +kernel
theorem dX6_findMiss_158 : decode cX6_findMiss 158 = .ok (.getfield 99, 3) := by decide +kernel
theorem dX6_findMiss_161 : decode cX6_findMiss 161 = .ok (.imul, 1) := by decide +kernel
theorem dX6_findMiss_162 : decode cX6_findMiss 162 = .ok (.aload_n 0, 1) := by decide +kernel
theorem dX6_findMiss_163 : decode cX6_findMiss 163 = .ok (.getfield 7, 3) := by decide +kernel
theorem dX6_findMiss_166 : decode cX6_findMiss 166 = .ok (.aload_n 0, 1) := by decide +kernel
theorem dX6_findMiss_167 : decode cX6_findMiss 167 = .ok (.getfield 13, 3) := by decide +kernel
theorem dX6_findMiss_170 : decode cX6_findMiss 170 = .ok (.imul, 1) := by decide +kernel
theorem dX6_findMiss_171 : decode cX6_findMiss 171 = .ok (.if_icmp .lt 7, 3) := by decide +kernel
theorem dX6_findMiss_174 : decode cX6_findMiss 174 = .ok (.iconst 1, 1) := by decide +kernel
theorem dX6_findMiss_175 : decode cX6_findMiss 175 = .ok (.goto 4, 3) := by decide +kernel
theorem dX6_findMiss_178 : decode cX6_findMiss 178 = .ok (.iconst 0, 1) := by decide +kernel
theorem dX6_findMiss_179 : decode cX6_findMiss 179 = .ok (.ireturn, 1) := by decide +kernel
theorem dX6_common_0 : decode cX6_common 0 = .ok (.iload_n 0, 1) := by decide +kernel
theorem dX6_common_1 : decode cX6_common 1 = .ok (.istore_n 2, 1) := by decide +kernel
theorem dX6_common_2 : decode cX6_common 2 = .ok (.iload_n 1, 1) := by decide +kernel
theorem dX6_common_3 : decode cX6_common 3 = .ok (.istore_n 3, 1) := by decide +kernel
theorem dX6_common_4 : decode cX6_common 4 = .ok (.iload_n 3, 1) := by decide +kernel
theorem dX6_common_5 : decode cX6_common 5 = .ok (.ifCond .eq 16, 3) := by decide +kernel
theorem dX6_common_8 : decode cX6_common 8 = .ok (.iload_n 2, 1) := by decide +kernel
theorem dX6_common_9 : decode cX6_common 9 = .ok (.iload_n 3, 1) := by decide +kernel
theorem dX6_common_10 : decode cX6_common 10 = .ok (.irem, 1) := by decide +kernel
theorem dX6_common_11 : decode cX6_common 11 = .ok (.istore 4, 2) := by decide +kernel
theorem dX6_common_13 : decode cX6_common 13 = .ok (.iload_n 3, 1) := by decide +kernel
theorem dX6_common_14 : decode cX6_common 14 = .ok (.istore_n 2, 1) := by decide +kernel
theorem dX6_common_15 : decode cX6_common 15 = .ok (.iload 4, 2) := by decide +kernel
theorem dX6_common_17 : decode cX6_common 17 = .ok (.istore_n 3, 1) := by decide +kernel
theorem dX6_common_18 : decode cX6_common 18 = .ok (.goto (-14), 3) := by decide +kernel
theorem dX6_common_21 : decode cX6_common 21 = .ok (.iload_n 2, 1) := by decide +kernel
theorem dX6_common_22 : decode cX6_common 22 = .ok (.ireturn, 1) := by decide +kernel
set_option maxRecDepth 20000 in
theorem ggX6_miss_X6_isFrame : GoodIn wsX6_miss wsX6_isFrame := goodIn_r _ [7, 8, 9, 10, 6, 11, 30, 31, 32, 33, 34, 35, 36, 37, 38, 39, 40, 41, 42, 43, 44, 45, 46, 47, 48, 49, 50, 51, 52, 53, 54, 55, 56, 57, 58, 59, 60, 61, 62] (by decide +kernel) (by decide +kernel)
set_option maxRecDepth 20000 in
theorem gX6_miss_X6_isFrame : GoodIn wsX6_miss (wsV RX6 82 RX6 yX6_isFrame wsX6_isFrame) := goodIn_app (goodIn_of _ (by decide +kernel)) ggX6_miss_X6_isFrame
set_option maxRecDepth 20000 in
theorem ggX6_miss_X6_in : GoodIn wsX6_miss wsX6_in := goodIn_r _ [11] (by decide +kernel) (by decide +kernel)
set_option maxRecDepth 20000 in
theorem gX6_miss_X6_in : GoodIn wsX6_miss (va_wsS RX6 75 yX6_in wsX6_in) := goodIn_app (goodIn_of _ (by decide +kernel)) ggX6_miss_X6_in
set_option maxRecDepth 20000 in
theorem ggX6_miss_X6_findMiss : GoodIn wsX6_miss wsX6_findMiss := goodIn_r _ [15, 1, 2, 16, 17, 18, 19, 20, 21, 6, 22, 9, 10, 11, 23, 24, 25, 26, 30, 31, 32, 33, 34, 35, 36, 37, 38, 39, 40, 41, 42, 43, 44, 45, 46, 47, 48, 49, 50, 51, 52, 53, 54, 55, 56, 57, 58, 59, 60, 61, 62] (by decide +kernel) (by decide +kernel)
set_option maxRecDepth 20000 in
theorem gX6_miss_X6_findMiss : GoodIn wsX6_miss (wsV RX6 102 RX6 yX6_findMiss wsX6_findMiss) := goodIn_app (goodIn_of _ (by decide +kernel)) ggX6_miss_X6_findMiss
set_option maxRecDepth 20000 in
theorem ggX6_miss_X6_common : GoodIn wsX6_miss wsX6_common := goodIn_r _ [29] (by decide +kernel) (by decide +kernel)
set_option maxRecDepth 20000 in
theorem gX6_miss_X6_common : GoodIn wsX6_miss (va_wsS RX6 105 yX6_common wsX6_common) := goodIn_app (goodIn_of _ (by decide +kernel)) ggX6_miss_X6_common
theorem dX6_miss_0 : decode cX6_miss 0 = .ok (.aload_n 0, 1) := by decide +kernel
theorem dX6_miss_1 : decode cX6_miss 1 = .ok (.iload_n 1, 1) := by decide +kernel
theorem dX6_miss_2 : decode cX6_miss 2 = .ok (.invokevirtual 82, 3) := by decide +kernel
theorem dX6_miss_5 : decode cX6_miss 5 = .ok (.ifCond .eq 37, 3) := by decide +kernel
theorem dX6_miss_8 : decode cX6_miss 8 = .ok (.iload_n 1, 1) := by decide +kernel
theorem dX6_miss_9 : decode cX6_miss 9 = .ok (.ifCond .eq 33, 3) := by decide +kernel
theorem dX6_miss_12 : decode cX6_miss 12 = .ok (.iload_n 2, 1) := by decide +kernel
theorem dX6_miss_13 : decode cX6_miss 13 = .ok (.bipush (-2), 2) := by decide +kernel
theorem dX6_miss_15 : decode cX6_miss 15 = .ok (.iconst 2, 1) := by decide +kernel
theorem dX6_miss_16 : decode cX6_miss 16 = .ok (.invokestatic 75, 3) := by decide +kernel
theorem dX6_miss_19 : decode cX6_miss 19 = .ok (.ifCond .eq 23, 3) := by decide +kernel
theorem dX6_miss_22 : decode cX6_miss 22 = .ok (.iload_n 3, 1) := by decide +kernel
theorem dX6_miss_23 : decode cX6_miss 23 = .ok (.bipush (-2), 2) := by decide +kernel
theorem dX6_miss_25 : decode cX6_miss 25 = .ok (.iconst 2, 1) := by decide +kernel
theorem dX6_miss_26 : decode cX6_miss 26 = .ok (.invokestatic 75, 3) := by decide +kernel
theorem dX6_miss_29 : decode cX6_miss 29 = .ok (.ifCond .eq 13, 3) := by decide +kernel
theorem dX6_miss_32 : decode cX6_miss 32 = .ok (.iload 4, 2) := by decide +kernel
theorem dX6_miss_34 : decode cX6_miss 34 = .ok (.iconst 0, 1) := by decide +kernel
theorem dX6_miss_35 : decode cX6_miss 35 = .ok (.iconst 1, 1) := by decide +kernel
theorem dX6_miss_36 : decode cX6_miss 36 = .ok (.invokestatic 75, 3) := by decide +kernel
theorem dX6_miss_39 : decode cX6_miss 39 = .ok (.ifCond .ne 5, 3) := by decide +kernel
theorem dX6_miss_42 : decode cX6_miss 42 = .ok (.iconst (-1), 1) := by decide +kernel
theorem dX6_miss_43 : decode cX6_miss 43 = .ok (.ireturn, 1) := by decide +kernel
theorem dX6_miss_44 : decode cX6_miss 44 = .ok (.aload_n 0, 1) := by decide +kernel
theorem dX6_miss_45 : decode cX6_miss 45 = .ok (.iload_n 1, 1) := by decide +kernel
theorem dX6_miss_46 : decode cX6_miss 46 = .ok (.iload_n 2, 1) := by decide +kernel
theorem dX6_miss_47 : decode cX6_miss 47 = .ok (.iload_n 3, 1) := by decide +kernel
theorem dX6_miss_48 : decode cX6_miss 48 = .ok (.invokevirtual 102, 3) := by decide +kernel
theorem dX6_miss_51 : decode cX6_miss 51 = .ok (.ifCond .ne 6, 3) := by decide +kernel
theorem dX6_miss_54 : decode cX6_miss 54 = .ok (.bipush (-3), 2) := by decide +kernel
theorem dX6_miss_56 : decode cX6_miss 56 = .ok (.ireturn, 1) := by decide +kernel
theorem dX6_miss_57 : decode cX6_miss 57 = .ok (.aload_n 0, 1) := by decide +kernel
theorem dX6_miss_58 : decode cX6_miss 58 = .ok (.getfield 96, 3) := by decide +kernel
theorem dX6_miss_61 : decode cX6_miss 61 = .ok (.aload_n 0, 1) := by decide +kernel
theorem dX6_miss_62 : decode cX6_miss 62 = .ok (.getfield 99, 3) := by decide +kernel
theorem dX6_miss_65 : decode cX6_miss 65 = .ok (.invokestatic 105, 3) := by decide +kernel
theorem dX6_miss_68 : decode cX6_miss 68 = .ok (.istore 5, 2) := by decide +kernel
theorem dX6_miss_70 : decode cX6_miss 70 = .ok (.iload 4, 2) := by decide +kernel
theorem dX6_miss_72 : decode cX6_miss 72 = .ok (.ifCond .ne 13, 3) := by decide +kernel
theorem dX6_miss_75 : decode cX6_miss 75 = .ok (.aload_n 0, 1) := by decide +kernel
theorem dX6_miss_76 : decode cX6_miss 76 = .ok (.getfield 96, 3) := by decide +kernel
theorem dX6_miss_79 : decode cX6_miss 79 = .ok (.iload 5, 2) := by decide +kernel
theorem dX6_miss_81 : decode cX6_miss 81 = .ok (.idiv, 1) := by decide +kernel
theorem dX6_miss_82 : decode cX6_miss 82 = .ok (.goto 10, 3) := by decide +kernel
theorem dX6_miss_85 : decode cX6_miss 85 = .ok (.aload_n 0, 1) := by decide +kernel
theorem dX6_miss_86 : decode cX6_miss 86 = .ok (.getfield 99, 3) := by decide +kernel
theorem dX6_miss_89 : decode cX6_miss 89 = .ok (.iload 5, 2) := by decide +kernel
theorem dX6_miss_91 : decode cX6_miss 91 = .ok (.idiv, 1) := by decide +kernel
theorem dX6_miss_92 : decode cX6_miss 92 = .ok (.ireturn, 1) := by decide +kernel
theorem dX6_size_0 : decode cX6_size 0 = .ok (.iload_n 0, 1) := by decide +kernel
theorem dX6_size_1 : decode cX6_size 1 = .ok (.ifCond .ge 8, 3) := by decide +kernel
theorem dX6_size_4 : decode cX6_size 4 = .ok (.iload_n 0, 1) := by decide +kernel
theorem dX6_size_5 : decode cX6_size 5 = .ok (.ineg, 1) := by decide +kernel
theorem dX6_size_6 : decode cX6_size 6 = .ok (.goto 4, 3) := by decide +kernel
theorem dX6_size_9 : decode cX6_size 9 = .ok (.iload_n 0, 1) := by decide +kernel
theorem dX6_size_10 : decode cX6_size 10 = .ok (.ireturn, 1) := by decide +kernel
set_option maxRecDepth 20000 in
theorem ggX6_findShift_X6_findMiss : GoodIn wsX6_findShift wsX6_findMiss := goodIn_r _ [9, 3, 4, 10, 11, 12, 13, 14, 15, 8, 16, 17, 18, 19, 20, 21, 22, 23, 27, 28, 29, 30, 31, 32, 33, 34, 35, 36, 37, 38, 39, 40, 41, 42, 43, 44, 45, 46, 47, 48, 49, 50, 51, 52, 53, 54, 55, 56, 57, 58, 59] (by decide +kernel) (by decide +kernel)
set_option maxRecDepth 20000 in
theorem gX6_findShift_X6_findMiss : GoodIn wsX6_findShift (wsV RX6 102 RX6 yX6_findMiss wsX6_findMiss) := goodIn_app (goodIn_of _ (by decide +kernel)) ggX6_findShift_X6_findMiss
set_option maxRecDepth 20000 in
theorem ggX6_findShift_X6_size : GoodIn wsX6_findShift wsX6_size := goodIn_r _ [26] (by decide +kernel) (by decide +kernel)
set_option maxRecDepth 20000 in
theorem gX6_findShift_X6_size : GoodIn wsX6_findShift (va_wsS RX6 115 yX6_size wsX6_size) := goodIn_app (goodIn_of _ (by decide +kernel)) ggX6_findShift_X6_size
theorem dX6_findShift_0 : decode cX6_findShift 0 = .ok (.aload_n 0, 1) := by decide +kernel
theorem dX6_findShift_1 : decode cX6_findShift 1 = .ok (.iconst 0, 1) := by decide +kernel
theorem dX6_findShift_2 : decode cX6_findShift 2 = .ok (.putfield 109, 3) := by decide +kernel
theorem dX6_findShift_5 : decode cX6_findShift 5 = .ok (.aload_n 0, 1) := by decide +kernel
theorem dX6_findShift_6 : decode cX6_findShift 6 = .ok (.iconst 0, 1) := by decide +kernel
theorem dX6_findShift_7 : decode cX6_findShift 7 = .ok (.putfield 112, 3) := by decide +kernel
theorem dX6_findShift_10 : decode cX6_findShift 10 = .ok (.iconst 0, 1) := by decide +kernel
theorem dX6_findShift_11 : decode cX6_findShift 11 = .ok (.istore_n 2, 1) := by decide +kernel
theorem dX6_findShift_12 : decode cX6_findShift 12 = .ok (.iconst 0, 1) := by decide +kernel
theorem dX6_findShift_13 : decode cX6_findShift 13 = .ok (.istore_n 3, 1) := by decide +kernel
theorem dX6_findShift_14 : decode cX6_findShift 14 = .ok (.iconst 1, 1) := by decide +kernel
theorem dX6_findShift_15 : decode cX6_findShift 15 = .ok (.istore 4, 2) := by decide +kernel
theorem dX6_findShift_17 : decode cX6_findShift 17 = .ok (.bipush (-2), 2) := by decide +kernel
theorem dX6_findShift_19 : decode cX6_findShift 19 = .ok (.istore 5, 2) := by decide +kernel
theorem dX6_findShift_21 : decode cX6_findShift 21 = .ok (.iload 5, 2) := by decide +kernel
theorem dX6_findShift_23 : decode cX6_findShift 23 = .ok (.iconst 2, 1) := by decide +kernel
theorem dX6_findShift_24 : decode cX6_findShift 24 = .ok (.if_icmp .gt 129, 3) := by decide +kernel
theorem dX6_findShift_27 : decode cX6_findShift 27 = .ok (.bipush (-2), 2) := by decide +kernel
theorem dX6_findShift_29 : decode cX6_findShift 29 = .ok (.istore 6, 2) := by decide +kernel
theorem dX6_findShift_31 : decode cX6_findShift 31 = .ok (.iload 6, 2) := by decide +kernel
theorem dX6_findShift_33 : decode cX6_findShift 33 = .ok (.iconst 2, 1) := by decide +kernel
theorem dX6_findShift_34 : decode cX6_findShift 34 = .ok (.if_icmp .gt 113, 3) := by decide +kernel
theorem dX6_findShift_37 : decode cX6_findShift 37 = .ok (.aload_n 0, 1) := by decide +kernel
theorem dX6_findShift_38 : decode cX6_findShift 38 = .ok (.iload_n 1, 1) := by decide +kernel
theorem dX6_findShift_39 : decode cX6_findShift 39 = .ok (.iload 6, 2) := by decide +kernel
theorem dX6_findShift_41 : decode cX6_findShift 41 = .ok (.iload 5, 2) := by decide +kernel
theorem dX6_findShift_43 : decode cX6_findShift 43 = .ok (.invokevirtual 102, 3) := by decide +kernel
theorem dX6_findShift_46 : decode cX6_findShift 46 = .ok (.ifCond .ne 6, 3) := by decide +kernel
theorem dX6_findShift_49 : decode cX6_findShift 49 = .ok (.goto 92, 3) := by decide +kernel
theorem dX6_findShift_52 : decode cX6_findShift 52 = .ok (.aload_n 0, 1) := by decide +kernel
theorem dX6_findShift_53 : decode cX6_findShift 53 = .ok (.getfield 96, 3) := by decide +kernel
theorem dX6_findShift_56 : decode cX6_findShift 56 = .ok (.iload 4, 2) := by decide +kernel
theorem dX6_findShift_58 : decode cX6_findShift 58 = .ok (.imul, 1) := by decide +kernel
theorem dX6_findShift_59 : decode cX6_findShift 59 = .ok (.iload_n 3, 1) := by decide +kernel
theorem dX6_findShift_60 : decode cX6_findShift 60 = .ok (.aload_n 0, 1) := by decide +kernel
theorem dX6_findShift_61 : decode cX6_findShift 61 = .ok (.getfield 99, 3) := by decide +kernel
theorem dX6_findShift_64 : decode cX6_findShift 64 = .ok (.imul, 1) := by decide +kernel
theorem dX6_findShift_65 : decode cX6_findShift 65 = .ok (.isub, 1) := by decide +kernel
theorem dX6_findShift_66 : decode cX6_findShift 66 = .ok (.istore 7, 2) := by decide +kernel
theorem dX6_findShift_68 : decode cX6_findShift 68 = .ok (.iload 6, 2) := by decide +kernel
theorem dX6_findShift_70 : decode cX6_findShift 70 = .ok (.invokestatic 115, 3) := by decide +kernel
theorem dX6_findShift_73 : decode cX6_findShift 73 = .ok (.iload 5, 2) := by decide +kernel
theorem dX6_findShift_75 : decode cX6_findShift 75 = .ok (.invokestatic 115, 3) := by decide +kernel
theorem dX6_findShift_78 : decode cX6_findShift 78 = .ok (.iadd, 1) := by decide +kernel
theorem dX6_findShift_79 : decode cX6_findShift 79 = .ok (.aload_n 0, 1) := by decide +kernel
theorem dX6_findShift_80 : decode cX6_findShift 80 = .ok (.getfield 109, 3) := by decide +kernel
theorem dX6_findShift_83 : decode cX6_findShift 83 = .ok (.invokestatic 115, 3) := by decide +kernel
theorem dX6_findShift_86 : decode cX6_findShift 86 = .ok (.isub, 1) := by decide +kernel
theorem dX6_findShift_87 : decode cX6_findShift 87 = .ok (.aload_n 0, 1) := by decide +kernel
theorem dX6_findShift_88 : decode cX6_findShift 88 = .ok (.getfield 112, 3) := by decide +kernel
theorem dX6_findShift_91 : decode cX6_findShift 91 = .ok (.invokestatic 115, 3) := by decide +kernel
theorem dX6_findShift_94 : decode cX6_findShift 94 = .ok (.isub, 1) := by decide +kernel
theorem dX6_findShift_95 : decode cX6_findShift 95 = .ok (.istore 8, 2) := by decide +kernel
theorem dX6_findShift_97 : decode cX6_findShift 97 = .ok (.iload_n 2, 1) := by decide +kernel
theorem dX6_findShift_98 : decode cX6_findShift 98 = .ok (.ifCond .eq 18, 3) := by decide +kernel
theorem dX6_findShift_101 : decode cX6_findShift 101 = .ok (.iload 7, 2) := by decide +kernel
theorem dX6_findShift_103 : decode cX6_findShift 103 = .ok (.ifCond .lt 13, 3) := by decide +kernel
theorem dX6_findShift_106 : decode cX6_findShift 106 = .ok (.iload 7, 2) := by decide +kernel
theorem dX6_findShift_108 : decode cX6_findShift 108 = .ok (.ifCond .ne 33, 3) := by decide +kernel
theorem dX6_findShift_111 : decode cX6_findShift 111 = .ok (.iload 8, 2) := by decide +kernel
theorem dX6_findShift_113 : decode cX6_findShift 113 = .ok (.ifCond .ge 28, 3) := by decide +kernel
theorem dX6_findShift_116 : decode cX6_findShift 116 = .ok (.iconst 1, 1) := by decide +kernel
theorem dX6_findShift_117 : decode cX6_findShift 117 = .ok (.istore_n 2, 1) := by decide +kernel
theorem dX6_findShift_118 : decode cX6_findShift 118 = .ok (.aload_n 0, 1) := by decide +kernel
theorem dX6_findShift_119 : decode cX6_findShift 119 = .ok (.getfield 96, 3) := by decide +kernel
theorem dX6_findShift_122 : decode cX6_findShift 122 = .ok (.istore_n 3, 1) := by decide +kernel
theorem dX6_findShift_123 : decode cX6_findShift 123 = .ok (.aload_n 0, 1) := by decide +kernel
theorem dX6_findShift_124 : decode cX6_findShift 124 = .ok (.getfield 99, 3) := by decide +kernel
theorem dX6_findShift_127 : decode cX6_findShift 127 = .ok (.istore 4, 2) := by decide +kernel
theorem dX6_findShift_129 : decode cX6_findShift 129 = .ok (.aload_n 0, 1) := by decide +kernel
theorem dX6_findShift_130 : decode cX6_findShift 130 = .ok (.iload 6, 2) := by decide +kernel
theorem dX6_findShift_132 : decode cX6_findShift 132 = .ok (.putfield 109, 3) := by decide +kernel
theorem dX6_findShift_135 : decode cX6_findShift 135 = .ok (.aload_n 0, 1) := by decide +kernel
theorem dX6_findShift_136 : decode cX6_findShift 136 = .ok (.iload 5, 2) := by decide +kernel
theorem dX6_findShift_138 : decode cX6_findShift 138 = .ok (.putfield 112, 3) := by decide +kernel
theorem dX6_findShift_141 : decode cX6_findShift 141 = .ok (.iinc 6 1, 3) := by decide +kernel
theorem dX6_findShift_144 : decode cX6_findShift 144 = .ok (.goto (-113), 3) := by decide +kernel
theorem dX6_findShift_147 : decode cX6_findShift 147 = .ok (.iinc 5 1, 3) := by decide +kernel
theorem dX6_findShift_150 : decode cX6_findShift 150 = .ok (.goto (-129), 3) := by decide +kernel
theorem dX6_findShift_153 : decode cX6_findShift 153 = .ok (.return_, 1) := by decide +kernel
set_option maxRecDepth 20000 in
theorem ggX6_shift_X6_isFrame : GoodIn wsX6_shift wsX6_isFrame := goodIn_r _ [7, 8, 9, 10, 6, 11, 36, 37, 38, 39, 40, 41, 42, 43, 44, 45, 46, 47, 48, 49, 50, 51, 52, 53, 54, 55, 56, 57, 58, 59, 60, 61, 62, 63, 64, 65, 66, 67, 68] (by decide +kernel) (by decide +kernel)
set_option maxRecDepth 20000 in
theorem gX6_shift_X6_isFrame : GoodIn wsX6_shift (wsV RX6 82 RX6 yX6_isFrame wsX6_isFrame) := goodIn_app (goodIn_of _ (by decide +kernel)) ggX6_shift_X6_isFrame
set_option maxRecDepth 20000 in
theorem ggX6_shift_X6_in : GoodIn wsX6_shift wsX6_in := goodIn_r _ [11] (by decide +kernel) (by decide +kernel)
set_option maxRecDepth 20000 in
theorem gX6_shift_X6_in : GoodIn wsX6_shift (va_wsS RX6 75 yX6_in wsX6_in) := goodIn_app (goodIn_of _ (by decide +kernel)) ggX6_shift_X6_in
set_option maxRecDepth 20000 in
theorem ggX6_shift_X6_findShift : GoodIn wsX6_shift wsX6_findShift := goodIn_r _ [15, 1, 2, 16, 17, 18, 19, 20, 6, 21, 22, 23, 24, 25, 26, 27, 28, 9, 10, 11, 29, 30, 31, 32, 33, 34, 35, 36, 37, 38, 39, 40, 41, 42, 43, 44, 45, 46, 47, 48, 49, 50, 51, 52, 53, 54, 55, 56, 57, 58, 59, 60, 61, 62, 63, 64, 65, 66, 67, 68] (by decide +kernel) (by decide +kernel)
set_option maxRecDepth 20000 in
theorem gX6_shift_X6_findShift : GoodIn wsX6_shift (wsV RX6 119 RX6 yX6_findShift wsX6_findShift) := goodIn_app (goodIn_of _ (by decide +kernel)) ggX6_shift_X6_findShift
theorem dX6_shift_0 : decode cX6_shift 0 = .ok (.aload_n 0, 1) := by decide +kernel
theorem dX6_shift_1 : decode cX6_shift 1 = .ok (.iload_n 1, 1) := by decide +kernel
theorem dX6_shift_2 : decode cX6_shift 2 = .ok (.invokevirtual 82, 3) := by decide +kernel
theorem dX6_shift_5 : decode cX6_shift 5 = .ok (.ifCond .eq 16, 3) := by decide +kernel
theorem dX6_shift_8 : decode cX6_shift 8 = .ok (.iload_n 1, 1) := by decide +kernel
theorem dX6_shift_9 : decode cX6_shift 9 = .ok (.ifCond .eq 12, 3) := by decide +kernel
theorem dX6_shift_12 : decode cX6_shift 12 = .ok (.iload_n 2, 1) := by decide +kernel
theorem dX6_shift_13 : decode cX6_shift 13 = .ok (.iconst 0, 1) := by decide +kernel
theorem dX6_shift_14 : decode cX6_shift 14 = .ok (.iconst 1, 1) := by decide +kernel
theorem dX6_shift_15 : decode cX6_shift 15 = .ok (.invokestatic 75, 3) := by decide +kernel
theorem dX6_shift_18 : decode cX6_shift 18 = .ok (.ifCond .ne 7, 3) := by decide +kernel
theorem dX6_shift_21 : decode cX6_shift 21 = .ok (.sipush (-1000), 3) := by decide +kernel
theorem dX6_shift_24 : decode cX6_shift 24 = .ok (.ireturn, 1) := by decide +kernel
theorem dX6_shift_25 : decode cX6_shift 25 = .ok (.aload_n 0, 1) := by decide +kernel
theorem dX6_shift_26 : decode cX6_shift 26 = .ok (.iload_n 1, 1) := by decide +kernel
theorem dX6_shift_27 : decode cX6_shift 27 = .ok (.invokevirtual 119, 3) := by decide +kernel
theorem dX6_shift_30 : decode cX6_shift 30 = .ok (.iload_n 2, 1) := by decide +kernel
theorem dX6_shift_31 : decode cX6_shift 31 = .ok (.ifCond .ne 10, 3) := by decide +kernel
theorem dX6_shift_34 : decode cX6_shift 34 = .ok (.aload_n 0, 1) := by decide +kernel
theorem dX6_shift_35 : decode cX6_shift 35 = .ok (.getfield 109, 3) := by decide +kernel
theorem dX6_shift_38 : decode cX6_shift 38 = .ok (.goto 7, 3) := by decide +kernel
theorem dX6_shift_41 : decode cX6_shift 41 = .ok (.aload_n 0, 1) := by decide +kernel
theorem dX6_shift_42 : decode cX6_shift 42 = .ok (.getfield 112, 3) := by decide +kernel
theorem dX6_shift_45 : decode cX6_shift 45 = .ok (.ireturn, 1) := by decide +kernel
set_option maxRecDepth 20000 in
theorem ggX6_driftOf_X6_findShift : GoodIn wsX6_driftOf wsX6_findShift := goodIn_r _ [7, 1, 2, 8, 9, 10, 11, 12, 6, 13, 14, 15, 16, 17, 18, 19, 20, 21, 22, 23, 24, 25, 26, 27, 28, 29, 30, 31, 32, 33, 34, 35, 36, 37, 38, 39, 40, 41, 42, 43, 44, 45, 46, 47, 48, 49, 50, 51, 52, 53, 54, 55, 56, 57, 58, 59, 60, 61, 62, 63] (by decide +kernel) (by decide +kernel)
set_option maxRecDepth 20000 in
theorem gX6_driftOf_X6_findShift : GoodIn wsX6_driftOf (wsV RX6 119 RX6 yX6_findShift wsX6_findShift) := goodIn_app (goodIn_of _ (by decide +kernel)) ggX6_driftOf_X6_findShift
theorem dX6_driftOf_0 : decode cX6_driftOf 0 = .ok (.iconst 0, 1) := by decide +kernel
theorem dX6_driftOf_1 : decode cX6_driftOf 1 = .ok (.istore_n 3, 1) := by decide +kernel
theorem dX6_driftOf_2 : decode cX6_driftOf 2 = .ok (.iconst 1, 1) := by decide +kernel
theorem dX6_driftOf_3 : decode cX6_driftOf 3 = .ok (.istore 4, 2) := by decide +kernel
theorem dX6_driftOf_5 : decode cX6_driftOf 5 = .ok (.iload 4, 2) := by decide +kernel
theorem dX6_driftOf_7 : decode cX6_driftOf 7 = .ok (.iload_n 1, 1) := by decide +kernel
theorem dX6_driftOf_8 : decode cX6_driftOf 8 = .ok (.if_icmp .gt 33, 3) := by decide +kernel
theorem dX6_driftOf_11 : decode cX6_driftOf 11 = .ok (.aload_n 0, 1) := by decide +kernel
theorem dX6_driftOf_12 : decode cX6_driftOf 12 = .ok (.iload 4, 2) := by decide +kernel
theorem dX6_driftOf_14 : decode cX6_driftOf 14 = .ok (.invokevirtual 119, 3) := by decide +kernel
theorem dX6_driftOf_17 : decode cX6_driftOf 17 = .ok (.iload_n 3, 1) := by decide +kernel
theorem dX6_driftOf_18 : decode cX6_driftOf 18 = .ok (.iload_n 2, 1) := by decide +kernel
theorem dX6_driftOf_19 : decode cX6_driftOf 19 = .ok (.ifCond .ne 10, 3) := by decide +kernel
theorem dX6_driftOf_22 : decode cX6_driftOf 22 = .ok (.aload_n 0, 1) := by decide +kernel
theorem dX6_driftOf_23 : decode cX6_driftOf 23 = .ok (.getfield 109, 3) := by decide +kernel
theorem dX6_driftOf_26 : decode cX6_driftOf 26 = .ok (.goto 7, 3) := by decide +kernel
theorem dX6_driftOf_29 : decode cX6_driftOf 29 = .ok (.aload_n 0, 1) := by decide +kernel
theorem dX6_driftOf_30 : decode cX6_driftOf 30 = .ok (.getfield 112, 3) := by decide +kernel
theorem dX6_driftOf_33 : decode cX6_driftOf 33 = .ok (.iadd, 1) := by decide +kernel
theorem dX6_driftOf_34 : decode cX6_driftOf 34 = .ok (.istore_n 3, 1) := by decide +kernel
theorem dX6_driftOf_35 : decode cX6_driftOf 35 = .ok (.iinc 4 1, 3) := by decide +kernel
theorem dX6_driftOf_38 : decode cX6_driftOf 38 = .ok (.goto (-33), 3) := by decide +kernel
theorem dX6_driftOf_41 : decode cX6_driftOf 41 = .ok (.iload_n 3, 1) := by decide +kernel
theorem dX6_driftOf_42 : decode cX6_driftOf 42 = .ok (.ireturn, 1) := by decide +kernel
set_option maxRecDepth 20000 in
theorem ggX6_drift_X6_isFrame : GoodIn wsX6_drift wsX6_isFrame := goodIn_r _ [5, 6, 7, 8, 4, 9, 40, 41, 42, 43, 44, 45, 46, 47, 48, 49, 50, 51, 52, 53, 54, 55, 56, 57, 58, 59, 60, 61, 62, 63, 64, 65, 66, 67, 68, 69, 70, 71, 72] (by decide +kernel) (by decide +kernel)
set_option maxRecDepth 20000 in
theorem gX6_drift_X6_isFrame : GoodIn wsX6_drift (wsV RX6 82 RX6 yX6_isFrame wsX6_isFrame) := goodIn_app (goodIn_of _ (by decide +kernel)) ggX6_drift_X6_isFrame
set_option maxRecDepth 20000 in
theorem ggX6_drift_X6_in : GoodIn wsX6_drift wsX6_in := goodIn_r _ [9] (by decide +kernel) (by decide +kernel)
set_option maxRecDepth 20000 in
theorem gX6_drift_X6_in : GoodIn wsX6_drift (va_wsS RX6 75 yX6_in wsX6_in) := goodIn_app (goodIn_of _ (by decide +kernel)) ggX6_drift_X6_in
set_option maxRecDepth 20000 in
theorem ggX6_drift_X6_driftOf : GoodIn wsX6_drift wsX6_driftOf := goodIn_r _ [13, 14, 15, 16, 17, 18, 4, 19, 20, 21, 22, 23, 24, 25, 26, 27, 28, 29, 30, 31, 32, 7, 8, 9, 33, 34, 35, 36, 37, 38, 39, 40, 41, 42, 43, 44, 45, 46, 47, 48, 49, 50, 51, 52, 53, 54, 55, 56, 57, 58, 59, 60, 61, 62, 63, 64, 65, 66, 67, 68, 69, 70, 71, 72] (by decide +kernel) (by decide +kernel)
set_option maxRecDepth 20000 in
theorem gX6_drift_X6_driftOf : GoodIn wsX6_drift (wsV RX6 123 RX6 yX6_driftOf wsX6_driftOf) := goodIn_app (goodIn_of _ (by decide +kernel)) ggX6_drift_X6_driftOf
theorem dX6_drift_0 : decode cX6_drift 0 = .ok (.aload_n 0, 1) := by decide +kernel
theorem dX6_drift_1 : decode cX6_drift 1 = .ok (.iload_n 1, 1) := by decide +kernel
theorem dX6_drift_2 : decode cX6_drift 2 = .ok (.invokevirtual 82, 3) := by decide +kernel
theorem dX6_drift_5 : decode cX6_drift 5 = .ok (.ifCond .eq 21, 3) := by decide +kernel
theorem dX6_drift_8 : decode cX6_drift 8 = .ok (.iload_n 2, 1) := by decide +kernel
theorem dX6_drift_9 : decode cX6_drift 9 = .ok (.iconst 0, 1) := by decide +kernel
theorem dX6_drift_10 : decode cX6_drift 10 = .ok (.iconst 1, 1) := by decide +kernel
theorem dX6_drift_11 : decode cX6_drift 11 = .ok (.invokestatic 75, 3) := by decide +kernel
theorem dX6_drift_14 : decode cX6_drift 14 = .ok (.ifCond .eq 12, 3) := by decide +kernel
theorem dX6_drift_17 : decode cX6_drift 17 = .ok (.aload_n 0, 1) := by decide +kernel
theorem dX6_drift_18 : decode cX6_drift 18 = .ok (.iload_n 1, 1) := by decide +kernel
theorem dX6_drift_19 : decode cX6_drift 19 = .ok (.iload_n 2, 1) := by decide +kernel
theorem dX6_drift_20 : decode cX6_drift 20 = .ok (.invokevirtual 123, 3) := by decide +kernel
theorem dX6_drift_23 : decode cX6_drift 23 = .ok (.goto 6, 3) := by decide +kernel
theorem dX6_drift_26 : decode cX6_drift 26 = .ok (.sipush (-1000), 3) := by decide +kernel
theorem dX6_drift_29 : decode cX6_drift 29 = .ok (.ireturn, 1) := by decide +kernel
theorem dX6_placeAt_0 : decode cX6_placeAt 0 = .ok (.aload_n 0, 1) := by decide +kernel
theorem dX6_placeAt_1 : decode cX6_placeAt 1 = .ok (.getfield 57, 3) := by decide +kernel
theorem dX6_placeAt_4 : decode cX6_placeAt 4 = .ok (.iload_n 1, 1) := by decide +kernel
theorem dX6_placeAt_5 : decode cX6_placeAt 5 = .ok (.iaload, 1) := by decide +kernel
theorem dX6_placeAt_6 : decode cX6_placeAt 6 = .ok (.iload_n 2, 1) := by decide +kernel
theorem dX6_placeAt_7 : decode cX6_placeAt 7 = .ok (.iadd, 1) := by decide +kernel
theorem dX6_placeAt_8 : decode cX6_placeAt 8 = .ok (.aload_n 0, 1) := by decide +kernel
theorem dX6_placeAt_9 : decode cX6_placeAt 9 = .ok (.getfield 36, 3) := by decide +kernel
theorem dX6_placeAt_12 : decode cX6_placeAt 12 = .ok (.iconst 0, 1) := by decide +kernel
theorem dX6_placeAt_13 : decode cX6_placeAt 13 = .ok (.iaload, 1) := by decide +kernel
theorem dX6_placeAt_14 : decode cX6_placeAt 14 = .ok (.isub, 1) := by decide +kernel
theorem dX6_placeAt_15 : decode cX6_placeAt 15 = .ok (.ireturn, 1) := by decide +kernel
set_option maxRecDepth 20000 in
theorem ggX6_strayAt_X6_size : GoodIn wsX6_strayAt wsX6_size := goodIn_r _ [5] (by decide +kernel) (by decide +kernel)
set_option maxRecDepth 20000 in
theorem gX6_strayAt_X6_size : GoodIn wsX6_strayAt (va_wsS RX6 115 yX6_size wsX6_size) := goodIn_app (goodIn_of _ (by decide +kernel)) ggX6_strayAt_X6_size
theorem dX6_strayAt_0 : decode cX6_strayAt 0 = .ok (.iload_n 1, 1) := by decide +kernel
theorem dX6_strayAt_1 : decode cX6_strayAt 1 = .ok (.aload_n 0, 1) := by decide +kernel
theorem dX6_strayAt_2 : decode cX6_strayAt 2 = .ok (.getfield 36, 3) := by decide +kernel
theorem dX6_strayAt_5 : decode cX6_strayAt 5 = .ok (.iconst 0, 1) := by decide +kernel
theorem dX6_strayAt_6 : decode cX6_strayAt 6 = .ok (.iaload, 1) := by decide +kernel
theorem dX6_strayAt_7 : decode cX6_strayAt 7 = .ok (.isub, 1) := by decide +kernel
theorem dX6_strayAt_8 : decode cX6_strayAt 8 = .ok (.invokestatic 115, 3) := by decide +kernel
theorem dX6_strayAt_11 : decode cX6_strayAt 11 = .ok (.ireturn, 1) := by decide +kernel
set_option maxRecDepth 20000 in
theorem ggX6_by_X6_placeAt : GoodIn wsX6_by wsX6_placeAt := goodIn_r _ [6, 7, 8, 16, 17, 18, 19, 20, 21, 22, 23, 24, 25, 26, 27, 28, 29, 30, 31, 32, 33, 34, 35, 36, 37, 38, 39, 40, 41, 42, 43, 44, 45, 46, 47, 48] (by decide +kernel) (by decide +kernel)
set_option maxRecDepth 20000 in
theorem gX6_by_X6_placeAt : GoodIn wsX6_by (wsV RX6 126 RX6 yX6_placeAt wsX6_placeAt) := goodIn_app (goodIn_of _ (by decide +kernel)) ggX6_by_X6_placeAt
set_option maxRecDepth 20000 in
theorem ggX6_by_X6_size : GoodIn wsX6_by wsX6_size := goodIn_r _ [11] (by decide +kernel) (by decide +kernel)
set_option maxRecDepth 20000 in
theorem gX6_by_X6_size : GoodIn wsX6_by (va_wsS RX6 115 yX6_size wsX6_size) := goodIn_app (goodIn_of _ (by decide +kernel)) ggX6_by_X6_size
set_option maxRecDepth 20000 in
theorem ggX6_by_X6_strayAt : GoodIn wsX6_by wsX6_strayAt := goodIn_r _ [15, 8, 9, 10, 5, 11, 16, 17, 18, 19, 20, 21, 22, 23, 24, 25, 26, 27, 28, 29, 30, 31, 32, 33, 34, 35, 36, 37, 38, 39, 40, 41, 42, 43, 44, 45, 46, 47, 48] (by decide +kernel) (by decide +kernel)
set_option maxRecDepth 20000 in
theorem gX6_by_X6_strayAt : GoodIn wsX6_by (wsV RX6 129 RX6 yX6_strayAt wsX6_strayAt) := goodIn_app (goodIn_of _ (by decide +kernel)) ggX6_by_X6_strayAt
theorem dX6_by_0 : decode cX6_by 0 = .ok (.aload_n 0, 1) := by decide +kernel
theorem dX6_by_1 : decode cX6_by 1 = .ok (.iload_n 1, 1) := by decide +kernel
theorem dX6_by_2 : decode cX6_by 2 = .ok (.iconst 1, 1) := by decide +kernel
theorem dX6_by_3 : decode cX6_by 3 = .ok (.iadd, 1) := by decide +kernel
theorem dX6_by_4 : decode cX6_by 4 = .ok (.iload 4, 2) := by decide +kernel
theorem dX6_by_6 : decode cX6_by 6 = .ok (.invokevirtual 126, 3) := by decide +kernel
theorem dX6_by_9 : decode cX6_by 9 = .ok (.iconst 2, 1) := by decide +kernel
theorem dX6_by_10 : decode cX6_by 10 = .ok (.aload_n 0, 1) := by decide +kernel
theorem dX6_by_11 : decode cX6_by 11 = .ok (.iload_n 1, 1) := by decide +kernel
theorem dX6_by_12 : decode cX6_by 12 = .ok (.iload_n 3, 1) := by decide +kernel
theorem dX6_by_13 : decode cX6_by 13 = .ok (.invokevirtual 126, 3) := by decide +kernel
theorem dX6_by_16 : decode cX6_by 16 = .ok (.imul, 1) := by decide +kernel
theorem dX6_by_17 : decode cX6_by 17 = .ok (.isub, 1) := by decide +kernel
theorem dX6_by_18 : decode cX6_by 18 = .ok (.aload_n 0, 1) := by decide +kernel
theorem dX6_by_19 : decode cX6_by 19 = .ok (.iload_n 1, 1) := by decide +kernel
theorem dX6_by_20 : decode cX6_by 20 = .ok (.iconst 1, 1) := by decide +kernel
theorem dX6_by_21 : decode cX6_by 21 = .ok (.isub, 1) := by decide +kernel
theorem dX6_by_22 : decode cX6_by 22 = .ok (.iload_n 2, 1) := by decide +kernel
theorem dX6_by_23 : decode cX6_by 23 = .ok (.invokevirtual 126, 3) := by decide +kernel
theorem dX6_by_26 : decode cX6_by 26 = .ok (.iadd, 1) := by decide +kernel
theorem dX6_by_27 : decode cX6_by 27 = .ok (.invokestatic 115, 3) := by decide +kernel
theorem dX6_by_30 : decode cX6_by 30 = .ok (.istore 5, 2) := by decide +kernel
theorem dX6_by_32 : decode cX6_by 32 = .ok (.bipush 100, 2) := by decide +kernel
theorem dX6_by_34 : decode cX6_by 34 = .ok (.iload 5, 2) := by decide +kernel
theorem dX6_by_36 : decode cX6_by 36 = .ok (.imul, 1) := by decide +kernel
theorem dX6_by_37 : decode cX6_by 37 = .ok (.aload_n 0, 1) := by decide +kernel
theorem dX6_by_38 : decode cX6_by 38 = .ok (.iload 4, 2) := by decide +kernel
theorem dX6_by_40 : decode cX6_by 40 = .ok (.invokevirtual 129, 3) := by decide +kernel
theorem dX6_by_43 : decode cX6_by 43 = .ok (.iadd, 1) := by decide +kernel
theorem dX6_by_44 : decode cX6_by 44 = .ok (.aload_n 0, 1) := by decide +kernel
theorem dX6_by_45 : decode cX6_by 45 = .ok (.getfield 63, 3) := by decide +kernel
theorem dX6_by_48 : decode cX6_by 48 = .ok (.bipush 49, 2) := by decide +kernel
theorem dX6_by_50 : decode cX6_by 50 = .ok (.iload_n 1, 1) := by decide +kernel
theorem dX6_by_51 : decode cX6_by 51 = .ok (.iconst 1, 1) := by decide +kernel
theorem dX6_by_52 : decode cX6_by 52 = .ok (.iadd, 1) := by decide +kernel
theorem dX6_by_53 : decode cX6_by 53 = .ok (.imul, 1) := by decide +kernel
theorem dX6_by_54 : decode cX6_by 54 = .ok (.bipush 7, 2) := by decide +kernel
theorem dX6_by_56 : decode cX6_by 56 = .ok (.iload_n 3, 1) := by decide +kernel
theorem dX6_by_57 : decode cX6_by 57 = .ok (.imul, 1) := by decide +kernel
theorem dX6_by_58 : decode cX6_by 58 = .ok (.iadd, 1) := by decide +kernel
theorem dX6_by_59 : decode cX6_by 59 = .ok (.iload 4, 2) := by decide +kernel
theorem dX6_by_61 : decode cX6_by 61 = .ok (.iadd, 1) := by decide +kernel
theorem dX6_by_62 : decode cX6_by 62 = .ok (.iaload, 1) := by decide +kernel
theorem dX6_by_63 : decode cX6_by 63 = .ok (.iadd, 1) := by decide +kernel
theorem dX6_by_64 : decode cX6_by 64 = .ok (.ireturn, 1) := by decide +kernel
set_option maxRecDepth 20000 in
theorem ggX6_findRest_X6_by : GoodIn wsX6_findRest wsX6_by := goodIn_r _ [8, 3, 9, 10, 11, 7, 12, 13, 1, 14, 15, 16, 17, 18, 19, 20, 21, 22, 23, 24, 25, 26, 27, 28, 29, 30, 31, 32, 33, 34, 35, 36, 37, 38, 39, 40, 41, 42, 43, 44, 45, 46, 47, 48, 49, 50, 51, 52, 53] (by decide +kernel) (by decide +kernel)
set_option maxRecDepth 20000 in
theorem gX6_findRest_X6_by : GoodIn wsX6_findRest (wsV RX6 132 RX6 yX6_by wsX6_by) := goodIn_app (goodIn_of _ (by decide +kernel)) ggX6_findRest_X6_by
theorem dX6_findRest_0 : decode cX6_findRest 0 = .ok (.iconst 2, 1) := by decide +kernel
theorem dX6_findRest_1 : decode cX6_findRest 1 = .ok (.aload_n 0, 1) := by decide +kernel
theorem dX6_findRest_2 : decode cX6_findRest 2 = .ok (.getfield 36, 3) := by decide +kernel
theorem dX6_findRest_5 : decode cX6_findRest 5 = .ok (.iconst 0, 1) := by decide +kernel
theorem dX6_findRest_6 : decode cX6_findRest 6 = .ok (.iaload, 1) := by decide +kernel
theorem dX6_findRest_7 : decode cX6_findRest 7 = .ok (.imul, 1) := by decide +kernel
theorem dX6_findRest_8 : decode cX6_findRest 8 = .ok (.iconst 1, 1) := by decide +kernel
theorem dX6_findRest_9 : decode cX6_findRest 9 = .ok (.iadd, 1) := by decide +kernel
theorem dX6_findRest_10 : decode cX6_findRest 10 = .ok (.istore_n 1, 1) := by decide +kernel
theorem dX6_findRest_11 : decode cX6_findRest 11 = .ok (.aload_n 0, 1) := by decide +kernel
theorem dX6_findRest_12 : decode cX6_findRest 12 = .ok (.getfield 72, 3) := by decide +kernel
theorem dX6_findRest_15 : decode cX6_findRest 15 = .ok (.iconst 1, 1) := by decide +kernel
theorem dX6_findRest_16 : decode cX6_findRest 16 = .ok (.isub, 1) := by decide +kernel
theorem dX6_findRest_17 : decode cX6_findRest 17 = .ok (.istore_n 2, 1) := by decide +kernel
theorem dX6_findRest_18 : decode cX6_findRest 18 = .ok (.iload_n 2, 1) := by decide +kernel
theorem dX6_findRest_19 : decode cX6_findRest 19 = .ok (.iconst 1, 1) := by decide +kernel
theorem dX6_findRest_20 : decode cX6_findRest 20 = .ok (.if_icmp .lt 138, 3) := by decide +kernel
theorem dX6_findRest_23 : decode cX6_findRest 23 = .ok (.iconst 0, 1) := by decide +kernel
theorem dX6_findRest_24 : decode cX6_findRest 24 = .ok (.istore_n 3, 1) := by decide +kernel
theorem dX6_findRest_25 : decode cX6_findRest 25 = .ok (.iload_n 3, 1) := by decide +kernel
theorem dX6_findRest_26 : decode cX6_findRest 26 = .ok (.iload_n 1, 1) := by decide +kernel
theorem dX6_findRest_27 : decode cX6_findRest 27 = .ok (.if_icmp .ge 125, 3) := by decide +kernel
theorem dX6_findRest_30 : decode cX6_findRest 30 = .ok (.iconst 0, 1) := by decide +kernel
theorem dX6_findRest_31 : decode cX6_findRest 31 = .ok (.istore 4, 2) := by decide +kernel
theorem dX6_findRest_33 : decode cX6_findRest 33 = .ok (.iload 4, 2) := by decide +kernel
theorem dX6_findRest_35 : decode cX6_findRest 35 = .ok (.iload_n 1, 1) := by decide +kernel
theorem dX6_findRest_36 : decode cX6_findRest 36 = .ok (.if_icmp .ge 110, 3) := by decide +kernel
theorem dX6_findRest_39 : decode cX6_findRest 39 = .ok (.iload_n 2, 1) := by decide +kernel
theorem dX6_findRest_40 : decode cX6_findRest 40 = .ok (.aload_n 0, 1) := by decide +kernel
theorem dX6_findRest_41 : decode cX6_findRest 41 = .ok (.getfield 72, 3) := by decide +kernel
theorem dX6_findRest_44 : decode cX6_findRest 44 = .ok (.iconst 1, 1) := by decide +kernel
theorem dX6_findRest_45 : decode cX6_findRest 45 = .ok (.isub, 1) := by decide +kernel
theorem dX6_findRest_46 : decode cX6_findRest 46 = .ok (.if_icmp .ne 7, 3) := by decide +kernel
theorem dX6_findRest_49 : decode cX6_findRest 49 = .ok (.iconst 0, 1) := by decide +kernel
theorem dX6_findRest_50 : decode cX6_findRest 50 = .ok (.goto 12, 3) := by decide +kernel
theorem dX6_findRest_53 : decode cX6_findRest 53 = .ok (.aload_n 0, 1) := by decide +kernel
theorem dX6_findRest_54 : decode cX6_findRest 54 = .ok (.iload_n 2, 1) := by decide +kernel
theorem dX6_findRest_55 : decode cX6_findRest 55 = .ok (.iload_n 3, 1) := by decide +kernel
theorem dX6_findRest_56 : decode cX6_findRest 56 = .ok (.iload 4, 2) := by decide +kernel
theorem dX6_findRest_58 : decode cX6_findRest 58 = .ok (.iconst 0, 1) := by decide +kernel
theorem dX6_findRest_59 : decode cX6_findRest 59 = .ok (.invokevirtual 132, 3) := by decide +kernel
theorem dX6_findRest_62 : decode cX6_findRest 62 = .ok (.istore 5, 2) := by decide +kernel
theorem dX6_findRest_64 : decode cX6_findRest 64 = .ok (.iconst 1, 1) := by decide +kernel
theorem dX6_findRest_65 : decode cX6_findRest 65 = .ok (.istore 6, 2) := by decide +kernel
theorem dX6_findRest_67 : decode cX6_findRest 67 = .ok (.iload 6, 2) := by decide +kernel
theorem dX6_findRest_69 : decode cX6_findRest 69 = .ok (.iload_n 1, 1) := by decide +kernel
theorem dX6_findRest_70 : decode cX6_findRest 70 = .ok (.if_icmp .ge 51, 3) := by decide +kernel
theorem dX6_findRest_73 : decode cX6_findRest 73 = .ok (.iload_n 2, 1) := by decide +kernel
theorem dX6_findRest_74 : decode cX6_findRest 74 = .ok (.aload_n 0, 1) := by decide +kernel
theorem dX6_findRest_75 : decode cX6_findRest 75 = .ok (.getfield 72, 3) := by decide +kernel
theorem dX6_findRest_78 : decode cX6_findRest 78 = .ok (.iconst 1, 1) := by decide +kernel
theorem dX6_findRest_79 : decode cX6_findRest 79 = .ok (.isub, 1) := by decide +kernel
theorem dX6_findRest_80 : decode cX6_findRest 80 = .ok (.if_icmp .ge 41, 3) := by decide +kernel
theorem dX6_findRest_83 : decode cX6_findRest 83 = .ok (.aload_n 0, 1) := by decide +kernel
theorem dX6_findRest_84 : decode cX6_findRest 84 = .ok (.iload_n 2, 1) := by decide +kernel
theorem dX6_findRest_85 : decode cX6_findRest 85 = .ok (.iload_n 3, 1) := by decide +kernel
theorem dX6_findRest_86 : decode cX6_findRest 86 = .ok (.iload 4, 2) := by decide +kernel
theorem dX6_findRest_88 : decode cX6_findRest 88 = .ok (.iload 6, 2) := by decide +kernel
theorem dX6_findRest_90 : decode cX6_findRest 90 = .ok (.invokevirtual 132, 3) := by decide +kernel
theorem dX6_findRest_93 : decode cX6_findRest 93 = .ok (.iload 5, 2) := by decide +kernel
theorem dX6_findRest_95 : decode cX6_findRest 95 = .ok (.if_icmp .ge 16, 3) := by decide +kernel
theorem dX6_findRest_98 : decode cX6_findRest 98 = .ok (.aload_n 0, 1) := by decide +kernel
theorem dX6_findRest_99 : decode cX6_findRest 99 = .ok (.iload_n 2, 1) := by decide +kernel
theorem dX6_findRest_100 : decode cX6_findRest 100 = .ok (.iload_n 3, 1) := by decide +kernel
theorem dX6_findRest_101 : decode cX6_findRest 101 = .ok (.iload 4, 2) := by decide +kernel
theorem dX6_findRest_103 : decode cX6_findRest 103 = .ok (.iload 6, 2) := by decide +kernel
theorem dX6_findRest_105 : decode cX6_findRest 105 = .ok (.invokevirtual 132, 3) := by decide +kernel
theorem dX6_findRest_108 : decode cX6_findRest 108 = .ok (.goto 5, 3) := by decide +kernel
theorem dX6_findRest_111 : decode cX6_findRest 111 = .ok (.iload 5, 2) := by decide +kernel
theorem dX6_findRest_113 : decode cX6_findRest 113 = .ok (.istore 5, 2) := by decide +kernel
theorem dX6_findRest_115 : decode cX6_findRest 115 = .ok (.iinc 6 1, 3) := by decide +kernel
theorem dX6_findRest_118 : decode cX6_findRest 118 = .ok (.goto (-51), 3) := by decide +kernel
theorem dX6_findRest_121 : decode cX6_findRest 121 = .ok (.aload_n 0, 1) := by decide +kernel
theorem dX6_findRest_122 : decode cX6_findRest 122 = .ok (.getfield 63, 3) := by decide +kernel
theorem dX6_findRest_125 : decode cX6_findRest 125 = .ok (.bipush 49, 2) := by decide +kernel
theorem dX6_findRest_127 : decode cX6_findRest 127 = .ok (.iload_n 2, 1) := by decide +kernel
theorem dX6_findRest_128 : decode cX6_findRest 128 = .ok (.imul, 1) := by decide +kernel
theorem dX6_findRest_129 : decode cX6_findRest 129 = .ok (.bipush 7, 2) := by decide +kernel
theorem dX6_findRest_131 : decode cX6_findRest 131 = .ok (.iload_n 3, 1) := by decide +kernel
theorem dX6_findRest_132 : decode cX6_findRest 132 = .ok (.imul, 1) := by decide +kernel
theorem dX6_findRest_133 : decode cX6_findRest 133 = .ok (.iadd, 1) := by decide +kernel
theorem dX6_findRest_134 : decode cX6_findRest 134 = .ok (.iload 4, 2) := by decide +kernel
theorem dX6_findRest_136 : decode cX6_findRest 136 = .ok (.iadd, 1) := by decide +kernel
theorem dX6_findRest_137 : decode cX6_findRest 137 = .ok (.iload 5, 2) := by decide +kernel
theorem dX6_findRest_139 : decode cX6_findRest 139 = .ok (.iastore, 1) := by decide +kernel
theorem dX6_findRest_140 : decode cX6_findRest 140 = .ok (.iinc 4 1, 3) := by decide +kernel
theorem dX6_findRest_143 : decode cX6_findRest 143 = .ok (.goto (-110), 3) := by decide +kernel
theorem dX6_findRest_146 : decode cX6_findRest 146 = .ok (.iinc 3 1, 3) := by decide +kernel
theorem dX6_findRest_149 : decode cX6_findRest 149 = .ok (.goto (-124), 3) := by decide +kernel
theorem dX6_findRest_152 : decode cX6_findRest 152 = .ok (.iinc 2 (-1), 3) := by decide +kernel
theorem dX6_findRest_155 : decode cX6_findRest 155 = .ok (.goto (-137), 3) := by decide +kernel
theorem dX6_findRest_158 : decode cX6_findRest 158 = .ok (.return_, 1) := by decide +kernel
set_option maxRecDepth 20000 in
theorem ggX6_findPath_X6_driftOf : GoodIn wsX6_findPath wsX6_driftOf := goodIn_r _ [12, 13, 14, 15, 16, 17, 11, 18, 19, 20, 21, 22, 23, 24, 25, 26, 27, 28, 29, 30, 31, 32, 33, 34, 35, 36, 37, 38, 39, 40, 41, 58, 59, 60, 61, 62, 63, 64, 65, 66, 67, 68, 69, 70, 71, 72, 73, 74, 75, 76, 77, 78, 79, 80, 81, 82, 83, 84, 85, 86, 87, 88, 89, 90] (by decide +kernel) (by decide +kernel)
set_option maxRecDepth 20000 in
theorem gX6_findPath_X6_driftOf : GoodIn wsX6_findPath (wsV RX6 123 RX6 yX6_driftOf wsX6_driftOf) := goodIn_app (goodIn_of _ (by decide +kernel)) ggX6_findPath_X6_driftOf
set_option maxRecDepth 20000 in
theorem ggX6_findPath_X6_findRest : GoodIn wsX6_findPath wsX6_findRest := goodIn_r _ [45, 1, 4, 7, 46, 47, 48, 11, 49, 50, 51, 52, 53, 5, 39, 40, 41, 54, 55, 56, 57, 58, 59, 60, 61, 62, 63, 64, 65, 66, 67, 68, 69, 70, 71, 72, 73, 74, 75, 76, 77, 78, 79, 80, 81, 82, 83, 84, 85, 86, 87, 88, 89, 90] (by decide +kernel) (by decide +kernel)
set_option maxRecDepth 20000 in
theorem gX6_findPath_X6_findRest : GoodIn wsX6_findPath (wsV RX6 142 RX6 yX6_findRest wsX6_findRest) := goodIn_app (goodIn_of _ (by decide +kernel)) ggX6_findPath_X6_findRest
set_option maxRecDepth 20000 in
theorem ggX6_findPath_X6_strayAt : GoodIn wsX6_findPath wsX6_strayAt := goodIn_r _ [57, 1, 39, 40, 11, 41, 58, 59, 60, 61, 62, 63, 64, 65, 66, 67, 68, 69, 70, 71, 72, 73, 74, 75, 76, 77, 78, 79, 80, 81, 82, 83, 84, 85, 86, 87, 88, 89, 90] (by decide +kernel) (by decide +kernel)
set_option maxRecDepth 20000 in
theorem gX6_findPath_X6_strayAt : GoodIn wsX6_findPath (wsV RX6 129 RX6 yX6_strayAt wsX6_strayAt) := goodIn_app (goodIn_of _ (by decide +kernel)) ggX6_findPath_X6_strayAt
set_option maxRecDepth 20000 in
theorem ggX6_findPath_X6_placeAt : GoodIn wsX6_findPath wsX6_placeAt := goodIn_r _ [53, 5, 1, 58, 59, 60, 61, 62, 63, 64, 65, 66, 67, 68, 69, 70, 71, 72, 73, 74, 75, 76, 77, 78, 79, 80, 81, 82, 83, 84, 85, 86, 87, 88, 89, 90] (by decide +kernel) (by decide +kernel)
set_option maxRecDepth 20000 in
theorem gX6_findPath_X6_placeAt : GoodIn wsX6_findPath (wsV RX6 126 RX6 yX6_placeAt wsX6_placeAt) := goodIn_app (goodIn_of _ (by decide +kernel)) ggX6_findPath_X6_placeAt
set_option maxRecDepth 20000 in
theorem ggX6_findPath_X6_by : GoodIn wsX6_findPath wsX6_by := goodIn_r _ [49, 7, 50, 51, 52, 11, 53, 5, 1, 39, 40, 41, 54, 55, 56, 57, 58, 59, 60, 61, 62, 63, 64, 65, 66, 67, 68, 69, 70, 71, 72, 73, 74, 75, 76, 77, 78, 79, 80, 81, 82, 83, 84, 85, 86, 87, 88, 89, 90] (by decide +kernel) (by decide +kernel)
set_option maxRecDepth 20000 in
theorem gX6_findPath_X6_by : GoodIn wsX6_findPath (wsV RX6 132 RX6 yX6_by wsX6_by) := goodIn_app (goodIn_of _ (by decide +kernel)) ggX6_findPath_X6_by
theorem dX6_findPath_0 : decode cX6_findPath 0 = .ok (.iconst 2, 1) := by decide +kernel
theorem dX6_findPath_1 : decode cX6_findPath 1 = .ok (.aload_n 0, 1) := by decide +kernel
theorem dX6_findPath_2 : decode cX6_findPath 2 = .ok (.getfield 36, 3) := by decide +kernel
theorem dX6_findPath_5 : decode cX6_findPath 5 = .ok (.iconst 0, 1) := by decide +kernel
theorem dX6_findPath_6 : decode cX6_findPath 6 = .ok (.iaload, 1) := by decide +kernel
theorem dX6_findPath_7 : decode cX6_findPath 7 = .ok (.imul, 1) := by decide +kernel
theorem dX6_findPath_8 : decode cX6_findPath 8 = .ok (.iconst 1, 1) := by decide +kernel
theorem dX6_findPath_9 : decode cX6_findPath 9 = .ok (.iadd, 1) := by decide +kernel
theorem dX6_findPath_10 : decode cX6_findPath 10 = .ok (.istore_n 2, 1) := by decide +kernel
theorem dX6_findPath_11 : decode cX6_findPath 11 = .ok (.aload_n 0, 1) := by decide +kernel
theorem dX6_findPath_12 : decode cX6_findPath 12 = .ok (.iconst 0, 1) := by decide +kernel
theorem dX6_findPath_13 : decode cX6_findPath 13 = .ok (.putfield 136, 3) := by decide +kernel
theorem dX6_findPath_16 : decode cX6_findPath 16 = .ok (.aload_n 0, 1) := by decide +kernel
theorem dX6_findPath_17 : decode cX6_findPath 17 = .ok (.iconst 0, 1) := by decide +kernel
theorem dX6_findPath_18 : decode cX6_findPath 18 = .ok (.putfield 139, 3) := by decide +kernel
theorem dX6_findPath_21 : decode cX6_findPath 21 = .ok (.iconst 0, 1) := by decide +kernel
theorem dX6_findPath_22 : decode cX6_findPath 22 = .ok (.istore_n 3, 1) := by decide +kernel
theorem dX6_findPath_23 : decode cX6_findPath 23 = .ok (.iload_n 3, 1) := by decide +kernel
theorem dX6_findPath_24 : decode cX6_findPath 24 = .ok (.aload_n 0, 1) := by decide +kernel
theorem dX6_findPath_25 : decode cX6_findPath 25 = .ok (.getfield 72, 3) := by decide +kernel
theorem dX6_findPath_28 : decode cX6_findPath 28 = .ok (.if_icmp .ge 33, 3) := by decide +kernel
theorem dX6_findPath_31 : decode cX6_findPath 31 = .ok (.aload_n 0, 1) := by decide +kernel
theorem dX6_findPath_32 : decode cX6_findPath 32 = .ok (.getfield 57, 3) := by decide +kernel
theorem dX6_findPath_35 : decode cX6_findPath 35 = .ok (.iload_n 3, 1) := by decide +kernel
theorem dX6_findPath_36 : decode cX6_findPath 36 = .ok (.aload_n 0, 1) := by decide +kernel
theorem dX6_findPath_37 : decode cX6_findPath 37 = .ok (.iload_n 3, 1) := by decide +kernel
theorem dX6_findPath_38 : decode cX6_findPath 38 = .ok (.iload_n 1, 1) := by decide +kernel
theorem dX6_findPath_39 : decode cX6_findPath 39 = .ok (.invokevirtual 123, 3) := by decide +kernel
theorem dX6_findPath_42 : decode cX6_findPath 42 = .ok (.iastore, 1) := by decide +kernel
theorem dX6_findPath_43 : decode cX6_findPath 43 = .ok (.aload_n 0, 1) := by decide +kernel
theorem dX6_findPath_44 : decode cX6_findPath 44 = .ok (.getfield 60, 3) := by decide +kernel
theorem dX6_findPath_47 : decode cX6_findPath 47 = .ok (.iload_n 3, 1) := by decide +kernel
theorem dX6_findPath_48 : decode cX6_findPath 48 = .ok (.aload_n 0, 1) := by decide +kernel
theorem dX6_findPath_49 : decode cX6_findPath 49 = .ok (.getfield 57, 3) := by decide +kernel
theorem dX6_findPath_52 : decode cX6_findPath 52 = .ok (.iload_n 3, 1) := by decide +kernel
theorem dX6_findPath_53 : decode cX6_findPath 53 = .ok (.iaload, 1) := by decide +kernel
theorem dX6_findPath_54 : decode cX6_findPath 54 = .ok (.iastore, 1) := by decide +kernel
theorem dX6_findPath_55 : decode cX6_findPath 55 = .ok (.iinc 3 1, 3) := by decide +kernel
theorem dX6_findPath_58 : decode cX6_findPath 58 = .ok (.goto (-35), 3) := by decide +kernel
theorem dX6_findPath_61 : decode cX6_findPath 61 = .ok (.aload_n 0, 1) := by decide +kernel
theorem dX6_findPath_62 : decode cX6_findPath 62 = .ok (.getfield 72, 3) := by decide +kernel
theorem dX6_findPath_65 : decode cX6_findPath 65 = .ok (.iconst 2, 1) := by decide +kernel
theorem dX6_findPath_66 : decode cX6_findPath 66 = .ok (.if_icmp .ge 4, 3) := by decide +kernel
theorem dX6_findPath_69 : decode cX6_findPath 69 = .ok (.return_, 1) := by decide +kernel
theorem dX6_findPath_70 : decode cX6_findPath 70 = .ok (.aload_n 0, 1) := by decide +kernel
theorem dX6_findPath_71 : decode cX6_findPath 71 = .ok (.invokevirtual 142, 3) := by decide +kernel
theorem dX6_findPath_74 : decode cX6_findPath 74 = .ok (.iconst (-1), 1) := by decide +kernel
theorem dX6_findPath_75 : decode cX6_findPath 75 = .ok (.istore_n 3, 1) := by decide +kernel
theorem dX6_findPath_76 : decode cX6_findPath 76 = .ok (.iconst 0, 1) := by decide +kernel
theorem dX6_findPath_77 : decode cX6_findPath 77 = .ok (.istore 4, 2) := by decide +kernel
theorem dX6_findPath_79 : decode cX6_findPath 79 = .ok (.iconst 0, 1) := by decide +kernel
theorem dX6_findPath_80 : decode cX6_findPath 80 = .ok (.istore 5, 2) := by decide +kernel
theorem dX6_findPath_82 : decode cX6_findPath 82 = .ok (.iconst 0, 1) := by decide +kernel
theorem dX6_findPath_83 : decode cX6_findPath 83 = .ok (.istore 6, 2) := by decide +kernel
theorem dX6_findPath_85 : decode cX6_findPath 85 = .ok (.iload 6, 2) := by decide +kernel
theorem dX6_findPath_87 : decode cX6_findPath 87 = .ok (.iload_n 2, 1) := by decide +kernel
theorem dX6_findPath_88 : decode cX6_findPath 88 = .ok (.if_icmp .ge 77, 3) := by decide +kernel
theorem dX6_findPath_91 : decode cX6_findPath 91 = .ok (.iconst 0, 1) := by decide +kernel
theorem dX6_findPath_92 : decode cX6_findPath 92 = .ok (.istore 7, 2) := by decide +kernel
theorem dX6_findPath_94 : decode cX6_findPath 94 = .ok (.iload 7, 2) := by decide +kernel
theorem dX6_findPath_96 : decode cX6_findPath 96 = .ok (.iload_n 2, 1) := by decide +kernel
theorem dX6_findPath_97 : decode cX6_findPath 97 = .ok (.if_icmp .ge 62, 3) := by decide +kernel
theorem dX6_findPath_100 : decode cX6_findPath 100 = .ok (.aload_n 0, 1) := by decide +kernel
theorem dX6_findPath_101 : decode cX6_findPath 101 = .ok (.iload 6, 2) := by decide +kernel
theorem dX6_findPath_103 : decode cX6_findPath 103 = .ok (.invokevirtual 129, 3) := by decide +kernel
theorem dX6_findPath_106 : decode cX6_findPath 106 = .ok (.aload_n 0, 1) := by decide +kernel
theorem dX6_findPath_107 : decode cX6_findPath 107 = .ok (.iload 7, 2) := by decide +kernel
theorem dX6_findPath_109 : decode cX6_findPath 109 = .ok (.invokevirtual 129, 3) := by decide +kernel
theorem dX6_findPath_112 : decode cX6_findPath 112 = .ok (.iadd, 1) := by decide +kernel
theorem dX6_findPath_113 : decode cX6_findPath 113 = .ok (.aload_n 0, 1) := by decide +kernel
theorem dX6_findPath_114 : decode cX6_findPath 114 = .ok (.getfield 63, 3) := by decide +kernel
theorem dX6_findPath_117 : decode cX6_findPath 117 = .ok (.bipush 49, 2) := by decide +kernel
theorem dX6_findPath_119 : decode cX6_findPath 119 = .ok (.bipush 7, 2) := by decide +kernel
theorem dX6_findPath_121 : decode cX6_findPath 121 = .ok (.iload 6, 2) := by decide +kernel
theorem dX6_findPath_123 : decode cX6_findPath 123 = .ok (.imul, 1) := by decide +kernel
theorem dX6_findPath_124 : decode cX6_findPath 124 = .ok (.iadd, 1) := by decide +kernel
theorem dX6_findPath_125 : decode cX6_findPath 125 = .ok (.iload 7, 2) := by decide +kernel
theorem dX6_findPath_127 : decode cX6_findPath 127 = .ok (.iadd, 1) := by decide +kernel
theorem dX6_findPath_128 : decode cX6_findPath 128 = .ok (.iaload, 1) := by decide +kernel
theorem dX6_findPath_129 : decode cX6_findPath 129 = .ok (.iadd, 1) := by decide +kernel
theorem dX6_findPath_130 : decode cX6_findPath 130 = .ok (.istore 8, 2) := by decide +kernel
theorem dX6_findPath_132 : decode cX6_findPath 132 = .ok (.iload_n 3, 1) := by decide +kernel
theorem dX6_findPath_133 : decode cX6_findPath 133 = .ok (.ifCond .lt 9, 3) := by decide +kernel
theorem dX6_findPath_136 : decode cX6_findPath 136 = .ok (.iload 8, 2) := by decide +kernel
theorem dX6_findPath_138 : decode cX6_findPath 138 = .ok (.iload_n 3, 1) := by decide +kernel
theorem dX6_findPath_139 : decode cX6_findPath 139 = .ok (.if_icmp .ge 14, 3) := by decide +kernel
theorem dX6_findPath_142 : decode cX6_findPath 142 = .ok (.iload 8, 2) := by decide +kernel
theorem dX6_findPath_144 : decode cX6_findPath 144 = .ok (.istore_n 3, 1) := by decide +kernel
theorem dX6_findPath_145 : decode cX6_findPath 145 = .ok (.iload 6, 2) := by decide +kernel
theorem dX6_findPath_147 : decode cX6_findPath 147 = .ok (.istore 4, 2) := by decide +kernel
theorem dX6_findPath_149 : decode cX6_findPath 149 = .ok (.iload 7, 2) := by decide +kernel
theorem dX6_findPath_151 : decode cX6_findPath 151 = .ok (.istore 5, 2) := by decide +kernel
theorem dX6_findPath_153 : decode cX6_findPath 153 = .ok (.iinc 7 1, 3) := by decide +kernel
theorem dX6_findPath_156 : decode cX6_findPath 156 = .ok (.goto (-62), 3) := by decide +kernel
theorem dX6_findPath_159 : decode cX6_findPath 159 = .ok (.iinc 6 1, 3) := by decide +kernel
theorem dX6_findPath_162 : decode cX6_findPath 162 = .ok (.goto (-77), 3) := by decide +kernel
theorem dX6_findPath_165 : decode cX6_findPath 165 = .ok (.aload_n 0, 1) := by decide +kernel
theorem dX6_findPath_166 : decode cX6_findPath 166 = .ok (.iload_n 3, 1) := by decide +kernel
theorem dX6_findPath_167 : decode cX6_findPath 167 = .ok (.bipush 100, 2) := by decide +kernel
theorem dX6_findPath_169 : decode cX6_findPath 169 = .ok (.idiv, 1) := by decide +kernel
theorem dX6_findPath_170 : decode cX6_findPath 170 = .ok (.putfield 136, 3) := by decide +kernel
theorem dX6_findPath_173 : decode cX6_findPath 173 = .ok (.aload_n 0, 1) := by decide +kernel
theorem dX6_findPath_174 : decode cX6_findPath 174 = .ok (.iload_n 3, 1) := by decide +kernel
theorem dX6_findPath_175 : decode cX6_findPath 175 = .ok (.bipush 100, 2) := by decide +kernel
theorem dX6_findPath_177 : decode cX6_findPath 177 = .ok (.irem, 1) := by decide +kernel
theorem dX6_findPath_178 : decode cX6_findPath 178 = .ok (.putfield 139, 3) := by decide +kernel
theorem dX6_findPath_181 : decode cX6_findPath 181 = .ok (.aload_n 0, 1) := by decide +kernel
theorem dX6_findPath_182 : decode cX6_findPath 182 = .ok (.getfield 60, 3) := by decide +kernel
theorem dX6_findPath_185 : decode cX6_findPath 185 = .ok (.iconst 0, 1) := by decide +kernel
theorem dX6_findPath_186 : decode cX6_findPath 186 = .ok (.aload_n 0, 1) := by decide +kernel
theorem dX6_findPath_187 : decode cX6_findPath 187 = .ok (.iconst 0, 1) := by decide +kernel
theorem dX6_findPath_188 : decode cX6_findPath 188 = .ok (.iload 4, 2) := by decide +kernel
theorem dX6_findPath_190 : decode cX6_findPath 190 = .ok (.invokevirtual 126, 3) := by decide +kernel
theorem dX6_findPath_193 : decode cX6_findPath 193 = .ok (.iastore, 1) := by decide +kernel
theorem dX6_findPath_194 : decode cX6_findPath 194 = .ok (.aload_n 0, 1) := by decide +kernel
theorem dX6_findPath_195 : decode cX6_findPath 195 = .ok (.getfield 60, 3) := by decide +kernel
theorem dX6_findPath_198 : decode cX6_findPath 198 = .ok (.iconst 1, 1) := by decide +kernel
theorem dX6_findPath_199 : decode cX6_findPath 199 = .ok (.aload_n 0, 1) := by decide +kernel
theorem dX6_findPath_200 : decode cX6_findPath 200 = .ok (.iconst 1, 1) := by decide +kernel
theorem dX6_findPath_201 : decode cX6_findPath 201 = .ok (.iload 5, 2) := by decide +kernel
theorem dX6_findPath_203 : decode cX6_findPath 203 = .ok (.invokevirtual 126, 3) := by decide +kernel
theorem dX6_findPath_206 : decode cX6_findPath 206 = .ok (.iastore, 1) := by decide +kernel
theorem dX6_findPath_207 : decode cX6_findPath 207 = .ok (.iconst 1, 1) := by decide +kernel
theorem dX6_findPath_208 : decode cX6_findPath 208 = .ok (.istore 6, 2) := by decide +kernel
theorem dX6_findPath_210 : decode cX6_findPath 210 = .ok (.iload 6, 2) := by decide +kernel
theorem dX6_findPath_212 : decode cX6_findPath 212 = .ok (.aload_n 0, 1) := by decide +kernel
theorem dX6_findPath_213 : decode cX6_findPath 213 = .ok (.getfield 72, 3) := by decide +kernel
theorem dX6_findPath_216 : decode cX6_findPath 216 = .ok (.iconst 1, 1) := by decide +kernel
theorem dX6_findPath_217 : decode cX6_findPath 217 = .ok (.isub, 1) := by decide +kernel
theorem dX6_findPath_218 : decode cX6_findPath 218 = .ok (.if_icmp .ge 79, 3) := by decide +kernel
theorem dX6_findPath_221 : decode cX6_findPath 221 = .ok (.iconst 0, 1) := by decide +kernel
theorem dX6_findPath_222 : decode cX6_findPath 222 = .ok (.istore 7, 2) := by decide +kernel
theorem dX6_findPath_224 : decode cX6_findPath 224 = .ok (.aload_n 0, 1) := by decide +kernel
theorem dX6_findPath_225 : decode cX6_findPath 225 = .ok (.iload 6, 2) := by decide +kernel
theorem dX6_findPath_227 : decode cX6_findPath 227 = .ok (.iload 4, 2) := by decide +kernel
theorem dX6_findPath_229 : decode cX6_findPath 229 = .ok (.iload 5, 2) := by decide +kernel
theorem dX6_findPath_231 : decode cX6_findPath 231 = .ok (.iload 7, 2) := by decide +kernel
theorem dX6_findPath_233 : decode cX6_findPath 233 = .ok (.invokevirtual 132, 3) := by decide +kernel
theorem dX6_findPath_236 : decode cX6_findPath 236 = .ok (.aload_n 0, 1) := by decide +kernel
theorem dX6_findPath_237 : decode cX6_findPath 237 = .ok (.getfield 63, 3) := by decide +kernel
theorem dX6_findPath_240 : decode cX6_findPath 240 = .ok (.bipush 49, 2) := by decide +kernel
theorem dX6_findPath_242 : decode cX6_findPath 242 = .ok (.iload 6, 2) := by decide +kernel
theorem dX6_findPath_244 : decode cX6_findPath 244 = .ok (.imul, 1) := by decide +kernel
theorem dX6_findPath_245 : decode cX6_findPath 245 = .ok (.bipush 7, 2) := by decide +kernel
theorem dX6_findPath_247 : decode cX6_findPath 247 = .ok (.iload 4, 2) := by decide +kernel
theorem dX6_findPath_249 : decode cX6_findPath 249 = .ok (.imul, 1) := by decide +kernel
theorem dX6_findPath_250 : decode cX6_findPath 250 = .ok (.iadd, 1) := by decide +kernel
theorem dX6_findPath_251 : decode cX6_findPath 251 = .ok (.iload 5, 2) := by decide +kernel
theorem dX6_findPath_253 : decode cX6_findPath 253 = .ok (.iadd, 1) := by decide +kernel
theorem dX6_findPath_254 : decode cX6_findPath 254 = .ok (.iaload, 1) := by decide +kernel
theorem dX6_findPath_255 : decode cX6_findPath 255 = .ok (.if_icmp .eq 9, 3) := by decide +kernel
theorem dX6_findPath_258 : decode cX6_findPath 258 = .ok (.iinc 7 1, 3) := by decide +kernel
theorem dX6_findPath_261 : decode cX6_findPath 261 = .ok (.goto (-37), 3) := by decide +kernel
theorem dX6_findPath_264 : decode cX6_findPath 264 = .ok (.aload_n 0, 1) := by decide +kernel
theorem dX6_findPath_265 : decode cX6_findPath 265 = .ok (.getfield 60, 3) := by decide +kernel
theorem dX6_findPath_268 : decode cX6_findPath 268 = .ok (.iload 6, 2) := by decide +kernel
theorem dX6_findPath_270 : decode cX6_findPath 270 = .ok (.iconst 1, 1) := by decide +kernel
theorem dX6_findPath_271 : decode cX6_findPath 271 = .ok (.iadd, 1) := by decide +kernel
theorem dX6_findPath_272 : decode cX6_findPath 272 = .ok (.aload_n 0, 1) := by decide +kernel
theorem dX6_findPath_273 : decode cX6_findPath 273 = .ok (.iload 6, 2) := by decide +kernel
theorem dX6_findPath_275 : decode cX6_findPath 275 = .ok (.iconst 1, 1) := by decide +kernel
theorem dX6_findPath_276 : decode cX6_findPath 276 = .ok (.iadd, 1) := by decide +kernel
theorem dX6_findPath_277 : decode cX6_findPath 277 = .ok (.iload 7, 2) := by decide +kernel
theorem dX6_findPath_279 : decode cX6_findPath 279 = .ok (.invokevirtual 126, 3) := by decide +kernel
theorem dX6_findPath_282 : decode cX6_findPath 282 = .ok (.iastore, 1) := by decide +kernel
theorem dX6_findPath_283 : decode cX6_findPath 283 = .ok (.iload 5, 2) := by decide +kernel
theorem dX6_findPath_285 : decode cX6_findPath 285 = .ok (.istore 4, 2) := by decide +kernel
theorem dX6_findPath_287 : decode cX6_findPath 287 = .ok (.iload 7, 2) := by decide +kernel
theorem dX6_findPath_289 : decode cX6_findPath 289 = .ok (.istore 5, 2) := by decide +kernel
theorem dX6_findPath_291 : decode cX6_findPath 291 = .ok (.iinc 6 1, 3) := by decide +kernel
theorem dX6_findPath_294 : decode cX6_findPath 294 = .ok (.goto (-84), 3) := by decide +kernel
theorem dX6_findPath_297 : decode cX6_findPath 297 = .ok (.return_, 1) := by decide +kernel
set_option maxRecDepth 20000 in
theorem ggX6_path_X6_isFrame : GoodIn wsX6_path wsX6_isFrame := goodIn_r _ [6, 7, 8, 9, 5, 10, 66, 67, 68, 69, 70, 71, 72, 73, 74, 75, 76, 77, 78, 79, 80, 81, 82, 83, 84, 85, 86, 87, 88, 89, 90, 91, 92, 93, 94, 95, 96, 97, 98] (by decide +kernel) (by decide +kernel)
set_option maxRecDepth 20000 in
theorem gX6_path_X6_isFrame : GoodIn wsX6_path (wsV RX6 82 RX6 yX6_isFrame wsX6_isFrame) := goodIn_app (goodIn_of _ (by decide +kernel)) ggX6_path_X6_isFrame
set_option maxRecDepth 20000 in
theorem ggX6_path_X6_in : GoodIn wsX6_path wsX6_in := goodIn_r _ [10] (by decide +kernel) (by decide +kernel)
set_option maxRecDepth 20000 in
theorem gX6_path_X6_in : GoodIn wsX6_path (va_wsS RX6 75 yX6_in wsX6_in) := goodIn_app (goodIn_of _ (by decide +kernel)) ggX6_path_X6_in
set_option maxRecDepth 20000 in
theorem ggX6_path_X6_findPath : GoodIn wsX6_path wsX6_findPath := goodIn_r _ [14, 15, 16, 17, 7, 18, 1, 19, 20, 21, 22, 5, 23, 24, 25, 26, 27, 28, 29, 30, 31, 32, 33, 34, 35, 36, 37, 38, 39, 40, 41, 42, 8, 9, 10, 43, 44, 45, 46, 47, 48, 49, 50, 51, 52, 53, 54, 55, 56, 57, 58, 59, 60, 61, 62, 63, 64, 65, 66, 67, 68, 69, 70, 71, 72, 73, 74, 75, 76, 77, 78, 79, 80, 81, 82, 83, 84, 85, 86, 87, 88, 89, 90, 91, 92, 93, 94, 95, 96, 97, 98] (by decide +kernel) (by decide +kernel)
set_option maxRecDepth 20000 in
theorem gX6_path_X6_findPath : GoodIn wsX6_path (wsV RX6 145 RX6 yX6_findPath wsX6_findPath) := goodIn_app (goodIn_of _ (by decide +kernel)) ggX6_path_X6_findPath

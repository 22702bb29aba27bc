set_option maxRecDepth 20000 in
theorem ggX5_init_X1_init : GoodIn wsX5_init wsX1_init := goodIn_r _ [36, 37, 2, 3, 12, 38, 39, 40, 41, 42, 76, 77, 78, 79, 80] (by decide +kernel) (by decide +kernel)
set_option maxRecDepth 20000 in
theorem gX5_init_X1_init : GoodIn wsX5_init (wsX1_init) := ggX5_init_X1_init
set_option maxRecDepth 20000 in
theorem ggX5_init_X0_init : GoodIn wsX5_init wsX0_init := goodIn_r _ [45, 46, 2, 3, 47, 12, 48, 49, 50, 51, 52, 53, 90, 91, 92, 93, 94, 95] (by decide +kernel) (by decide +kernel)
set_option maxRecDepth 20000 in
theorem gX5_init_X0_init : GoodIn wsX5_init (wsX0_init) := ggX5_init_X0_init
set_option maxRecDepth 20000 in
theorem ggX5_init_X3_init : GoodIn wsX5_init wsX3_init := goodIn_r _ [56, 57, 2, 3, 58, 96, 97, 98, 99, 100, 101, 102] (by decide +kernel) (by decide +kernel)
set_option maxRecDepth 20000 in
theorem gX5_init_X3_init : GoodIn wsX5_init (wsX3_init) := ggX5_init_X3_init
set_option maxRecDepth 20000 in
theorem ggX5_init_X4_init : GoodIn wsX5_init wsX4_init := goodIn_r _ [61, 62, 2, 3, 12, 63, 64, 65, 103, 104, 105, 106, 107, 108] (by decide +kernel) (by decide +kernel)
set_option maxRecDepth 20000 in
theorem gX5_init_X4_init : GoodIn wsX5_init (wsX4_init) := ggX5_init_X4_init
set_option maxRecDepth 20000 in
theorem ggX5_init_X2_init : GoodIn wsX5_init wsX2_init := goodIn_r _ [68, 69, 2, 3, 70, 71, 72, 12, 73, 74, 75, 109, 110, 111, 112, 113, 114] (by decide +kernel) (by decide +kernel)
set_option maxRecDepth 20000 in
theorem gX5_init_X2_init : GoodIn wsX5_init (wsX2_init) := ggX5_init_X2_init
theorem dX5_init_0 : decode cX5_init 0 = .ok (.aload_n 0, 1) := by decide +kernel
theorem dX5_init_1 : decode cX5_init 1 = .ok (.invokespecial 3, 3) := by decide +kernel
theorem dX5_init_4 : decode cX5_init 4 = .ok (.aload_n 0, 1) := by decide +kernel
theorem dX5_init_5 : decode cX5_init 5 = .ok (.new 9, 3) := by decide +kernel
theorem dX5_init_8 : decode cX5_init 8 = .ok (.dup, 1) := by decide +kernel
theorem dX5_init_9 : decode cX5_init 9 = .ok (.invokespecial 11, 3) := by decide +kernel
theorem dX5_init_12 : decode cX5_init 12 = .ok (.putfield 12, 3) := by decide +kernel
theorem dX5_init_15 : decode cX5_init 15 = .ok (.aload_n 0, 1) := by decide +kernel
theorem dX5_init_16 : decode cX5_init 16 = .ok (.new 16, 3) := by decide +kernel
theorem dX5_init_19 : decode cX5_init 19 = .ok (.dup, 1) := by decide +kernel
theorem dX5_init_20 : decode cX5_init 20 = .ok (.invokespecial 18, 3) := by decide +kernel
theorem dX5_init_23 : decode cX5_init 23 = .ok (.putfield 19, 3) := by decide +kernel
theorem dX5_init_26 : decode cX5_init 26 = .ok (.aload_n 0, 1) := by decide +kernel
theorem dX5_init_27 : decode cX5_init 27 = .ok (.iconst 3, 1) := by decide +kernel
theorem dX5_init_28 : decode cX5_init 28 = .ok (.newarray .int, 2) := by decide +kernel
theorem dX5_init_30 : decode cX5_init 30 = .ok (.putfield 23, 3) := by decide +kernel
theorem dX5_init_33 : decode cX5_init 33 = .ok (.getstatic 27, 3) := by decide +kernel
theorem dX5_init_36 : decode cX5_init 36 = .ok (.iconst 0, 1) := by decide +kernel
theorem dX5_init_37 : decode cX5_init 37 = .ok (.aload_n 0, 1) := by decide +kernel
theorem dX5_init_38 : decode cX5_init 38 = .ok (.getfield 23, 3) := by decide +kernel
theorem dX5_init_41 : decode cX5_init 41 = .ok (.iconst 0, 1) := by decide +kernel
theorem dX5_init_42 : decode cX5_init 42 = .ok (.iconst 3, 1) := by decide +kernel
theorem dX5_init_43 : decode cX5_init 43 = .ok (.invokestatic 30, 3) := by decide +kernel
theorem dX5_init_46 : decode cX5_init 46 = .ok (.aload_n 0, 1) := by decide +kernel
theorem dX5_init_47 : decode cX5_init 47 = .ok (.new 36, 3) := by decide +kernel
theorem dX5_init_50 : decode cX5_init 50 = .ok (.dup, 1) := by decide +kernel
theorem dX5_init_51 : decode cX5_init 51 = .ok (.aload_n 0, 1) := by decide +kernel
theorem dX5_init_52 : decode cX5_init 52 = .ok (.getfield 12, 3) := by decide +kernel
theorem dX5_init_55 : decode cX5_init 55 = .ok (.invokespecial 38, 3) := by decide +kernel
theorem dX5_init_58 : decode cX5_init 58 = .ok (.putfield 41, 3) := by decide +kernel
theorem dX5_init_61 : decode cX5_init 61 = .ok (.aload_n 0, 1) := by decide +kernel
theorem dX5_init_62 : decode cX5_init 62 = .ok (.new 45, 3) := by decide +kernel
theorem dX5_init_65 : decode cX5_init 65 = .ok (.dup, 1) := by decide +kernel
theorem dX5_init_66 : decode cX5_init 66 = .ok (.invokespecial 47, 3) := by decide +kernel
theorem dX5_init_69 : decode cX5_init 69 = .ok (.putfield 48, 3) := by decide +kernel
theorem dX5_init_72 : decode cX5_init 72 = .ok (.aload_n 0, 1) := by decide +kernel
theorem dX5_init_73 : decode cX5_init 73 = .ok (.new 52, 3) := by decide +kernel
theorem dX5_init_76 : decode cX5_init 76 = .ok (.dup, 1) := by decide +kernel
theorem dX5_init_77 : decode cX5_init 77 = .ok (.aload_n 0, 1) := by decide +kernel
theorem dX5_init_78 : decode cX5_init 78 = .ok (.getfield 12, 3) := by decide +kernel
theorem dX5_init_81 : decode cX5_init 81 = .ok (.aload_n 0, 1) := by decide +kernel
theorem dX5_init_82 : decode cX5_init 82 = .ok (.getfield 19, 3) := by decide +kernel
theorem dX5_init_85 : decode cX5_init 85 = .ok (.aload_n 0, 1) := by decide +kernel
theorem dX5_init_86 : decode cX5_init 86 = .ok (.getfield 23, 3) := by decide +kernel
theorem dX5_init_89 : decode cX5_init 89 = .ok (.invokespecial 54, 3) := by decide +kernel
theorem dX5_init_92 : decode cX5_init 92 = .ok (.putfield 57, 3) := by decide +kernel
theorem dX5_init_95 : decode cX5_init 95 = .ok (.aload_n 0, 1) := by decide +kernel
theorem dX5_init_96 : decode cX5_init 96 = .ok (.new 9, 3) := by decide +kernel
theorem dX5_init_99 : decode cX5_init 99 = .ok (.dup, 1) := by decide +kernel
theorem dX5_init_100 : decode cX5_init 100 = .ok (.invokespecial 11, 3) := by decide +kernel
theorem dX5_init_103 : decode cX5_init 103 = .ok (.putfield 61, 3) := by decide +kernel
theorem dX5_init_106 : decode cX5_init 106 = .ok (.aload_n 0, 1) := by decide +kernel
theorem dX5_init_107 : decode cX5_init 107 = .ok (.new 16, 3) := by decide +kernel
theorem dX5_init_110 : decode cX5_init 110 = .ok (.dup, 1) := by decide +kernel
theorem dX5_init_111 : decode cX5_init 111 = .ok (.invokespecial 18, 3) := by decide +kernel
theorem dX5_init_114 : decode cX5_init 114 = .ok (.putfield 64, 3) := by decide +kernel
theorem dX5_init_117 : decode cX5_init 117 = .ok (.aload_n 0, 1) := by decide +kernel
theorem dX5_init_118 : decode cX5_init 118 = .ok (.iconst 0, 1) := by decide +kernel
theorem dX5_init_119 : decode cX5_init 119 = .ok (.putfield 67, 3) := by decide +kernel
theorem dX5_init_122 : decode cX5_init 122 = .ok (.return_, 1) := by decide +kernel
set_option maxRecDepth 20000 in
theorem ggX5_reel_X5_isWithin : GoodIn wsX5_reel wsX5_isWithin := goodIn_r _ [8] (by decide +kernel) (by decide +kernel)
set_option maxRecDepth 20000 in
theorem gX5_reel_X5_isWithin : GoodIn wsX5_reel (va_wsS RX5 71 yX5_isWithin wsX5_isWithin) := goodIn_app (goodIn_of _ (by decide +kernel)) ggX5_reel_X5_isWithin
set_option maxRecDepth 20000 in
theorem ggX5_reel_X1_start : GoodIn wsX5_reel wsX1_start := goodIn_r _ [13, 14, 15, 16, 17, 33, 34, 35, 36, 37] (by decide +kernel) (by decide +kernel)
set_option maxRecDepth 20000 in
theorem gX5_reel_X1_start : GoodIn wsX5_reel (wsV RX5 75 RX1 yX1_start wsX1_start) := goodIn_app (goodIn_of _ (by decide +kernel)) ggX5_reel_X1_start
theorem dX5_reel_0 : decode cX5_reel 0 = .ok (.iload_n 1, 1) := by decide +kernel
theorem dX5_reel_1 : decode cX5_reel 1 = .ok (.iconst 2, 1) := by decide +kernel
theorem dX5_reel_2 : decode cX5_reel 2 = .ok (.bipush 6, 2) := by decide +kernel
theorem dX5_reel_4 : decode cX5_reel 4 = .ok (.invokestatic 71, 3) := by decide +kernel
theorem dX5_reel_7 : decode cX5_reel 7 = .ok (.ifCond .eq 13, 3) := by decide +kernel
theorem dX5_reel_10 : decode cX5_reel 10 = .ok (.iload_n 2, 1) := by decide +kernel
theorem dX5_reel_11 : decode cX5_reel 11 = .ok (.iconst 2, 1) := by decide +kernel
theorem dX5_reel_12 : decode cX5_reel 12 = .ok (.bipush 6, 2) := by decide +kernel
theorem dX5_reel_14 : decode cX5_reel 14 = .ok (.invokestatic 71, 3) := by decide +kernel
theorem dX5_reel_17 : decode cX5_reel 17 = .ok (.ifCond .ne 5, 3) := by decide +kernel
theorem dX5_reel_20 : decode cX5_reel 20 = .ok (.iconst (-1), 1) := by decide +kernel
theorem dX5_reel_21 : decode cX5_reel 21 = .ok (.ireturn, 1) := by decide +kernel
theorem dX5_reel_22 : decode cX5_reel 22 = .ok (.aload_n 0, 1) := by decide +kernel
theorem dX5_reel_23 : decode cX5_reel 23 = .ok (.getfield 12, 3) := by decide +kernel
theorem dX5_reel_26 : decode cX5_reel 26 = .ok (.iload_n 1, 1) := by decide +kernel
theorem dX5_reel_27 : decode cX5_reel 27 = .ok (.iload_n 2, 1) := by decide +kernel
theorem dX5_reel_28 : decode cX5_reel 28 = .ok (.invokevirtual 75, 3) := by decide +kernel
theorem dX5_reel_31 : decode cX5_reel 31 = .ok (.aload_n 0, 1) := by decide +kernel
theorem dX5_reel_32 : decode cX5_reel 32 = .ok (.getfield 19, 3) := by decide +kernel
theorem dX5_reel_35 : decode cX5_reel 35 = .ok (.iconst 0, 1) := by decide +kernel
theorem dX5_reel_36 : decode cX5_reel 36 = .ok (.putfield 79, 3) := by decide +kernel
theorem dX5_reel_39 : decode cX5_reel 39 = .ok (.aload_n 0, 1) := by decide +kernel
theorem dX5_reel_40 : decode cX5_reel 40 = .ok (.getfield 12, 3) := by decide +kernel
theorem dX5_reel_43 : decode cX5_reel 43 = .ok (.getfield 83, 3) := by decide +kernel
theorem dX5_reel_46 : decode cX5_reel 46 = .ok (.ireturn, 1) := by decide +kernel
set_option maxRecDepth 20000 in
theorem ggX5_frame_X1_addFrame : GoodIn wsX5_frame wsX1_addFrame := goodIn_r _ [7, 8, 9, 10, 11, 12, 6, 13, 14, 15, 16, 17, 18, 19, 20, 21, 22, 32, 33, 34, 35, 36] (by decide +kernel) (by decide +kernel)
set_option maxRecDepth 20000 in
theorem gX5_frame_X1_addFrame : GoodIn wsX5_frame (wsV RX5 89 RX1 yX1_addFrame wsX1_addFrame) := goodIn_app (goodIn_of _ (by decide +kernel)) ggX5_frame_X1_addFrame
theorem dX5_frame_0 : decode cX5_frame 0 = .ok (.aload_n 0, 1) := by decide +kernel
theorem dX5_frame_1 : decode cX5_frame 1 = .ok (.getfield 12, 3) := by decide +kernel
theorem dX5_frame_4 : decode cX5_frame 4 = .ok (.getfield 86, 3) := by decide +kernel
theorem dX5_frame_7 : decode cX5_frame 7 = .ok (.bipush 10, 2) := by decide +kernel
theorem dX5_frame_9 : decode cX5_frame 9 = .ok (.if_icmp .lt 8, 3) := by decide +kernel
theorem dX5_frame_12 : decode cX5_frame 12 = .ok (.bipush (-2), 2) := by decide +kernel
theorem dX5_frame_14 : decode cX5_frame 14 = .ok (.goto 10, 3) := by decide +kernel
theorem dX5_frame_17 : decode cX5_frame 17 = .ok (.aload_n 0, 1) := by decide +kernel
theorem dX5_frame_18 : decode cX5_frame 18 = .ok (.getfield 12, 3) := by decide +kernel
theorem dX5_frame_21 : decode cX5_frame 21 = .ok (.invokevirtual 89, 3) := by decide +kernel
theorem dX5_frame_24 : decode cX5_frame 24 = .ok (.ireturn, 1) := by decide +kernel
set_option maxRecDepth 20000 in
theorem ggX5_again_X1_hasFrame : GoodIn wsX5_again wsX1_hasFrame := goodIn_r _ [15, 16, 50, 51, 52, 53, 54] (by decide +kernel) (by decide +kernel)
set_option maxRecDepth 20000 in
theorem gX5_again_X1_hasFrame : GoodIn wsX5_again (wsV RX5 93 RX1 yX1_hasFrame wsX1_hasFrame) := goodIn_app (goodIn_of _ (by decide +kernel)) ggX5_again_X1_hasFrame
set_option maxRecDepth 20000 in
theorem ggX5_again_X5_isWithin : GoodIn wsX5_again wsX5_isWithin := goodIn_r _ [20] (by decide +kernel) (by decide +kernel)
set_option maxRecDepth 20000 in
theorem gX5_again_X5_isWithin : GoodIn wsX5_again (va_wsS RX5 71 yX5_isWithin wsX5_isWithin) := goodIn_app (goodIn_of _ (by decide +kernel)) ggX5_again_X5_isWithin
set_option maxRecDepth 20000 in
theorem ggX5_again_X1_addFrame : GoodIn wsX5_again wsX1_addFrame := goodIn_r _ [24, 16, 25, 26, 27, 28, 14, 29, 30, 31, 12, 13, 15, 32, 33, 34, 35, 50, 51, 52, 53, 54] (by decide +kernel) (by decide +kernel)
set_option maxRecDepth 20000 in
theorem gX5_again_X1_addFrame : GoodIn wsX5_again (wsV RX5 89 RX1 yX1_addFrame wsX1_addFrame) := goodIn_app (goodIn_of _ (by decide +kernel)) ggX5_again_X1_addFrame
set_option maxRecDepth 20000 in
theorem ggX5_again_X1_greyAt : GoodIn wsX5_again wsX1_greyAt := goodIn_r _ [39, 30, 31, 12, 13, 14, 15, 16, 32, 33, 34, 35, 25, 50, 51, 52, 53, 54] (by decide +kernel) (by decide +kernel)
set_option maxRecDepth 20000 in
theorem gX5_again_X1_greyAt : GoodIn wsX5_again (wsV RX5 97 RX1 yX1_greyAt wsX1_greyAt) := goodIn_app (goodIn_of _ (by decide +kernel)) ggX5_again_X1_greyAt
set_option maxRecDepth 20000 in
theorem ggX5_again_X1_setGrey : GoodIn wsX5_again wsX1_setGrey := goodIn_r _ [29, 30, 31, 12, 13, 14, 15, 16, 32, 33, 34, 35, 25, 50, 51, 52, 53, 54] (by decide +kernel) (by decide +kernel)
set_option maxRecDepth 20000 in
theorem gX5_again_X1_setGrey : GoodIn wsX5_again (wsV RX5 109 RX1 yX1_setGrey wsX1_setGrey) := goodIn_app (goodIn_of _ (by decide +kernel)) ggX5_again_X1_setGrey
theorem dX5_again_0 : decode cX5_again 0 = .ok (.aload_n 0, 1) := by decide +kernel
theorem dX5_again_1 : decode cX5_again 1 = .ok (.getfield 12, 3) := by decide +kernel
theorem dX5_again_4 : decode cX5_again 4 = .ok (.iload_n 1, 1) := by decide +kernel
theorem dX5_again_5 : decode cX5_again 5 = .ok (.invokevirtual 93, 3) := by decide +kernel
theorem dX5_again_8 : decode cX5_again 8 = .ok (.ifCond .eq 14, 3) := by decide +kernel
theorem dX5_again_11 : decode cX5_again 11 = .ok (.iload_n 2, 1) := by decide +kernel
theorem dX5_again_12 : decode cX5_again 12 = .ok (.bipush (-63), 2) := by decide +kernel
theorem dX5_again_14 : decode cX5_again 14 = .ok (.bipush 63, 2) := by decide +kernel
theorem dX5_again_16 : decode cX5_again 16 = .ok (.invokestatic 71, 3) := by decide +kernel
theorem dX5_again_19 : decode cX5_again 19 = .ok (.ifCond .ne 5, 3) := by decide +kernel
theorem dX5_again_22 : decode cX5_again 22 = .ok (.iconst (-1), 1) := by decide +kernel
theorem dX5_again_23 : decode cX5_again 23 = .ok (.ireturn, 1) := by decide +kernel
theorem dX5_again_24 : decode cX5_again 24 = .ok (.aload_n 0, 1) := by decide +kernel
theorem dX5_again_25 : decode cX5_again 25 = .ok (.getfield 12, 3) := by decide +kernel
theorem dX5_again_28 : decode cX5_again 28 = .ok (.getfield 86, 3) := by decide +kernel
theorem dX5_again_31 : decode cX5_again 31 = .ok (.bipush 10, 2) := by decide +kernel
theorem dX5_again_33 : decode cX5_again 33 = .ok (.if_icmp .lt 6, 3) := by decide +kernel
theorem dX5_again_36 : decode cX5_again 36 = .ok (.bipush (-2), 2) := by decide +kernel
theorem dX5_again_38 : decode cX5_again 38 = .ok (.ireturn, 1) := by decide +kernel
theorem dX5_again_39 : decode cX5_again 39 = .ok (.aload_n 0, 1) := by decide +kernel
theorem dX5_again_40 : decode cX5_again 40 = .ok (.getfield 12, 3) := by decide +kernel
theorem dX5_again_43 : decode cX5_again 43 = .ok (.invokevirtual 89, 3) := by decide +kernel
theorem dX5_again_46 : decode cX5_again 46 = .ok (.istore_n 3, 1) := by decide +kernel
theorem dX5_again_47 : decode cX5_again 47 = .ok (.iconst 0, 1) := by decide +kernel
theorem dX5_again_48 : decode cX5_again 48 = .ok (.istore 4, 2) := by decide +kernel
theorem dX5_again_50 : decode cX5_again 50 = .ok (.iload 4, 2) := by decide +kernel
theorem dX5_again_52 : decode cX5_again 52 = .ok (.aload_n 0, 1) := by decide +kernel
theorem dX5_again_53 : decode cX5_again 53 = .ok (.getfield 12, 3) := by decide +kernel
theorem dX5_again_56 : decode cX5_again 56 = .ok (.getfield 83, 3) := by decide +kernel
theorem dX5_again_59 : decode cX5_again 59 = .ok (.if_icmp .ge 50, 3) := by decide +kernel
theorem dX5_again_62 : decode cX5_again 62 = .ok (.aload_n 0, 1) := by decide +kernel
theorem dX5_again_63 : decode cX5_again 63 = .ok (.getfield 12, 3) := by decide +kernel
theorem dX5_again_66 : decode cX5_again 66 = .ok (.iload_n 1, 1) := by decide +kernel
theorem dX5_again_67 : decode cX5_again 67 = .ok (.iload 4, 2) := by decide +kernel
theorem dX5_again_69 : decode cX5_again 69 = .ok (.invokevirtual 97, 3) := by decide +kernel
theorem dX5_again_72 : decode cX5_again 72 = .ok (.istore 5, 2) := by decide +kernel
theorem dX5_again_74 : decode cX5_again 74 = .ok (.iload 5, 2) := by decide +kernel
theorem dX5_again_76 : decode cX5_again 76 = .ok (.iconst (-1), 1) := by decide +kernel
theorem dX5_again_77 : decode cX5_again 77 = .ok (.if_icmp .eq 26, 3) := by decide +kernel
theorem dX5_again_80 : decode cX5_again 80 = .ok (.aload_n 0, 1) := by decide +kernel
theorem dX5_again_81 : decode cX5_again 81 = .ok (.getfield 12, 3) := by decide +kernel
theorem dX5_again_84 : decode cX5_again 84 = .ok (.iload_n 3, 1) := by decide +kernel
theorem dX5_again_85 : decode cX5_again 85 = .ok (.iload 4, 2) := by decide +kernel
theorem dX5_again_87 : decode cX5_again 87 = .ok (.iconst 0, 1) := by decide +kernel
theorem dX5_again_88 : decode cX5_again 88 = .ok (.bipush 63, 2) := by decide +kernel
theorem dX5_again_90 : decode cX5_again 90 = .ok (.iload 5, 2) := by decide +kernel
theorem dX5_again_92 : decode cX5_again 92 = .ok (.iload_n 2, 1) := by decide +kernel
theorem dX5_again_93 : decode cX5_again 93 = .ok (.iadd, 1) := by decide +kernel
theorem dX5_again_94 : decode cX5_again 94 = .ok (.invokestatic 101, 3) := by decide +kernel
theorem dX5_again_97 : decode cX5_again 97 = .ok (.invokestatic 106, 3) := by decide +kernel
theorem dX5_again_100 : decode cX5_again 100 = .ok (.invokevirtual 109, 3) := by decide +kernel
theorem dX5_again_103 : decode cX5_again 103 = .ok (.iinc 4 1, 3) := by decide +kernel
theorem dX5_again_106 : decode cX5_again 106 = .ok (.goto (-56), 3) := by decide +kernel
theorem dX5_again_109 : decode cX5_again 109 = .ok (.iload_n 3, 1) := by decide +kernel
theorem dX5_again_110 : decode cX5_again 110 = .ok (.ireturn, 1) := by decide +kernel
set_option maxRecDepth 20000 in
theorem ggX5_put_X1_placeOf : GoodIn wsX5_put wsX1_placeOf := goodIn_r _ [6, 7, 8, 42, 43, 44, 45, 46] (by decide +kernel) (by decide +kernel)
set_option maxRecDepth 20000 in
theorem gX5_put_X1_placeOf : GoodIn wsX5_put (wsV RX5 113 RX1 yX1_placeOf wsX1_placeOf) := goodIn_app (goodIn_of _ (by decide +kernel)) ggX5_put_X1_placeOf
set_option maxRecDepth 20000 in
theorem ggX5_put_X1_hasFrame : GoodIn wsX5_put wsX1_hasFrame := goodIn_r _ [12, 13, 42, 43, 44, 45, 46] (by decide +kernel) (by decide +kernel)
set_option maxRecDepth 20000 in
theorem gX5_put_X1_hasFrame : GoodIn wsX5_put (wsV RX5 93 RX1 yX1_hasFrame wsX1_hasFrame) := goodIn_app (goodIn_of _ (by decide +kernel)) ggX5_put_X1_hasFrame
set_option maxRecDepth 20000 in
theorem ggX5_put_X5_isWithin : GoodIn wsX5_put wsX5_isWithin := goodIn_r _ [17] (by decide +kernel) (by decide +kernel)
set_option maxRecDepth 20000 in
theorem gX5_put_X5_isWithin : GoodIn wsX5_put (va_wsS RX5 71 yX5_isWithin wsX5_isWithin) := goodIn_app (goodIn_of _ (by decide +kernel)) ggX5_put_X5_isWithin
set_option maxRecDepth 20000 in
theorem ggX5_put_X1_greyAt : GoodIn wsX5_put wsX1_greyAt := goodIn_r _ [21, 22, 23, 10, 11, 5, 12, 13, 24, 25, 26, 27, 28, 42, 43, 44, 45, 46] (by decide +kernel) (by decide +kernel)
set_option maxRecDepth 20000 in
theorem gX5_put_X1_greyAt : GoodIn wsX5_put (wsV RX5 97 RX1 yX1_greyAt wsX1_greyAt) := goodIn_app (goodIn_of _ (by decide +kernel)) ggX5_put_X1_greyAt
set_option maxRecDepth 20000 in
theorem ggX5_put_X1_setGrey : GoodIn wsX5_put wsX1_setGrey := goodIn_r _ [32, 22, 23, 10, 11, 5, 12, 13, 24, 25, 26, 27, 28, 42, 43, 44, 45, 46] (by decide +kernel) (by decide +kernel)
set_option maxRecDepth 20000 in
theorem gX5_put_X1_setGrey : GoodIn wsX5_put (wsV RX5 109 RX1 yX1_setGrey wsX1_setGrey) := goodIn_app (goodIn_of _ (by decide +kernel)) ggX5_put_X1_setGrey
theorem dX5_put_0 : decode cX5_put 0 = .ok (.aload_n 0, 1) := by decide +kernel
theorem dX5_put_1 : decode cX5_put 1 = .ok (.getfield 12, 3) := by decide +kernel
theorem dX5_put_4 : decode cX5_put 4 = .ok (.iload_n 2, 1) := by decide +kernel
theorem dX5_put_5 : decode cX5_put 5 = .ok (.iload_n 3, 1) := by decide +kernel
theorem dX5_put_6 : decode cX5_put 6 = .ok (.invokevirtual 113, 3) := by decide +kernel
theorem dX5_put_9 : decode cX5_put 9 = .ok (.istore 5, 2) := by decide +kernel
theorem dX5_put_11 : decode cX5_put 11 = .ok (.aload_n 0, 1) := by decide +kernel
theorem dX5_put_12 : decode cX5_put 12 = .ok (.getfield 12, 3) := by decide +kernel
theorem dX5_put_15 : decode cX5_put 15 = .ok (.iload_n 1, 1) := by decide +kernel
theorem dX5_put_16 : decode cX5_put 16 = .ok (.invokevirtual 93, 3) := by decide +kernel
theorem dX5_put_19 : decode cX5_put 19 = .ok (.ifCond .eq 19, 3) := by decide +kernel
theorem dX5_put_22 : decode cX5_put 22 = .ok (.iload 5, 2) := by decide +kernel
theorem dX5_put_24 : decode cX5_put 24 = .ok (.ifCond .lt 14, 3) := by decide +kernel
theorem dX5_put_27 : decode cX5_put 27 = .ok (.iload 4, 2) := by decide +kernel
theorem dX5_put_29 : decode cX5_put 29 = .ok (.iconst (-1), 1) := by decide +kernel
theorem dX5_put_30 : decode cX5_put 30 = .ok (.bipush 63, 2) := by decide +kernel
theorem dX5_put_32 : decode cX5_put 32 = .ok (.invokestatic 71, 3) := by decide +kernel
theorem dX5_put_35 : decode cX5_put 35 = .ok (.ifCond .ne 7, 3) := by decide +kernel
theorem dX5_put_38 : decode cX5_put 38 = .ok (.sipush (-1000), 3) := by decide +kernel
theorem dX5_put_41 : decode cX5_put 41 = .ok (.ireturn, 1) := by decide +kernel
theorem dX5_put_42 : decode cX5_put 42 = .ok (.aload_n 0, 1) := by decide +kernel
theorem dX5_put_43 : decode cX5_put 43 = .ok (.getfield 12, 3) := by decide +kernel
theorem dX5_put_46 : decode cX5_put 46 = .ok (.iload_n 1, 1) := by decide +kernel
theorem dX5_put_47 : decode cX5_put 47 = .ok (.iload 5, 2) := by decide +kernel
theorem dX5_put_49 : decode cX5_put 49 = .ok (.invokevirtual 97, 3) := by decide +kernel
theorem dX5_put_52 : decode cX5_put 52 = .ok (.istore 6, 2) := by decide +kernel
theorem dX5_put_54 : decode cX5_put 54 = .ok (.aload_n 0, 1) := by decide +kernel
theorem dX5_put_55 : decode cX5_put 55 = .ok (.getfield 12, 3) := by decide +kernel
theorem dX5_put_58 : decode cX5_put 58 = .ok (.iload_n 1, 1) := by decide +kernel
theorem dX5_put_59 : decode cX5_put 59 = .ok (.iload 5, 2) := by decide +kernel
theorem dX5_put_61 : decode cX5_put 61 = .ok (.iload 4, 2) := by decide +kernel
theorem dX5_put_63 : decode cX5_put 63 = .ok (.invokevirtual 109, 3) := by decide +kernel
theorem dX5_put_66 : decode cX5_put 66 = .ok (.iload 6, 2) := by decide +kernel
theorem dX5_put_68 : decode cX5_put 68 = .ok (.ireturn, 1) := by decide +kernel
set_option maxRecDepth 20000 in
theorem ggX5_row_X1_hasFrame : GoodIn wsX5_row wsX1_hasFrame := goodIn_r _ [7, 8, 35, 36, 37, 38, 39] (by decide +kernel) (by decide +kernel)
set_option maxRecDepth 20000 in
theorem gX5_row_X1_hasFrame : GoodIn wsX5_row (wsV RX5 93 RX1 yX1_hasFrame wsX1_hasFrame) := goodIn_app (goodIn_of _ (by decide +kernel)) ggX5_row_X1_hasFrame
set_option maxRecDepth 20000 in
theorem ggX5_row_X1_placeOf : GoodIn wsX5_row wsX1_placeOf := goodIn_r _ [12, 13, 14, 35, 36, 37, 38, 39] (by decide +kernel) (by decide +kernel)
set_option maxRecDepth 20000 in
theorem gX5_row_X1_placeOf : GoodIn wsX5_row (wsV RX5 113 RX1 yX1_placeOf wsX1_placeOf) := goodIn_app (goodIn_of _ (by decide +kernel)) ggX5_row_X1_placeOf
set_option maxRecDepth 20000 in
theorem ggX5_row_X1_setGrey : GoodIn wsX5_row wsX1_setGrey := goodIn_r _ [18, 19, 20, 4, 5, 6, 7, 8, 21, 22, 23, 24, 25, 35, 36, 37, 38, 39] (by decide +kernel) (by decide +kernel)
set_option maxRecDepth 20000 in
theorem gX5_row_X1_setGrey : GoodIn wsX5_row (wsV RX5 109 RX1 yX1_setGrey wsX1_setGrey) := goodIn_app (goodIn_of _ (by decide +kernel)) ggX5_row_X1_setGrey
theorem dX5_row_0 : decode cX5_row 0 = .ok (.aload_n 0, 1) := by decide +kernel
theorem dX5_row_1 : decode cX5_row 1 = .ok (.getfield 12, 3) := by decide +kernel
theorem dX5_row_4 : decode cX5_row 4 = .ok (.iload_n 1, 1) := by decide +kernel
theorem dX5_row_5 : decode cX5_row 5 = .ok (.invokevirtual 93, 3) := by decide +kernel
theorem dX5_row_8 : decode cX5_row 8 = .ok (.ifCond .eq 15, 3) := by decide +kernel
theorem dX5_row_11 : decode cX5_row 11 = .ok (.aload_n 0, 1) := by decide +kernel
theorem dX5_row_12 : decode cX5_row 12 = .ok (.getfield 12, 3) := by decide +kernel
theorem dX5_row_15 : decode cX5_row 15 = .ok (.iload_n 2, 1) := by decide +kernel
theorem dX5_row_16 : decode cX5_row 16 = .ok (.iconst 0, 1) := by decide +kernel
theorem dX5_row_17 : decode cX5_row 17 = .ok (.invokevirtual 113, 3) := by decide +kernel
theorem dX5_row_20 : decode cX5_row 20 = .ok (.ifCond .ge 5, 3) := by decide +kernel
theorem dX5_row_23 : decode cX5_row 23 = .ok (.iconst (-1), 1) := by decide +kernel
theorem dX5_row_24 : decode cX5_row 24 = .ok (.ireturn, 1) := by decide +kernel
theorem dX5_row_25 : decode cX5_row 25 = .ok (.iconst 0, 1) := by decide +kernel
theorem dX5_row_26 : decode cX5_row 26 = .ok (.istore 5, 2) := by decide +kernel
theorem dX5_row_28 : decode cX5_row 28 = .ok (.iconst 0, 1) := by decide +kernel
theorem dX5_row_29 : decode cX5_row 29 = .ok (.istore 6, 2) := by decide +kernel
theorem dX5_row_31 : decode cX5_row 31 = .ok (.iload 6, 2) := by decide +kernel
theorem dX5_row_33 : decode cX5_row 33 = .ok (.aload_n 0, 1) := by decide +kernel
theorem dX5_row_34 : decode cX5_row 34 = .ok (.getfield 12, 3) := by decide +kernel
theorem dX5_row_37 : decode cX5_row 37 = .ok (.getfield 116, 3) := by decide +kernel
theorem dX5_row_40 : decode cX5_row 40 = .ok (.if_icmp .ge 66, 3) := by decide +kernel
theorem dX5_row_43 : decode cX5_row 43 = .ok (.lload_n 3, 1) := by decide +kernel
theorem dX5_row_44 : decode cX5_row 44 = .ok (.bipush 7, 2) := by decide +kernel
theorem dX5_row_46 : decode cX5_row 46 = .ok (.iload 6, 2) := by decide +kernel
theorem dX5_row_48 : decode cX5_row 48 = .ok (.imul, 1) := by decide +kernel
theorem dX5_row_49 : decode cX5_row 49 = .ok (.lushr, 1) := by decide +kernel
theorem dX5_row_50 : decode cX5_row 50 = .ok (.l2i, 1) := by decide +kernel
theorem dX5_row_51 : decode cX5_row 51 = .ok (.bipush 127, 2) := by decide +kernel
theorem dX5_row_53 : decode cX5_row 53 = .ok (.iand, 1) := by decide +kernel
theorem dX5_row_54 : decode cX5_row 54 = .ok (.istore 7, 2) := by decide +kernel
theorem dX5_row_56 : decode cX5_row 56 = .ok (.iload 7, 2) := by decide +kernel
theorem dX5_row_58 : decode cX5_row 58 = .ok (.bipush 63, 2) := by decide +kernel
theorem dX5_row_60 : decode cX5_row 60 = .ok (.if_icmp .le 7, 3) := by decide +kernel
theorem dX5_row_63 : decode cX5_row 63 = .ok (.iconst (-1), 1) := by decide +kernel
theorem dX5_row_64 : decode cX5_row 64 = .ok (.goto 5, 3) := by decide +kernel
theorem dX5_row_67 : decode cX5_row 67 = .ok (.iload 7, 2) := by decide +kernel
theorem dX5_row_69 : decode cX5_row 69 = .ok (.istore 8, 2) := by decide +kernel
theorem dX5_row_71 : decode cX5_row 71 = .ok (.aload_n 0, 1) := by decide +kernel
theorem dX5_row_72 : decode cX5_row 72 = .ok (.getfield 12, 3) := by decide +kernel
theorem dX5_row_75 : decode cX5_row 75 = .ok (.iload_n 1, 1) := by decide +kernel
theorem dX5_row_76 : decode cX5_row 76 = .ok (.aload_n 0, 1) := by decide +kernel
theorem dX5_row_77 : decode cX5_row 77 = .ok (.getfield 12, 3) := by decide +kernel
theorem dX5_row_80 : decode cX5_row 80 = .ok (.iload_n 2, 1) := by decide +kernel
theorem dX5_row_81 : decode cX5_row 81 = .ok (.iload 6, 2) := by decide +kernel
theorem dX5_row_83 : decode cX5_row 83 = .ok (.invokevirtual 113, 3) := by decide +kernel
theorem dX5_row_86 : decode cX5_row 86 = .ok (.iload 8, 2) := by decide +kernel
theorem dX5_row_88 : decode cX5_row 88 = .ok (.invokevirtual 109, 3) := by decide +kernel
theorem dX5_row_91 : decode cX5_row 91 = .ok (.iload 8, 2) := by decide +kernel
theorem dX5_row_93 : decode cX5_row 93 = .ok (.iconst (-1), 1) := by decide +kernel
theorem dX5_row_94 : decode cX5_row 94 = .ok (.if_icmp .eq 6, 3) := by decide +kernel
theorem dX5_row_97 : decode cX5_row 97 = .ok (.iinc 5 1, 3) := by decide +kernel
theorem dX5_row_100 : decode cX5_row 100 = .ok (.iinc 6 1, 3) := by decide +kernel
theorem dX5_row_103 : decode cX5_row 103 = .ok (.goto (-72), 3) := by decide +kernel
theorem dX5_row_106 : decode cX5_row 106 = .ok (.iload 5, 2) := by decide +kernel
theorem dX5_row_108 : decode cX5_row 108 = .ok (.ireturn, 1) := by decide +kernel
set_option maxRecDepth 20000 in
theorem ggX5_raw_X1_placeOf : GoodIn wsX5_raw wsX1_placeOf := goodIn_r _ [6, 7, 8, 34, 35, 36, 37, 38] (by decide +kernel) (by decide +kernel)
set_option maxRecDepth 20000 in
theorem gX5_raw_X1_placeOf : GoodIn wsX5_raw (wsV RX5 113 RX1 yX1_placeOf wsX1_placeOf) := goodIn_app (goodIn_of _ (by decide +kernel)) ggX5_raw_X1_placeOf
set_option maxRecDepth 20000 in
theorem ggX5_raw_X1_hasFrame : GoodIn wsX5_raw wsX1_hasFrame := goodIn_r _ [12, 13, 34, 35, 36, 37, 38] (by decide +kernel) (by decide +kernel)
set_option maxRecDepth 20000 in
theorem gX5_raw_X1_hasFrame : GoodIn wsX5_raw (wsV RX5 93 RX1 yX1_hasFrame wsX1_hasFrame) := goodIn_app (goodIn_of _ (by decide +kernel)) ggX5_raw_X1_hasFrame
set_option maxRecDepth 20000 in
theorem ggX5_raw_X1_greyAt : GoodIn wsX5_raw wsX1_greyAt := goodIn_r _ [17, 18, 19, 10, 11, 5, 12, 13, 20, 21, 22, 23, 24, 34, 35, 36, 37, 38] (by decide +kernel) (by decide +kernel)
set_option maxRecDepth 20000 in
theorem gX5_raw_X1_greyAt : GoodIn wsX5_raw (wsV RX5 97 RX1 yX1_greyAt wsX1_greyAt) := goodIn_app (goodIn_of _ (by decide +kernel)) ggX5_raw_X1_greyAt
theorem dX5_raw_0 : decode cX5_raw 0 = .ok (.aload_n 0, 1) := by decide +kernel
theorem dX5_raw_1 : decode cX5_raw 1 = .ok (.getfield 12, 3) := by decide +kernel
theorem dX5_raw_4 : decode cX5_raw 4 = .ok (.iload_n 2, 1) := by decide +kernel
theorem dX5_raw_5 : decode cX5_raw 5 = .ok (.iload_n 3, 1) := by decide +kernel
theorem dX5_raw_6 : decode cX5_raw 6 = .ok (.invokevirtual 113, 3) := by decide +kernel
theorem dX5_raw_9 : decode cX5_raw 9 = .ok (.istore 4, 2) := by decide +kernel
theorem dX5_raw_11 : decode cX5_raw 11 = .ok (.aload_n 0, 1) := by decide +kernel
theorem dX5_raw_12 : decode cX5_raw 12 = .ok (.getfield 12, 3) := by decide +kernel
theorem dX5_raw_15 : decode cX5_raw 15 = .ok (.iload_n 1, 1) := by decide +kernel
theorem dX5_raw_16 : decode cX5_raw 16 = .ok (.invokevirtual 93, 3) := by decide +kernel
theorem dX5_raw_19 : decode cX5_raw 19 = .ok (.ifCond .eq 8, 3) := by decide +kernel
theorem dX5_raw_22 : decode cX5_raw 22 = .ok (.iload 4, 2) := by decide +kernel
theorem dX5_raw_24 : decode cX5_raw 24 = .ok (.ifCond .ge 7, 3) := by decide +kernel
theorem dX5_raw_27 : decode cX5_raw 27 = .ok (.sipush (-1000), 3) := by decide +kernel
theorem dX5_raw_30 : decode cX5_raw 30 = .ok (.ireturn, 1) := by decide +kernel
theorem dX5_raw_31 : decode cX5_raw 31 = .ok (.aload_n 0, 1) := by decide +kernel
theorem dX5_raw_32 : decode cX5_raw 32 = .ok (.getfield 12, 3) := by decide +kernel
theorem dX5_raw_35 : decode cX5_raw 35 = .ok (.iload_n 1, 1) := by decide +kernel
theorem dX5_raw_36 : decode cX5_raw 36 = .ok (.iload 4, 2) := by decide +kernel
theorem dX5_raw_38 : decode cX5_raw 38 = .ok (.invokevirtual 97, 3) := by decide +kernel
theorem dX5_raw_41 : decode cX5_raw 41 = .ok (.ireturn, 1) := by decide +kernel
set_option maxRecDepth 20000 in
theorem ggX5_rule_X5_isWithin : GoodIn wsX5_rule wsX5_isWithin := goodIn_r _ [7] (by decide +kernel) (by decide +kernel)
set_option maxRecDepth 20000 in
theorem gX5_rule_X5_isWithin : GoodIn wsX5_rule (va_wsS RX5 71 yX5_isWithin wsX5_isWithin) := goodIn_app (goodIn_of _ (by decide +kernel)) ggX5_rule_X5_isWithin
theorem dX5_rule_0 : decode cX5_rule 0 = .ok (.iload_n 1, 1) := by decide +kernel
theorem dX5_rule_1 : decode cX5_rule 1 = .ok (.iconst 0, 1) := by decide +kernel
theorem dX5_rule_2 : decode cX5_rule 2 = .ok (.iconst 2, 1) := by decide +kernel
theorem dX5_rule_3 : decode cX5_rule 3 = .ok (.invokestatic 71, 3) := by decide +kernel
theorem dX5_rule_6 : decode cX5_rule 6 = .ok (.ifCond .eq 20, 3) := by decide +kernel
theorem dX5_rule_9 : decode cX5_rule 9 = .ok (.iload_n 2, 1) := by decide +kernel
theorem dX5_rule_10 : decode cX5_rule 10 = .ok (.getstatic 119, 3) := by decide +kernel
theorem dX5_rule_13 : decode cX5_rule 13 = .ok (.iload_n 1, 1) := by decide +kernel
theorem dX5_rule_14 : decode cX5_rule 14 = .ok (.iaload, 1) := by decide +kernel
theorem dX5_rule_15 : decode cX5_rule 15 = .ok (.getstatic 122, 3) := by decide +kernel
theorem dX5_rule_18 : decode cX5_rule 18 = .ok (.iload_n 1, 1) := by decide +kernel
theorem dX5_rule_19 : decode cX5_rule 19 = .ok (.iaload, 1) := by decide +kernel
theorem dX5_rule_20 : decode cX5_rule 20 = .ok (.invokestatic 71, 3) := by decide +kernel
theorem dX5_rule_23 : decode cX5_rule 23 = .ok (.ifCond .ne 5, 3) := by decide +kernel
theorem dX5_rule_26 : decode cX5_rule 26 = .ok (.iconst (-1), 1) := by decide +kernel
theorem dX5_rule_27 : decode cX5_rule 27 = .ok (.ireturn, 1) := by decide +kernel
theorem dX5_rule_28 : decode cX5_rule 28 = .ok (.aload_n 0, 1) := by decide +kernel
theorem dX5_rule_29 : decode cX5_rule 29 = .ok (.getfield 23, 3) := by decide +kernel
theorem dX5_rule_32 : decode cX5_rule 32 = .ok (.iload_n 1, 1) := by decide +kernel
theorem dX5_rule_33 : decode cX5_rule 33 = .ok (.iaload, 1) := by decide +kernel
theorem dX5_rule_34 : decode cX5_rule 34 = .ok (.istore_n 3, 1) := by decide +kernel
theorem dX5_rule_35 : decode cX5_rule 35 = .ok (.aload_n 0, 1) := by decide +kernel
theorem dX5_rule_36 : decode cX5_rule 36 = .ok (.getfield 23, 3) := by decide +kernel
theorem dX5_rule_39 : decode cX5_rule 39 = .ok (.iload_n 1, 1) := by decide +kernel
theorem dX5_rule_40 : decode cX5_rule 40 = .ok (.iload_n 2, 1) := by decide +kernel
theorem dX5_rule_41 : decode cX5_rule 41 = .ok (.iastore, 1) := by decide +kernel
theorem dX5_rule_42 : decode cX5_rule 42 = .ok (.iload_n 3, 1) := by decide +kernel
theorem dX5_rule_43 : decode cX5_rule 43 = .ok (.ireturn, 1) := by decide +kernel
set_option maxRecDepth 20000 in
theorem ggX5_miss_X1_hasFrame : GoodIn wsX5_miss wsX1_hasFrame := goodIn_r _ [9, 10, 76, 77, 78, 79, 80] (by decide +kernel) (by decide +kernel)
set_option maxRecDepth 20000 in
theorem gX5_miss_X1_hasFrame : GoodIn wsX5_miss (wsV RX5 93 RX1 yX1_hasFrame wsX1_hasFrame) := goodIn_app (goodIn_of _ (by decide +kernel)) ggX5_miss_X1_hasFrame
set_option maxRecDepth 20000 in
theorem ggX5_miss_X5_isWithin : GoodIn wsX5_miss wsX5_isWithin := goodIn_r _ [14] (by decide +kernel) (by decide +kernel)
set_option maxRecDepth 20000 in
theorem gX5_miss_X5_isWithin : GoodIn wsX5_miss (va_wsS RX5 71 yX5_isWithin wsX5_isWithin) := goodIn_app (goodIn_of _ (by decide +kernel)) ggX5_miss_X5_isWithin
set_option maxRecDepth 20000 in
theorem ggX5_miss_X3_measure : GoodIn wsX5_miss wsX3_measure := goodIn_r _ [19, 20, 21, 22, 23, 24, 25, 26, 27, 28, 29, 30, 31, 32, 33, 34, 35, 36, 37, 8, 38, 39, 40, 41, 42, 43, 44, 45, 46, 6, 7, 9, 10, 47, 48, 49, 50, 51, 69, 70, 71, 72, 73, 74, 75, 76, 77, 78, 79, 80] (by decide +kernel) (by decide +kernel)
set_option maxRecDepth 20000 in
theorem gX5_miss_X3_measure : GoodIn wsX5_miss (wsV RX5 125 RX3 yX3_measure wsX3_measure) := goodIn_app (goodIn_of _ (by decide +kernel)) ggX5_miss_X3_measure
set_option maxRecDepth 20000 in
theorem ggX5_miss_X3_isEnough : GoodIn wsX5_miss wsX3_isEnough := goodIn_r _ [55, 21, 22, 56, 69, 70, 71, 72, 73, 74, 75, 76, 77, 78, 79, 80] (by decide +kernel) (by decide +kernel)
set_option maxRecDepth 20000 in
theorem gX5_miss_X3_isEnough : GoodIn wsX5_miss (wsV RX5 128 RX3 yX3_isEnough wsX3_isEnough) := goodIn_app (goodIn_of _ (by decide +kernel)) ggX5_miss_X3_isEnough
set_option maxRecDepth 20000 in
theorem ggX5_miss_X5_commonDivisor : GoodIn wsX5_miss wsX5_commonDivisor := goodIn_r _ [59] (by decide +kernel) (by decide +kernel)
set_option maxRecDepth 20000 in
theorem gX5_miss_X5_commonDivisor : GoodIn wsX5_miss (va_wsS RX5 138 yX5_commonDivisor wsX5_commonDivisor) := goodIn_app (goodIn_of _ (by decide +kernel)) ggX5_miss_X5_commonDivisor
theorem dX5_miss_0 : decode cX5_miss 0 = .ok (.aload_n 0, 1) := by decide +kernel
theorem dX5_miss_1 : decode cX5_miss 1 = .ok (.getfield 12, 3) := by decide +kernel
theorem dX5_miss_4 : decode cX5_miss 4 = .ok (.iload_n 1, 1) := by decide +kernel
theorem dX5_miss_5 : decode cX5_miss 5 = .ok (.invokevirtual 93, 3) := by decide +kernel
theorem dX5_miss_8 : decode cX5_miss 8 = .ok (.ifCond .eq 37, 3) := by decide +kernel
theorem dX5_miss_11 : decode cX5_miss 11 = .ok (.iload_n 1, 1) := by decide +kernel
theorem dX5_miss_12 : decode cX5_miss 12 = .ok (.ifCond .eq 33, 3) := by decide +kernel
theorem dX5_miss_15 : decode cX5_miss 15 = .ok (.iload 4, 2) := by decide +kernel
theorem dX5_miss_17 : decode cX5_miss 17 = .ok (.iconst 0, 1) := by decide +kernel
theorem dX5_miss_18 : decode cX5_miss 18 = .ok (.iconst 1, 1) := by decide +kernel
theorem dX5_miss_19 : decode cX5_miss 19 = .ok (.invokestatic 71, 3) := by decide +kernel
theorem dX5_miss_22 : decode cX5_miss 22 = .ok (.ifCond .eq 23, 3) := by decide +kernel
theorem dX5_miss_25 : decode cX5_miss 25 = .ok (.iload_n 2, 1) := by decide +kernel
theorem dX5_miss_26 : decode cX5_miss 26 = .ok (.bipush (-2), 2) := by decide +kernel
theorem dX5_miss_28 : decode cX5_miss 28 = .ok (.iconst 2, 1) := by decide +kernel
theorem dX5_miss_29 : decode cX5_miss 29 = .ok (.invokestatic 71, 3) := by decide +kernel
theorem dX5_miss_32 : decode cX5_miss 32 = .ok (.ifCond .eq 13, 3) := by decide +kernel
theorem dX5_miss_35 : decode cX5_miss 35 = .ok (.iload_n 3, 1) := by decide +kernel
theorem dX5_miss_36 : decode cX5_miss 36 = .ok (.bipush (-2), 2) := by decide +kernel
theorem dX5_miss_38 : decode cX5_miss 38 = .ok (.iconst 2, 1) := by decide +kernel
theorem dX5_miss_39 : decode cX5_miss 39 = .ok (.invokestatic 71, 3) := by decide +kernel
theorem dX5_miss_42 : decode cX5_miss 42 = .ok (.ifCond .ne 5, 3) := by decide +kernel
theorem dX5_miss_45 : decode cX5_miss 45 = .ok (.iconst (-1), 1) := by decide +kernel
theorem dX5_miss_46 : decode cX5_miss 46 = .ok (.ireturn, 1) := by decide +kernel
theorem dX5_miss_47 : decode cX5_miss 47 = .ok (.aload_n 0, 1) := by decide +kernel
theorem dX5_miss_48 : decode cX5_miss 48 = .ok (.getfield 41, 3) := by decide +kernel
theorem dX5_miss_51 : decode cX5_miss 51 = .ok (.iload_n 1, 1) := by decide +kernel
theorem dX5_miss_52 : decode cX5_miss 52 = .ok (.iload_n 2, 1) := by decide +kernel
theorem dX5_miss_53 : decode cX5_miss 53 = .ok (.iload_n 3, 1) := by decide +kernel
theorem dX5_miss_54 : decode cX5_miss 54 = .ok (.invokevirtual 125, 3) := by decide +kernel
theorem dX5_miss_57 : decode cX5_miss 57 = .ok (.aload_n 0, 1) := by decide +kernel
theorem dX5_miss_58 : decode cX5_miss 58 = .ok (.getfield 41, 3) := by decide +kernel
theorem dX5_miss_61 : decode cX5_miss 61 = .ok (.invokevirtual 128, 3) := by decide +kernel
theorem dX5_miss_64 : decode cX5_miss 64 = .ok (.ifCond .ne 6, 3) := by decide +kernel
theorem dX5_miss_67 : decode cX5_miss 67 = .ok (.bipush (-3), 2) := by decide +kernel
theorem dX5_miss_69 : decode cX5_miss 69 = .ok (.ireturn, 1) := by decide +kernel
theorem dX5_miss_70 : decode cX5_miss 70 = .ok (.aload_n 0, 1) := by decide +kernel
theorem dX5_miss_71 : decode cX5_miss 71 = .ok (.getfield 41, 3) := by decide +kernel
theorem dX5_miss_74 : decode cX5_miss 74 = .ok (.getfield 132, 3) := by decide +kernel
theorem dX5_miss_77 : decode cX5_miss 77 = .ok (.aload_n 0, 1) := by decide +kernel
theorem dX5_miss_78 : decode cX5_miss 78 = .ok (.getfield 41, 3) := by decide +kernel
theorem dX5_miss_81 : decode cX5_miss 81 = .ok (.getfield 135, 3) := by decide +kernel
theorem dX5_miss_84 : decode cX5_miss 84 = .ok (.invokestatic 138, 3) := by decide +kernel
theorem dX5_miss_87 : decode cX5_miss 87 = .ok (.istore 5, 2) := by decide +kernel
theorem dX5_miss_89 : decode cX5_miss 89 = .ok (.iload 5, 2) := by decide +kernel
theorem dX5_miss_91 : decode cX5_miss 91 = .ok (.iconst 1, 1) := by decide +kernel
theorem dX5_miss_92 : decode cX5_miss 92 = .ok (.if_icmp .ge 6, 3) := by decide +kernel
theorem dX5_miss_95 : decode cX5_miss 95 = .ok (.bipush (-3), 2) := by decide +kernel
theorem dX5_miss_97 : decode cX5_miss 97 = .ok (.ireturn, 1) := by decide +kernel
theorem dX5_miss_98 : decode cX5_miss 98 = .ok (.iload 4, 2) := by decide +kernel
theorem dX5_miss_100 : decode cX5_miss 100 = .ok (.ifCond .ne 13, 3) := by decide +kernel
theorem dX5_miss_103 : decode cX5_miss 103 = .ok (.aload_n 0, 1) := by decide +kernel
theorem dX5_miss_104 : decode cX5_miss 104 = .ok (.getfield 41, 3) := by decide +kernel
theorem dX5_miss_107 : decode cX5_miss 107 = .ok (.getfield 132, 3) := by decide +kernel
theorem dX5_miss_110 : decode cX5_miss 110 = .ok (.goto 10, 3) := by decide +kernel
theorem dX5_miss_113 : decode cX5_miss 113 = .ok (.aload_n 0, 1) := by decide +kernel
theorem dX5_miss_114 : decode cX5_miss 114 = .ok (.getfield 41, 3) := by decide +kernel
theorem dX5_miss_117 : decode cX5_miss 117 = .ok (.getfield 135, 3) := by decide +kernel
theorem dX5_miss_120 : decode cX5_miss 120 = .ok (.iload 5, 2) := by decide +kernel
theorem dX5_miss_122 : decode cX5_miss 122 = .ok (.idiv, 1) := by decide +kernel
theorem dX5_miss_123 : decode cX5_miss 123 = .ok (.ireturn, 1) := by decide +kernel
set_option maxRecDepth 20000 in
theorem ggX5_shift_X1_hasFrame : GoodIn wsX5_shift wsX1_hasFrame := goodIn_r _ [7, 8, 80, 81, 82, 83, 84] (by decide +kernel) (by decide +kernel)
set_option maxRecDepth 20000 in
theorem gX5_shift_X1_hasFrame : GoodIn wsX5_shift (wsV RX5 93 RX1 yX1_hasFrame wsX1_hasFrame) := goodIn_app (goodIn_of _ (by decide +kernel)) ggX5_shift_X1_hasFrame
set_option maxRecDepth 20000 in
theorem ggX5_shift_X5_isWithin : GoodIn wsX5_shift wsX5_isWithin := goodIn_r _ [12] (by decide +kernel) (by decide +kernel)
set_option maxRecDepth 20000 in
theorem gX5_shift_X5_isWithin : GoodIn wsX5_shift (va_wsS RX5 71 yX5_isWithin wsX5_isWithin) := goodIn_app (goodIn_of _ (by decide +kernel)) ggX5_shift_X5_isWithin
set_option maxRecDepth 20000 in
theorem ggX5_shift_X3_find : GoodIn wsX5_shift wsX3_find := goodIn_r _ [17, 18, 19, 20, 21, 22, 23, 24, 25, 26, 16, 27, 28, 29, 30, 31, 32, 33, 34, 35, 36, 37, 38, 39, 40, 41, 42, 43, 6, 44, 45, 46, 47, 48, 49, 50, 51, 52, 4, 5, 7, 8, 53, 54, 55, 56, 57, 58, 59, 60, 61, 62, 63, 64, 65, 66, 85, 86, 87, 88, 89, 90, 91, 80, 81, 82, 83, 84] (by decide +kernel) (by decide +kernel)
set_option maxRecDepth 20000 in
theorem gX5_shift_X3_find : GoodIn wsX5_shift (wsV RX5 141 RX3 yX3_find wsX3_find) := goodIn_app (goodIn_of _ (by decide +kernel)) ggX5_shift_X3_find
set_option maxRecDepth 20000 in
theorem ggX5_shift_X3_along : GoodIn wsX5_shift wsX3_along := goodIn_r _ [70, 18, 19, 85, 86, 87, 88, 89, 90, 91] (by decide +kernel) (by decide +kernel)
set_option maxRecDepth 20000 in
theorem gX5_shift_X3_along : GoodIn wsX5_shift (wsV RX5 145 RX3 yX3_along wsX3_along) := goodIn_app (goodIn_of _ (by decide +kernel)) ggX5_shift_X3_along
theorem dX5_shift_0 : decode cX5_shift 0 = .ok (.aload_n 0, 1) := by decide +kernel
theorem dX5_shift_1 : decode cX5_shift 1 = .ok (.getfield 12, 3) := by decide +kernel
theorem dX5_shift_4 : decode cX5_shift 4 = .ok (.iload_n 1, 1) := by decide +kernel
theorem dX5_shift_5 : decode cX5_shift 5 = .ok (.invokevirtual 93, 3) := by decide +kernel
theorem dX5_shift_8 : decode cX5_shift 8 = .ok (.ifCond .eq 16, 3) := by decide +kernel
theorem dX5_shift_11 : decode cX5_shift 11 = .ok (.iload_n 1, 1) := by decide +kernel
theorem dX5_shift_12 : decode cX5_shift 12 = .ok (.ifCond .eq 12, 3) := by decide +kernel
theorem dX5_shift_15 : decode cX5_shift 15 = .ok (.iload_n 2, 1) := by decide +kernel
theorem dX5_shift_16 : decode cX5_shift 16 = .ok (.iconst 0, 1) := by decide +kernel
theorem dX5_shift_17 : decode cX5_shift 17 = .ok (.iconst 1, 1) := by decide +kernel
theorem dX5_shift_18 : decode cX5_shift 18 = .ok (.invokestatic 71, 3) := by decide +kernel
theorem dX5_shift_21 : decode cX5_shift 21 = .ok (.ifCond .ne 7, 3) := by decide +kernel
theorem dX5_shift_24 : decode cX5_shift 24 = .ok (.sipush (-1000), 3) := by decide +kernel
theorem dX5_shift_27 : decode cX5_shift 27 = .ok (.ireturn, 1) := by decide +kernel
theorem dX5_shift_28 : decode cX5_shift 28 = .ok (.aload_n 0, 1) := by decide +kernel
theorem dX5_shift_29 : decode cX5_shift 29 = .ok (.getfield 41, 3) := by decide +kernel
theorem dX5_shift_32 : decode cX5_shift 32 = .ok (.iload_n 1, 1) := by decide +kernel
theorem dX5_shift_33 : decode cX5_shift 33 = .ok (.invokevirtual 141, 3) := by decide +kernel
theorem dX5_shift_36 : decode cX5_shift 36 = .ok (.aload_n 0, 1) := by decide +kernel
theorem dX5_shift_37 : decode cX5_shift 37 = .ok (.getfield 41, 3) := by decide +kernel
theorem dX5_shift_40 : decode cX5_shift 40 = .ok (.iload_n 2, 1) := by decide +kernel
theorem dX5_shift_41 : decode cX5_shift 41 = .ok (.invokevirtual 145, 3) := by decide +kernel
theorem dX5_shift_44 : decode cX5_shift 44 = .ok (.ireturn, 1) := by decide +kernel
set_option maxRecDepth 20000 in
theorem ggX5_drift_X1_hasFrame : GoodIn wsX5_drift wsX1_hasFrame := goodIn_r _ [7, 8, 80, 81, 82, 83, 84] (by decide +kernel) (by decide +kernel)
set_option maxRecDepth 20000 in
theorem gX5_drift_X1_hasFrame : GoodIn wsX5_drift (wsV RX5 93 RX1 yX1_hasFrame wsX1_hasFrame) := goodIn_app (goodIn_of _ (by decide +kernel)) ggX5_drift_X1_hasFrame
set_option maxRecDepth 20000 in
theorem ggX5_drift_X5_isWithin : GoodIn wsX5_drift wsX5_isWithin := goodIn_r _ [12] (by decide +kernel) (by decide +kernel)
set_option maxRecDepth 20000 in
theorem gX5_drift_X5_isWithin : GoodIn wsX5_drift (va_wsS RX5 71 yX5_isWithin wsX5_isWithin) := goodIn_app (goodIn_of _ (by decide +kernel)) ggX5_drift_X5_isWithin
set_option maxRecDepth 20000 in
theorem ggX5_drift_X3_find : GoodIn wsX5_drift wsX3_find := goodIn_r _ [17, 18, 19, 20, 21, 22, 23, 24, 25, 26, 16, 27, 28, 29, 30, 31, 32, 33, 34, 35, 36, 37, 38, 39, 40, 41, 42, 43, 6, 44, 45, 46, 47, 48, 49, 50, 51, 52, 4, 5, 7, 8, 53, 54, 55, 56, 57, 58, 59, 60, 61, 62, 63, 64, 65, 66, 85, 86, 87, 88, 89, 90, 91, 80, 81, 82, 83, 84] (by decide +kernel) (by decide +kernel)
set_option maxRecDepth 20000 in
theorem gX5_drift_X3_find : GoodIn wsX5_drift (wsV RX5 141 RX3 yX3_find wsX3_find) := goodIn_app (goodIn_of _ (by decide +kernel)) ggX5_drift_X3_find
set_option maxRecDepth 20000 in
theorem ggX5_drift_X3_along : GoodIn wsX5_drift wsX3_along := goodIn_r _ [70, 18, 19, 85, 86, 87, 88, 89, 90, 91] (by decide +kernel) (by decide +kernel)
set_option maxRecDepth 20000 in
theorem gX5_drift_X3_along : GoodIn wsX5_drift (wsV RX5 145 RX3 yX3_along wsX3_along) := goodIn_app (goodIn_of _ (by decide +kernel)) ggX5_drift_X3_along
theorem dX5_drift_0 : decode cX5_drift 0 = .ok (.aload_n 0, 1) := by decide +kernel
theorem dX5_drift_1 : decode cX5_drift 1 = .ok (.getfield 12, 3) := by decide +kernel
theorem dX5_drift_4 : decode cX5_drift 4 = .ok (.iload_n 1, 1) := by decide +kernel
theorem dX5_drift_5 : decode cX5_drift 5 = .ok (.invokevirtual 93, 3) := by decide +kernel
theorem dX5_drift_8 : decode cX5_drift 8 = .ok (.ifCond .eq 12, 3) := by decide +kernel
theorem dX5_drift_11 : decode cX5_drift 11 = .ok (.iload_n 2, 1) := by decide +kernel
theorem dX5_drift_12 : decode cX5_drift 12 = .ok (.iconst 0, 1) := by decide +kernel
theorem dX5_drift_13 : decode cX5_drift 13 = .ok (.iconst 1, 1) := by decide +kernel
theorem dX5_drift_14 : decode cX5_drift 14 = .ok (.invokestatic 71, 3) := by decide +kernel
theorem dX5_drift_17 : decode cX5_drift 17 = .ok (.ifCond .ne 7, 3) := by decide +kernel
theorem dX5_drift_20 : decode cX5_drift 20 = .ok (.sipush (-1000), 3) := by decide +kernel
theorem dX5_drift_23 : decode cX5_drift 23 = .ok (.ireturn, 1) := by decide +kernel
theorem dX5_drift_24 : decode cX5_drift 24 = .ok (.iconst 0, 1) := by decide +kernel
theorem dX5_drift_25 : decode cX5_drift 25 = .ok (.istore_n 3, 1) := by decide +kernel
theorem dX5_drift_26 : decode cX5_drift 26 = .ok (.iconst 1, 1) := by decide +kernel
theorem dX5_drift_27 : decode cX5_drift 27 = .ok (.istore 4, 2) := by decide +kernel
theorem dX5_drift_29 : decode cX5_drift 29 = .ok (.iload 4, 2) := by decide +kernel
theorem dX5_drift_31 : decode cX5_drift 31 = .ok (.iload_n 1, 1) := by decide +kernel
theorem dX5_drift_32 : decode cX5_drift 32 = .ok (.if_icmp .gt 29, 3) := by decide +kernel
theorem dX5_drift_35 : decode cX5_drift 35 = .ok (.aload_n 0, 1) := by decide +kernel
theorem dX5_drift_36 : decode cX5_drift 36 = .ok (.getfield 41, 3) := by decide +kernel
theorem dX5_drift_39 : decode cX5_drift 39 = .ok (.iload 4, 2) := by decide +kernel
theorem dX5_drift_41 : decode cX5_drift 41 = .ok (.invokevirtual 141, 3) := by decide +kernel
theorem dX5_drift_44 : decode cX5_drift 44 = .ok (.iload_n 3, 1) := by decide +kernel
theorem dX5_drift_45 : decode cX5_drift 45 = .ok (.aload_n 0, 1) := by decide +kernel
theorem dX5_drift_46 : decode cX5_drift 46 = .ok (.getfield 41, 3) := by decide +kernel
theorem dX5_drift_49 : decode cX5_drift 49 = .ok (.iload_n 2, 1) := by decide +kernel
theorem dX5_drift_50 : decode cX5_drift 50 = .ok (.invokevirtual 145, 3) := by decide +kernel
theorem dX5_drift_53 : decode cX5_drift 53 = .ok (.iadd, 1) := by decide +kernel
theorem dX5_drift_54 : decode cX5_drift 54 = .ok (.istore_n 3, 1) := by decide +kernel
theorem dX5_drift_55 : decode cX5_drift 55 = .ok (.iinc 4 1, 3) := by decide +kernel
theorem dX5_drift_58 : decode cX5_drift 58 = .ok (.goto (-29), 3) := by decide +kernel
theorem dX5_drift_61 : decode cX5_drift 61 = .ok (.iload_n 3, 1) := by decide +kernel
theorem dX5_drift_62 : decode cX5_drift 62 = .ok (.ireturn, 1) := by decide +kernel
set_option maxRecDepth 20000 in
theorem ggX5_path_X1_hasFrame : GoodIn wsX5_path wsX1_hasFrame := goodIn_r _ [7, 8, 143, 144, 145, 146, 147] (by decide +kernel) (by decide +kernel)
set_option maxRecDepth 20000 in
theorem gX5_path_X1_hasFrame : GoodIn wsX5_path (wsV RX5 93 RX1 yX1_hasFrame wsX1_hasFrame) := goodIn_app (goodIn_of _ (by decide +kernel)) ggX5_path_X1_hasFrame
set_option maxRecDepth 20000 in
theorem ggX5_path_X5_isWithin : GoodIn wsX5_path wsX5_isWithin := goodIn_r _ [12] (by decide +kernel) (by decide +kernel)
set_option maxRecDepth 20000 in
theorem gX5_path_X5_isWithin : GoodIn wsX5_path (va_wsS RX5 71 yX5_isWithin wsX5_isWithin) := goodIn_app (goodIn_of _ (by decide +kernel)) ggX5_path_X5_isWithin
set_option maxRecDepth 20000 in
theorem ggX5_path_X5_findPath : GoodIn wsX5_path wsX5_findPath := goodIn_r _ [16, 1, 17, 18, 2, 19, 20, 21, 22, 23, 24, 25, 26, 27, 28, 29, 30, 31, 32, 33, 34, 35, 36, 37, 38, 39, 40, 41, 42, 43, 44, 45, 46, 47, 48, 49, 50, 6, 51, 52, 53, 54, 55, 56, 57, 58, 59, 4, 5, 7, 8, 60, 61, 62, 63, 64, 65, 66, 67, 68, 69, 70, 71, 72, 73, 74, 75, 76, 77, 78, 79, 80, 81, 82, 83, 84, 85, 86, 87, 88, 89, 90, 91, 92, 93, 94, 95, 96, 97, 98, 99, 100, 101, 102, 103, 104, 105, 106, 107, 108, 109, 110, 111, 112, 113, 114, 115, 116, 117, 118, 119, 120, 121, 122, 123, 124, 125, 126, 127, 128, 129, 134, 135, 136, 137, 138, 139, 140, 141, 142, 143, 144, 145, 146, 147, 148, 149, 150, 151, 152, 153, 154, 155, 156, 157, 158, 159, 160] (by decide +kernel) (by decide +kernel)
set_option maxRecDepth 20000 in
theorem gX5_path_X5_findPath : GoodIn wsX5_path (wsV RX5 149 RX5 yX5_findPath wsX5_findPath) := goodIn_app (goodIn_of _ (by decide +kernel)) ggX5_path_X5_findPath
set_option maxRecDepth 20000 in
theorem ggX5_path_X4_spotAt : GoodIn wsX5_path wsX4_spotAt := goodIn_r _ [133, 88, 91, 155, 156, 157, 158, 159, 160] (by decide +kernel) (by decide +kernel)
set_option maxRecDepth 20000 in
theorem gX5_path_X4_spotAt : GoodIn wsX5_path (wsV RX5 152 RX4 yX4_spotAt wsX4_spotAt) := goodIn_app (goodIn_of _ (by decide +kernel)) ggX5_path_X4_spotAt
theorem dX5_path_0 : decode cX5_path 0 = .ok (.aload_n 0, 1) := by decide +kernel
theorem dX5_path_1 : decode cX5_path 1 = .ok (.getfield 12, 3) := by decide +kernel
theorem dX5_path_4 : decode cX5_path 4 = .ok (.iload_n 1, 1) := by decide +kernel
theorem dX5_path_5 : decode cX5_path 5 = .ok (.invokevirtual 93, 3) := by decide +kernel
theorem dX5_path_8 : decode cX5_path 8 = .ok (.ifCond .eq 12, 3) := by decide +kernel
theorem dX5_path_11 : decode cX5_path 11 = .ok (.iload_n 2, 1) := by decide +kernel
theorem dX5_path_12 : decode cX5_path 12 = .ok (.iconst 0, 1) := by decide +kernel
theorem dX5_path_13 : decode cX5_path 13 = .ok (.iconst 1, 1) := by decide +kernel
theorem dX5_path_14 : decode cX5_path 14 = .ok (.invokestatic 71, 3) := by decide +kernel
theorem dX5_path_17 : decode cX5_path 17 = .ok (.ifCond .ne 7, 3) := by decide +kernel
theorem dX5_path_20 : decode cX5_path 20 = .ok (.sipush (-1000), 3) := by decide +kernel
theorem dX5_path_23 : decode cX5_path 23 = .ok (.ireturn, 1) := by decide +kernel
theorem dX5_path_24 : decode cX5_path 24 = .ok (.aload_n 0, 1) := by decide +kernel
theorem dX5_path_25 : decode cX5_path 25 = .ok (.iload_n 2, 1) := by decide +kernel
theorem dX5_path_26 : decode cX5_path 26 = .ok (.invokevirtual 149, 3) := by decide +kernel
theorem dX5_path_29 : decode cX5_path 29 = .ok (.aload_n 0, 1) := by decide +kernel
theorem dX5_path_30 : decode cX5_path 30 = .ok (.getfield 48, 3) := by decide +kernel
theorem dX5_path_33 : decode cX5_path 33 = .ok (.iload_n 1, 1) := by decide +kernel
theorem dX5_path_34 : decode cX5_path 34 = .ok (.invokevirtual 152, 3) := by decide +kernel
theorem dX5_path_37 : decode cX5_path 37 = .ok (.ireturn, 1) := by decide +kernel
set_option maxRecDepth 20000 in
theorem ggX5_bends_X5_isWithin : GoodIn wsX5_bends wsX5_isWithin := goodIn_r _ [5] (by decide +kernel) (by decide +kernel)
set_option maxRecDepth 20000 in
theorem gX5_bends_X5_isWithin : GoodIn wsX5_bends (va_wsS RX5 71 yX5_isWithin wsX5_isWithin) := goodIn_app (goodIn_of _ (by decide +kernel)) ggX5_bends_X5_isWithin
set_option maxRecDepth 20000 in
theorem ggX5_bends_X5_findPath : GoodIn wsX5_bends wsX5_findPath := goodIn_r _ [9, 10, 11, 12, 1, 13, 14, 15, 16, 17, 18, 19, 20, 21, 22, 23, 24, 25, 26, 27, 28, 29, 30, 31, 32, 33, 34, 35, 36, 37, 38, 39, 40, 41, 42, 43, 44, 45, 46, 47, 48, 49, 50, 51, 52, 53, 54, 55, 56, 57, 58, 59, 60, 61, 62, 63, 64, 65, 66, 67, 68, 69, 70, 71, 72, 73, 74, 75, 76, 77, 78, 79, 80, 81, 82, 83, 84, 85, 86, 87, 88, 89, 90, 91, 92, 93, 94, 95, 96, 97, 98, 99, 100, 101, 102, 103, 104, 105, 106, 107, 108, 109, 110, 111, 112, 113, 114, 115, 116, 117, 118, 119, 120, 121, 122, 123, 124, 125, 126, 127, 128, 137, 138, 139, 140, 141, 142, 143, 144, 145, 146, 147, 148, 149, 150, 151, 152, 153, 154, 155, 156, 157, 158, 159, 160, 161, 162, 163] (by decide +kernel) (by decide +kernel)
set_option maxRecDepth 20000 in
theorem gX5_bends_X5_findPath : GoodIn wsX5_bends (wsV RX5 149 RX5 yX5_findPath wsX5_findPath) := goodIn_app (goodIn_of _ (by decide +kernel)) ggX5_bends_X5_findPath
set_option maxRecDepth 20000 in
theorem ggX5_bends_X4_sumOfBends : GoodIn wsX5_bends wsX4_sumOfBends := goodIn_r _ [132, 87, 90, 112, 40, 33, 41, 158, 159, 160, 161, 162, 163] (by decide +kernel) (by decide +kernel)
set_option maxRecDepth 20000 in
theorem gX5_bends_X4_sumOfBends : GoodIn wsX5_bends (wsV RX5 155 RX4 yX4_sumOfBends wsX4_sumOfBends) := goodIn_app (goodIn_of _ (by decide +kernel)) ggX5_bends_X4_sumOfBends
set_option maxRecDepth 20000 in
theorem ggX5_bends_X4_sumOfStrays : GoodIn wsX5_bends wsX4_sumOfStrays := goodIn_r _ [136, 87, 90, 82, 112, 40, 33, 41, 158, 159, 160, 161, 162, 163] (by decide +kernel) (by decide +kernel)
set_option maxRecDepth 20000 in
theorem gX5_bends_X4_sumOfStrays : GoodIn wsX5_bends (wsV RX5 158 RX4 yX4_sumOfStrays wsX4_sumOfStrays) := goodIn_app (goodIn_of _ (by decide +kernel)) ggX5_bends_X4_sumOfStrays
theorem dX5_bends_0 : decode cX5_bends 0 = .ok (.iload_n 1, 1) := by decide +kernel
theorem dX5_bends_1 : decode cX5_bends 1 = .ok (.iconst 0, 1) := by decide +kernel
theorem dX5_bends_2 : decode cX5_bends 2 = .ok (.iconst 1, 1) := by decide +kernel
theorem dX5_bends_3 : decode cX5_bends 3 = .ok (.invokestatic 71, 3) := by decide +kernel
theorem dX5_bends_6 : decode cX5_bends 6 = .ok (.ifCond .eq 12, 3) := by decide +kernel
theorem dX5_bends_9 : decode cX5_bends 9 = .ok (.iload_n 2, 1) := by decide +kernel
theorem dX5_bends_10 : decode cX5_bends 10 = .ok (.iconst 0, 1) := by decide +kernel
theorem dX5_bends_11 : decode cX5_bends 11 = .ok (.iconst 1, 1) := by decide +kernel
theorem dX5_bends_12 : decode cX5_bends 12 = .ok (.invokestatic 71, 3) := by decide +kernel
theorem dX5_bends_15 : decode cX5_bends 15 = .ok (.ifCond .ne 5, 3) := by decide +kernel
theorem dX5_bends_18 : decode cX5_bends 18 = .ok (.iconst (-1), 1) := by decide +kernel
theorem dX5_bends_19 : decode cX5_bends 19 = .ok (.ireturn, 1) := by decide +kernel
theorem dX5_bends_20 : decode cX5_bends 20 = .ok (.aload_n 0, 1) := by decide +kernel
theorem dX5_bends_21 : decode cX5_bends 21 = .ok (.iload_n 1, 1) := by decide +kernel
theorem dX5_bends_22 : decode cX5_bends 22 = .ok (.invokevirtual 149, 3) := by decide +kernel
theorem dX5_bends_25 : decode cX5_bends 25 = .ok (.iload_n 2, 1) := by decide +kernel
theorem dX5_bends_26 : decode cX5_bends 26 = .ok (.ifCond .ne 13, 3) := by decide +kernel
theorem dX5_bends_29 : decode cX5_bends 29 = .ok (.aload_n 0, 1) := by decide +kernel
theorem dX5_bends_30 : decode cX5_bends 30 = .ok (.getfield 48, 3) := by decide +kernel
theorem dX5_bends_33 : decode cX5_bends 33 = .ok (.invokevirtual 155, 3) := by decide +kernel
theorem dX5_bends_36 : decode cX5_bends 36 = .ok (.goto 10, 3) := by decide +kernel
theorem dX5_bends_39 : decode cX5_bends 39 = .ok (.aload_n 0, 1) := by decide +kernel
theorem dX5_bends_40 : decode cX5_bends 40 = .ok (.getfield 48, 3) := by decide +kernel
theorem dX5_bends_43 : decode cX5_bends 43 = .ok (.invokevirtual 158, 3) := by decide +kernel
theorem dX5_bends_46 : decode cX5_bends 46 = .ok (.ireturn, 1) := by decide +kernel
set_option maxRecDepth 20000 in
theorem ggX5_dust_X1_hasFrame : GoodIn wsX5_dust wsX1_hasFrame := goodIn_r _ [8, 9, 42, 43, 44, 45, 46] (by decide +kernel) (by decide +kernel)
set_option maxRecDepth 20000 in
theorem gX5_dust_X1_hasFrame : GoodIn wsX5_dust (wsV RX5 93 RX1 yX1_hasFrame wsX1_hasFrame) := goodIn_app (goodIn_of _ (by decide +kernel)) ggX5_dust_X1_hasFrame
set_option maxRecDepth 20000 in
theorem ggX5_dust_X1_greyAt : GoodIn wsX5_dust wsX1_greyAt := goodIn_r _ [13, 14, 15, 5, 6, 7, 8, 9, 16, 17, 18, 19, 20, 42, 43, 44, 45, 46] (by decide +kernel) (by decide +kernel)
set_option maxRecDepth 20000 in
theorem gX5_dust_X1_greyAt : GoodIn wsX5_dust (wsV RX5 97 RX1 yX1_greyAt wsX1_greyAt) := goodIn_app (goodIn_of _ (by decide +kernel)) ggX5_dust_X1_greyAt
set_option maxRecDepth 20000 in
theorem ggX5_dust_X2_isDust : GoodIn wsX5_dust wsX2_isDust := goodIn_r _ [25, 26, 27, 28, 29, 30, 31, 32, 11, 12, 7, 13, 14, 15, 5, 6, 8, 9, 16, 17, 18, 19, 20, 47, 48, 49, 50, 51, 52, 42, 43, 44, 45, 46] (by decide +kernel) (by decide +kernel)
set_option maxRecDepth 20000 in
theorem gX5_dust_X2_isDust : GoodIn wsX5_dust (wsV RX5 161 RX2 yX2_isDust wsX2_isDust) := goodIn_app (goodIn_of _ (by decide +kernel)) ggX5_dust_X2_isDust
theorem dX5_dust_0 : decode cX5_dust 0 = .ok (.aload_n 0, 1) := by decide +kernel
theorem dX5_dust_1 : decode cX5_dust 1 = .ok (.getfield 12, 3) := by decide +kernel
theorem dX5_dust_4 : decode cX5_dust 4 = .ok (.iload_n 1, 1) := by decide +kernel
theorem dX5_dust_5 : decode cX5_dust 5 = .ok (.invokevirtual 93, 3) := by decide +kernel
theorem dX5_dust_8 : decode cX5_dust 8 = .ok (.ifCond .ne 5, 3) := by decide +kernel
theorem dX5_dust_11 : decode cX5_dust 11 = .ok (.iconst (-1), 1) := by decide +kernel
theorem dX5_dust_12 : decode cX5_dust 12 = .ok (.ireturn, 1) := by decide +kernel
theorem dX5_dust_13 : decode cX5_dust 13 = .ok (.iconst 0, 1) := by decide +kernel
theorem dX5_dust_14 : decode cX5_dust 14 = .ok (.istore_n 2, 1) := by decide +kernel
theorem dX5_dust_15 : decode cX5_dust 15 = .ok (.iconst 0, 1) := by decide +kernel
theorem dX5_dust_16 : decode cX5_dust 16 = .ok (.istore_n 3, 1) := by decide +kernel
theorem dX5_dust_17 : decode cX5_dust 17 = .ok (.iload_n 3, 1) := by decide +kernel
theorem dX5_dust_18 : decode cX5_dust 18 = .ok (.aload_n 0, 1) := by decide +kernel
theorem dX5_dust_19 : decode cX5_dust 19 = .ok (.getfield 12, 3) := by decide +kernel
theorem dX5_dust_22 : decode cX5_dust 22 = .ok (.getfield 83, 3) := by decide +kernel
theorem dX5_dust_25 : decode cX5_dust 25 = .ok (.if_icmp .ge 33, 3) := by decide +kernel
theorem dX5_dust_28 : decode cX5_dust 28 = .ok (.aload_n 0, 1) := by decide +kernel
theorem dX5_dust_29 : decode cX5_dust 29 = .ok (.getfield 57, 3) := by decide +kernel
theorem dX5_dust_32 : decode cX5_dust 32 = .ok (.aload_n 0, 1) := by decide +kernel
theorem dX5_dust_33 : decode cX5_dust 33 = .ok (.getfield 12, 3) := by decide +kernel
theorem dX5_dust_36 : decode cX5_dust 36 = .ok (.iload_n 1, 1) := by decide +kernel
theorem dX5_dust_37 : decode cX5_dust 37 = .ok (.iload_n 3, 1) := by decide +kernel
theorem dX5_dust_38 : decode cX5_dust 38 = .ok (.invokevirtual 97, 3) := by decide +kernel
theorem dX5_dust_41 : decode cX5_dust 41 = .ok (.iload_n 1, 1) := by decide +kernel
theorem dX5_dust_42 : decode cX5_dust 42 = .ok (.iload_n 3, 1) := by decide +kernel
theorem dX5_dust_43 : decode cX5_dust 43 = .ok (.invokevirtual 161, 3) := by decide +kernel
theorem dX5_dust_46 : decode cX5_dust 46 = .ok (.ifCond .eq 6, 3) := by decide +kernel
theorem dX5_dust_49 : decode cX5_dust 49 = .ok (.iinc 2 1, 3) := by decide +kernel
theorem dX5_dust_52 : decode cX5_dust 52 = .ok (.iinc 3 1, 3) := by decide +kernel
theorem dX5_dust_55 : decode cX5_dust 55 = .ok (.goto (-38), 3) := by decide +kernel
theorem dX5_dust_58 : decode cX5_dust 58 = .ok (.iload_n 2, 1) := by decide +kernel
theorem dX5_dust_59 : decode cX5_dust 59 = .ok (.ireturn, 1) := by decide +kernel
set_option maxRecDepth 20000 in
theorem ggX5_layer_X5_isWithin : GoodIn wsX5_layer wsX5_isWithin := goodIn_r _ [7] (by decide +kernel) (by decide +kernel)
set_option maxRecDepth 20000 in
theorem gX5_layer_X5_isWithin : GoodIn wsX5_layer (va_wsS RX5 71 yX5_isWithin wsX5_isWithin) := goodIn_app (goodIn_of _ (by decide +kernel)) ggX5_layer_X5_isWithin
set_option maxRecDepth 20000 in
theorem ggX5_layer_X1_hasFrame : GoodIn wsX5_layer wsX1_hasFrame := goodIn_r _ [12, 13, 40, 41, 42, 43, 44] (by decide +kernel) (by decide +kernel)
set_option maxRecDepth 20000 in
theorem gX5_layer_X1_hasFrame : GoodIn wsX5_layer (wsV RX5 93 RX1 yX1_hasFrame wsX1_hasFrame) := goodIn_app (goodIn_of _ (by decide +kernel)) ggX5_layer_X1_hasFrame
set_option maxRecDepth 20000 in
theorem ggX5_layer_X0_add : GoodIn wsX5_layer wsX0_add := goodIn_r _ [18, 19, 20, 21, 22, 23, 24, 34, 35, 36, 37, 38, 39] (by decide +kernel) (by decide +kernel)
set_option maxRecDepth 20000 in
theorem gX5_layer_X0_add : GoodIn wsX5_layer (wsV RX5 164 RX0 yX0_add wsX0_add) := goodIn_app (goodIn_of _ (by decide +kernel)) ggX5_layer_X0_add
theorem dX5_layer_0 : decode cX5_layer 0 = .ok (.iload_n 1, 1) := by decide +kernel
theorem dX5_layer_1 : decode cX5_layer 1 = .ok (.iconst 0, 1) := by decide +kernel
theorem dX5_layer_2 : decode cX5_layer 2 = .ok (.iconst 3, 1) := by decide +kernel
theorem dX5_layer_3 : decode cX5_layer 3 = .ok (.invokestatic 71, 3) := by decide +kernel
theorem dX5_layer_6 : decode cX5_layer 6 = .ok (.ifCond .eq 14, 3) := by decide +kernel
theorem dX5_layer_9 : decode cX5_layer 9 = .ok (.aload_n 0, 1) := by decide +kernel
theorem dX5_layer_10 : decode cX5_layer 10 = .ok (.getfield 12, 3) := by decide +kernel
theorem dX5_layer_13 : decode cX5_layer 13 = .ok (.iload_n 2, 1) := by decide +kernel
theorem dX5_layer_14 : decode cX5_layer 14 = .ok (.invokevirtual 93, 3) := by decide +kernel
theorem dX5_layer_17 : decode cX5_layer 17 = .ok (.ifCond .ne 5, 3) := by decide +kernel
theorem dX5_layer_20 : decode cX5_layer 20 = .ok (.iconst (-1), 1) := by decide +kernel
theorem dX5_layer_21 : decode cX5_layer 21 = .ok (.ireturn, 1) := by decide +kernel
theorem dX5_layer_22 : decode cX5_layer 22 = .ok (.iload_n 1, 1) := by decide +kernel
theorem dX5_layer_23 : decode cX5_layer 23 = .ok (.iconst 1, 1) := by decide +kernel
theorem dX5_layer_24 : decode cX5_layer 24 = .ok (.if_icmp .ne 21, 3) := by decide +kernel
theorem dX5_layer_27 : decode cX5_layer 27 = .ok (.aload_n 0, 1) := by decide +kernel
theorem dX5_layer_28 : decode cX5_layer 28 = .ok (.getfield 12, 3) := by decide +kernel
theorem dX5_layer_31 : decode cX5_layer 31 = .ok (.iload_n 3, 1) := by decide +kernel
theorem dX5_layer_32 : decode cX5_layer 32 = .ok (.invokevirtual 93, 3) := by decide +kernel
theorem dX5_layer_35 : decode cX5_layer 35 = .ok (.ifCond .eq 8, 3) := by decide +kernel
theorem dX5_layer_38 : decode cX5_layer 38 = .ok (.iload_n 3, 1) := by decide +kernel
theorem dX5_layer_39 : decode cX5_layer 39 = .ok (.iload_n 2, 1) := by decide +kernel
theorem dX5_layer_40 : decode cX5_layer 40 = .ok (.if_icmp .ne 5, 3) := by decide +kernel
theorem dX5_layer_43 : decode cX5_layer 43 = .ok (.iconst (-1), 1) := by decide +kernel
theorem dX5_layer_44 : decode cX5_layer 44 = .ok (.ireturn, 1) := by decide +kernel
theorem dX5_layer_45 : decode cX5_layer 45 = .ok (.iload_n 1, 1) := by decide +kernel
theorem dX5_layer_46 : decode cX5_layer 46 = .ok (.iconst 3, 1) := by decide +kernel
theorem dX5_layer_47 : decode cX5_layer 47 = .ok (.if_icmp .ne 26, 3) := by decide +kernel
theorem dX5_layer_50 : decode cX5_layer 50 = .ok (.iload_n 3, 1) := by decide +kernel
theorem dX5_layer_51 : decode cX5_layer 51 = .ok (.bipush (-3), 2) := by decide +kernel
theorem dX5_layer_53 : decode cX5_layer 53 = .ok (.iconst 3, 1) := by decide +kernel
theorem dX5_layer_54 : decode cX5_layer 54 = .ok (.invokestatic 71, 3) := by decide +kernel
theorem dX5_layer_57 : decode cX5_layer 57 = .ok (.ifCond .eq 14, 3) := by decide +kernel
theorem dX5_layer_60 : decode cX5_layer 60 = .ok (.iload 4, 2) := by decide +kernel
theorem dX5_layer_62 : decode cX5_layer 62 = .ok (.bipush (-3), 2) := by decide +kernel
theorem dX5_layer_64 : decode cX5_layer 64 = .ok (.iconst 3, 1) := by decide +kernel
theorem dX5_layer_65 : decode cX5_layer 65 = .ok (.invokestatic 71, 3) := by decide +kernel
theorem dX5_layer_68 : decode cX5_layer 68 = .ok (.ifCond .ne 5, 3) := by decide +kernel
theorem dX5_layer_71 : decode cX5_layer 71 = .ok (.iconst (-1), 1) := by decide +kernel
theorem dX5_layer_72 : decode cX5_layer 72 = .ok (.ireturn, 1) := by decide +kernel
theorem dX5_layer_73 : decode cX5_layer 73 = .ok (.aload_n 0, 1) := by decide +kernel
theorem dX5_layer_74 : decode cX5_layer 74 = .ok (.getfield 19, 3) := by decide +kernel
theorem dX5_layer_77 : decode cX5_layer 77 = .ok (.getfield 79, 3) := by decide +kernel
theorem dX5_layer_80 : decode cX5_layer 80 = .ok (.bipush 12, 2) := by decide +kernel
theorem dX5_layer_82 : decode cX5_layer 82 = .ok (.if_icmp .lt 6, 3) := by decide +kernel
theorem dX5_layer_85 : decode cX5_layer 85 = .ok (.bipush (-2), 2) := by decide +kernel
theorem dX5_layer_87 : decode cX5_layer 87 = .ok (.ireturn, 1) := by decide +kernel
theorem dX5_layer_88 : decode cX5_layer 88 = .ok (.aload_n 0, 1) := by decide +kernel
theorem dX5_layer_89 : decode cX5_layer 89 = .ok (.getfield 19, 3) := by decide +kernel
theorem dX5_layer_92 : decode cX5_layer 92 = .ok (.iload_n 1, 1) := by decide +kernel
theorem dX5_layer_93 : decode cX5_layer 93 = .ok (.iload_n 2, 1) := by decide +kernel
theorem dX5_layer_94 : decode cX5_layer 94 = .ok (.iload_n 1, 1) := by decide +kernel
theorem dX5_layer_95 : decode cX5_layer 95 = .ok (.iconst 1, 1) := by decide +kernel
theorem dX5_layer_96 : decode cX5_layer 96 = .ok (.if_icmp .eq 8, 3) := by decide +kernel
theorem dX5_layer_99 : decode cX5_layer 99 = .ok (.iload_n 1, 1) := by decide +kernel
theorem dX5_layer_100 : decode cX5_layer 100 = .ok (.iconst 3, 1) := by decide +kernel
theorem dX5_layer_101 : decode cX5_layer 101 = .ok (.if_icmp .ne 7, 3) := by decide +kernel
theorem dX5_layer_104 : decode cX5_layer 104 = .ok (.iload_n 3, 1) := by decide +kernel
theorem dX5_layer_105 : decode cX5_layer 105 = .ok (.goto 4, 3) := by decide +kernel
theorem dX5_layer_108 : decode cX5_layer 108 = .ok (.iconst 0, 1) := by decide +kernel
theorem dX5_layer_109 : decode cX5_layer 109 = .ok (.iload_n 1, 1) := by decide +kernel
theorem dX5_layer_110 : decode cX5_layer 110 = .ok (.iconst 3, 1) := by decide +kernel
theorem dX5_layer_111 : decode cX5_layer 111 = .ok (.if_icmp .ne 8, 3) := by decide +kernel
theorem dX5_layer_114 : decode cX5_layer 114 = .ok (.iload 4, 2) := by decide +kernel
theorem dX5_layer_116 : decode cX5_layer 116 = .ok (.goto 4, 3) := by decide +kernel
theorem dX5_layer_119 : decode cX5_layer 119 = .ok (.iconst 0, 1) := by decide +kernel
theorem dX5_layer_120 : decode cX5_layer 120 = .ok (.invokevirtual 164, 3) := by decide +kernel
theorem dX5_layer_123 : decode cX5_layer 123 = .ok (.ireturn, 1) := by decide +kernel
set_option maxRecDepth 20000 in
theorem ggX5_on_X0_has : GoodIn wsX5_on wsX0_has := goodIn_r _ [7, 8, 18, 19, 20, 21, 22, 23] (by decide +kernel) (by decide +kernel)
set_option maxRecDepth 20000 in
theorem gX5_on_X0_has : GoodIn wsX5_on (wsV RX5 168 RX0 yX0_has wsX0_has) := goodIn_app (goodIn_of _ (by decide +kernel)) ggX5_on_X0_has
theorem dX5_on_0 : decode cX5_on 0 = .ok (.aload_n 0, 1) := by decide +kernel
theorem dX5_on_1 : decode cX5_on 1 = .ok (.getfield 19, 3) := by decide +kernel
theorem dX5_on_4 : decode cX5_on 4 = .ok (.iload_n 1, 1) := by decide +kernel
theorem dX5_on_5 : decode cX5_on 5 = .ok (.invokevirtual 168, 3) := by decide +kernel
theorem dX5_on_8 : decode cX5_on 8 = .ok (.ifCond .ne 5, 3) := by decide +kernel
theorem dX5_on_11 : decode cX5_on 11 = .ok (.iconst (-1), 1) := by decide +kernel
theorem dX5_on_12 : decode cX5_on 12 = .ok (.ireturn, 1) := by decide +kernel
theorem dX5_on_13 : decode cX5_on 13 = .ok (.aload_n 0, 1) := by decide +kernel
theorem dX5_on_14 : decode cX5_on 14 = .ok (.getfield 19, 3) := by decide +kernel
theorem dX5_on_17 : decode cX5_on 17 = .ok (.getfield 171, 3) := by decide +kernel
theorem dX5_on_20 : decode cX5_on 20 = .ok (.iload_n 1, 1) := by decide +kernel
theorem dX5_on_21 : decode cX5_on 21 = .ok (.baload, 1) := by decide +kernel
theorem dX5_on_22 : decode cX5_on 22 = .ok (.iload_n 2, 1) := by decide +kernel
theorem dX5_on_23 : decode cX5_on 23 = .ok (.if_icmp .eq 7, 3) := by decide +kernel
theorem dX5_on_26 : decode cX5_on 26 = .ok (.iconst 1, 1) := by decide +kernel
theorem dX5_on_27 : decode cX5_on 27 = .ok (.goto 4, 3) := by decide +kernel
theorem dX5_on_30 : decode cX5_on 30 = .ok (.iconst 0, 1) := by decide +kernel
theorem dX5_on_31 : decode cX5_on 31 = .ok (.istore_n 3, 1) := by decide +kernel
theorem dX5_on_32 : decode cX5_on 32 = .ok (.aload_n 0, 1) := by decide +kernel
theorem dX5_on_33 : decode cX5_on 33 = .ok (.getfield 19, 3) := by decide +kernel
theorem dX5_on_36 : decode cX5_on 36 = .ok (.getfield 171, 3) := by decide +kernel
theorem dX5_on_39 : decode cX5_on 39 = .ok (.iload_n 1, 1) := by decide +kernel
theorem dX5_on_40 : decode cX5_on 40 = .ok (.iload_n 2, 1) := by decide +kernel
theorem dX5_on_41 : decode cX5_on 41 = .ok (.bastore, 1) := by decide +kernel
theorem dX5_on_42 : decode cX5_on 42 = .ok (.iload_n 3, 1) := by decide +kernel
theorem dX5_on_43 : decode cX5_on 43 = .ok (.ifCond .eq 7, 3) := by decide +kernel
theorem dX5_on_46 : decode cX5_on 46 = .ok (.iconst 1, 1) := by decide +kernel
theorem dX5_on_47 : decode cX5_on 47 = .ok (.goto 4, 3) := by decide +kernel
theorem dX5_on_50 : decode cX5_on 50 = .ok (.iconst 0, 1) := by decide +kernel
theorem dX5_on_51 : decode cX5_on 51 = .ok (.ireturn, 1) := by decide +kernel
theorem dX5_peel_0 : decode cX5_peel 0 = .ok (.aload_n 0, 1) := by decide +kernel
theorem dX5_peel_1 : decode cX5_peel 1 = .ok (.getfield 19, 3) := by decide +kernel
theorem dX5_peel_4 : decode cX5_peel 4 = .ok (.getfield 79, 3) := by decide +kernel
theorem dX5_peel_7 : decode cX5_peel 7 = .ok (.ifCond .gt 6, 3) := by decide +kernel
theorem dX5_peel_10 : decode cX5_peel 10 = .ok (.bipush (-3), 2) := by decide +kernel
theorem dX5_peel_12 : decode cX5_peel 12 = .ok (.ireturn, 1) := by decide +kernel
theorem dX5_peel_13 : decode cX5_peel 13 = .ok (.aload_n 0, 1) := by decide +kernel
theorem dX5_peel_14 : decode cX5_peel 14 = .ok (.getfield 19, 3) := by decide +kernel
theorem dX5_peel_17 : decode cX5_peel 17 = .ok (.dup, 1) := by decide +kernel
theorem dX5_peel_18 : decode cX5_peel 18 = .ok (.getfield 79, 3) := by decide +kernel
theorem dX5_peel_21 : decode cX5_peel 21 = .ok (.iconst 1, 1) := by decide +kernel
theorem dX5_peel_22 : decode cX5_peel 22 = .ok (.isub, 1) := by decide +kernel
theorem dX5_peel_23 : decode cX5_peel 23 = .ok (.putfield 79, 3) := by decide +kernel
theorem dX5_peel_26 : decode cX5_peel 26 = .ok (.aload_n 0, 1) := by decide +kernel
theorem dX5_peel_27 : decode cX5_peel 27 = .ok (.getfield 19, 3) := by decide +kernel
theorem dX5_peel_30 : decode cX5_peel 30 = .ok (.getfield 79, 3) := by decide +kernel
theorem dX5_peel_33 : decode cX5_peel 33 = .ok (.ireturn, 1) := by decide +kernel
set_option maxRecDepth 20000 in
theorem ggX5_made_X1_placeOf : GoodIn wsX5_made wsX1_placeOf := goodIn_r _ [9, 10, 11, 113, 114, 115, 116, 117] (by decide +kernel) (by decide +kernel)
set_option maxRecDepth 20000 in
theorem gX5_made_X1_placeOf : GoodIn wsX5_made (wsV RX5 113 RX1 yX1_placeOf wsX1_placeOf) := goodIn_app (goodIn_of _ (by decide +kernel)) ggX5_made_X1_placeOf
set_option maxRecDepth 20000 in
theorem ggX5_made_X1_hasFrame : GoodIn wsX5_made wsX1_hasFrame := goodIn_r _ [15, 16, 113, 114, 115, 116, 117] (by decide +kernel) (by decide +kernel)
set_option maxRecDepth 20000 in
theorem gX5_made_X1_hasFrame : GoodIn wsX5_made (wsV RX5 93 RX1 yX1_hasFrame wsX1_hasFrame) := goodIn_app (goodIn_of _ (by decide +kernel)) ggX5_made_X1_hasFrame
set_option maxRecDepth 20000 in
theorem ggX5_made_X2_make : GoodIn wsX5_made wsX2_make := goodIn_r _ [21, 22, 23, 24, 25, 26, 27, 28, 29, 30, 31, 8, 32, 33, 34, 13, 14, 15, 16, 35, 36, 37, 38, 39, 40, 41, 42, 20, 43, 44, 45, 46, 47, 48, 49, 50, 51, 52, 53, 54, 55, 56, 57, 58, 59, 60, 61, 62, 63, 64, 65, 66, 67, 68, 69, 70, 71, 72, 73, 74, 75, 76, 77, 78, 79, 80, 81, 82, 83, 84, 85, 86, 87, 88, 89, 90, 91, 92, 6, 7, 9, 10, 11, 93, 118, 119, 120, 121, 122, 123, 113, 114, 115, 116, 117, 107, 108, 109, 110, 111, 112] (by decide +kernel) (by decide +kernel)
set_option maxRecDepth 20000 in
theorem gX5_made_X2_make : GoodIn wsX5_made (wsV RX5 175 RX2 yX2_make wsX2_make) := goodIn_app (goodIn_of _ (by decide +kernel)) ggX5_made_X2_make
set_option maxRecDepth 20000 in
theorem ggX5_made_X2_greyAt : GoodIn wsX5_made wsX2_greyAt := goodIn_r _ [97, 22, 24, 93, 36, 37, 8, 38, 39, 118, 119, 120, 121, 122, 123, 113, 114, 115, 116, 117] (by decide +kernel) (by decide +kernel)
set_option maxRecDepth 20000 in
theorem gX5_made_X2_greyAt : GoodIn wsX5_made (wsV RX5 178 RX2 yX2_greyAt wsX2_greyAt) := goodIn_app (goodIn_of _ (by decide +kernel)) ggX5_made_X2_greyAt
theorem dX5_made_0 : decode cX5_made 0 = .ok (.aload_n 0, 1) := by decide +kernel
theorem dX5_made_1 : decode cX5_made 1 = .ok (.getfield 12, 3) := by decide +kernel
theorem dX5_made_4 : decode cX5_made 4 = .ok (.iload_n 2, 1) := by decide +kernel
theorem dX5_made_5 : decode cX5_made 5 = .ok (.iload_n 3, 1) := by decide +kernel
theorem dX5_made_6 : decode cX5_made 6 = .ok (.invokevirtual 113, 3) := by decide +kernel
theorem dX5_made_9 : decode cX5_made 9 = .ok (.istore 4, 2) := by decide +kernel
theorem dX5_made_11 : decode cX5_made 11 = .ok (.aload_n 0, 1) := by decide +kernel
theorem dX5_made_12 : decode cX5_made 12 = .ok (.getfield 12, 3) := by decide +kernel
theorem dX5_made_15 : decode cX5_made 15 = .ok (.iload_n 1, 1) := by decide +kernel
theorem dX5_made_16 : decode cX5_made 16 = .ok (.invokevirtual 93, 3) := by decide +kernel
theorem dX5_made_19 : decode cX5_made 19 = .ok (.ifCond .eq 8, 3) := by decide +kernel
theorem dX5_made_22 : decode cX5_made 22 = .ok (.iload 4, 2) := by decide +kernel
theorem dX5_made_24 : decode cX5_made 24 = .ok (.ifCond .ge 7, 3) := by decide +kernel
theorem dX5_made_27 : decode cX5_made 27 = .ok (.sipush (-1000), 3) := by decide +kernel
theorem dX5_made_30 : decode cX5_made 30 = .ok (.ireturn, 1) := by decide +kernel
theorem dX5_made_31 : decode cX5_made 31 = .ok (.aload_n 0, 1) := by decide +kernel
theorem dX5_made_32 : decode cX5_made 32 = .ok (.getfield 57, 3) := by decide +kernel
theorem dX5_made_35 : decode cX5_made 35 = .ok (.iload_n 1, 1) := by decide +kernel
theorem dX5_made_36 : decode cX5_made 36 = .ok (.aload_n 0, 1) := by decide +kernel
theorem dX5_made_37 : decode cX5_made 37 = .ok (.getfield 19, 3) := by decide +kernel
theorem dX5_made_40 : decode cX5_made 40 = .ok (.getfield 79, 3) := by decide +kernel
theorem dX5_made_43 : decode cX5_made 43 = .ok (.invokevirtual 175, 3) := by decide +kernel
theorem dX5_made_46 : decode cX5_made 46 = .ok (.aload_n 0, 1) := by decide +kernel
theorem dX5_made_47 : decode cX5_made 47 = .ok (.getfield 57, 3) := by decide +kernel
theorem dX5_made_50 : decode cX5_made 50 = .ok (.iload 4, 2) := by decide +kernel
theorem dX5_made_52 : decode cX5_made 52 = .ok (.invokevirtual 178, 3) := by decide +kernel
theorem dX5_made_55 : decode cX5_made 55 = .ok (.ireturn, 1) := by decide +kernel
set_option maxRecDepth 20000 in
theorem ggX5_changed_X0_has : GoodIn wsX5_changed wsX0_has := goodIn_r _ [9, 10, 111, 112, 113, 114, 115, 116] (by decide +kernel) (by decide +kernel)
set_option maxRecDepth 20000 in
theorem gX5_changed_X0_has : GoodIn wsX5_changed (wsV RX5 168 RX0 yX0_has wsX0_has) := goodIn_app (goodIn_of _ (by decide +kernel)) ggX5_changed_X0_has
set_option maxRecDepth 20000 in
theorem ggX5_changed_X2_make : GoodIn wsX5_changed wsX2_make := goodIn_r _ [15, 16, 17, 18, 19, 20, 21, 22, 23, 24, 25, 26, 27, 28, 29, 30, 31, 32, 33, 34, 35, 36, 37, 38, 39, 40, 41, 14, 42, 43, 44, 45, 46, 47, 48, 49, 50, 51, 52, 53, 54, 55, 56, 57, 58, 59, 60, 61, 62, 63, 64, 65, 66, 67, 68, 69, 70, 71, 72, 73, 74, 75, 76, 77, 78, 79, 80, 81, 82, 83, 84, 85, 86, 87, 88, 89, 90, 91, 92, 93, 94, 95, 96, 97, 117, 118, 119, 120, 121, 122, 123, 124, 125, 126, 127, 111, 112, 113, 114, 115, 116] (by decide +kernel) (by decide +kernel)
set_option maxRecDepth 20000 in
theorem gX5_changed_X2_make : GoodIn wsX5_changed (wsV RX5 175 RX2 yX2_make wsX2_make) := goodIn_app (goodIn_of _ (by decide +kernel)) ggX5_changed_X2_make
set_option maxRecDepth 20000 in
theorem ggX5_changed_X2_countChanged : GoodIn wsX5_changed wsX2_countChanged := goodIn_r _ [101, 16, 17, 18, 43, 117, 118, 119, 120, 121, 122, 123, 124, 125, 126, 127] (by decide +kernel) (by decide +kernel)
set_option maxRecDepth 20000 in
theorem gX5_changed_X2_countChanged : GoodIn wsX5_changed (wsV RX5 183 RX2 yX2_countChanged wsX2_countChanged) := goodIn_app (goodIn_of _ (by decide +kernel)) ggX5_changed_X2_countChanged
theorem dX5_changed_0 : decode cX5_changed 0 = .ok (.aload_n 0, 1) := by decide +kernel
theorem dX5_changed_1 : decode cX5_changed 1 = .ok (.getfield 19, 3) := by decide +kernel
theorem dX5_changed_4 : decode cX5_changed 4 = .ok (.iload_n 1, 1) := by decide +kernel
theorem dX5_changed_5 : decode cX5_changed 5 = .ok (.invokevirtual 168, 3) := by decide +kernel
theorem dX5_changed_8 : decode cX5_changed 8 = .ok (.ifCond .ne 5, 3) := by decide +kernel
theorem dX5_changed_11 : decode cX5_changed 11 = .ok (.iconst (-1), 1) := by decide +kernel
theorem dX5_changed_12 : decode cX5_changed 12 = .ok (.ireturn, 1) := by decide +kernel
theorem dX5_changed_13 : decode cX5_changed 13 = .ok (.aload_n 0, 1) := by decide +kernel
theorem dX5_changed_14 : decode cX5_changed 14 = .ok (.getfield 19, 3) := by decide +kernel
theorem dX5_changed_17 : decode cX5_changed 17 = .ok (.getfield 171, 3) := by decide +kernel
theorem dX5_changed_20 : decode cX5_changed 20 = .ok (.iload_n 1, 1) := by decide +kernel
theorem dX5_changed_21 : decode cX5_changed 21 = .ok (.baload, 1) := by decide +kernel
theorem dX5_changed_22 : decode cX5_changed 22 = .ok (.ifCond .ne 5, 3) := by decide +kernel
theorem dX5_changed_25 : decode cX5_changed 25 = .ok (.iconst 0, 1) := by decide +kernel
theorem dX5_changed_26 : decode cX5_changed 26 = .ok (.ireturn, 1) := by decide +kernel
theorem dX5_changed_27 : decode cX5_changed 27 = .ok (.aload_n 0, 1) := by decide +kernel
theorem dX5_changed_28 : decode cX5_changed 28 = .ok (.getfield 57, 3) := by decide +kernel
theorem dX5_changed_31 : decode cX5_changed 31 = .ok (.aload_n 0, 1) := by decide +kernel
theorem dX5_changed_32 : decode cX5_changed 32 = .ok (.getfield 19, 3) := by decide +kernel
theorem dX5_changed_35 : decode cX5_changed 35 = .ok (.getfield 180, 3) := by decide +kernel
theorem dX5_changed_38 : decode cX5_changed 38 = .ok (.iload_n 1, 1) := by decide +kernel
theorem dX5_changed_39 : decode cX5_changed 39 = .ok (.iaload, 1) := by decide +kernel
theorem dX5_changed_40 : decode cX5_changed 40 = .ok (.iload_n 1, 1) := by decide +kernel
theorem dX5_changed_41 : decode cX5_changed 41 = .ok (.iconst 1, 1) := by decide +kernel
theorem dX5_changed_42 : decode cX5_changed 42 = .ok (.iadd, 1) := by decide +kernel
theorem dX5_changed_43 : decode cX5_changed 43 = .ok (.invokevirtual 175, 3) := by decide +kernel
theorem dX5_changed_46 : decode cX5_changed 46 = .ok (.aload_n 0, 1) := by decide +kernel
theorem dX5_changed_47 : decode cX5_changed 47 = .ok (.getfield 57, 3) := by decide +kernel
theorem dX5_changed_50 : decode cX5_changed 50 = .ok (.invokevirtual 183, 3) := by decide +kernel
theorem dX5_changed_53 : decode cX5_changed 53 = .ok (.ireturn, 1) := by decide +kernel
set_option maxRecDepth 20000 in
theorem ggX5_of_X0_has : GoodIn wsX5_of wsX0_has := goodIn_r _ [11, 12, 22, 23, 24, 25, 26, 27] (by decide +kernel) (by decide +kernel)
set_option maxRecDepth 20000 in
theorem gX5_of_X0_has : GoodIn wsX5_of (wsV RX5 168 RX0 yX0_has wsX0_has) := goodIn_app (goodIn_of _ (by decide +kernel)) ggX5_of_X0_has
theorem dX5_of_0 : decode cX5_of 0 = .ok (.aload_n 0, 1) := by decide +kernel
theorem dX5_of_1 : decode cX5_of 1 = .ok (.getfield 19, 3) := by decide +kernel
theorem dX5_of_4 : decode cX5_of 4 = .ok (.iload_n 1, 1) := by decide +kernel
theorem dX5_of_5 : decode cX5_of 5 = .ok (.invokevirtual 168, 3) := by decide +kernel
theorem dX5_of_8 : decode cX5_of 8 = .ok (.ifCond .ne 7, 3) := by decide +kernel
theorem dX5_of_11 : decode cX5_of 11 = .ok (.sipush (-1000), 3) := by decide +kernel
theorem dX5_of_14 : decode cX5_of 14 = .ok (.ireturn, 1) := by decide +kernel
theorem dX5_of_15 : decode cX5_of 15 = .ok (.iload_n 2, 1) := by decide +kernel
theorem dX5_of_16 : decode cX5_of 16 = .ok (.tableswitch 94 0 4 #[36, 46, 56, 66, 76], 36) := by decide +kernel
theorem dX5_of_52 : decode cX5_of 52 = .ok (.aload_n 0, 1) := by decide +kernel
theorem dX5_of_53 : decode cX5_of 53 = .ok (.getfield 19, 3) := by decide +kernel
theorem dX5_of_56 : decode cX5_of 56 = .ok (.getfield 186, 3) := by decide +kernel
theorem dX5_of_59 : decode cX5_of 59 = .ok (.iload_n 1, 1) := by decide +kernel
theorem dX5_of_60 : decode cX5_of 60 = .ok (.iaload, 1) := by decide +kernel
theorem dX5_of_61 : decode cX5_of 61 = .ok (.ireturn, 1) := by decide +kernel
theorem dX5_of_62 : decode cX5_of 62 = .ok (.aload_n 0, 1) := by decide +kernel
theorem dX5_of_63 : decode cX5_of 63 = .ok (.getfield 19, 3) := by decide +kernel
theorem dX5_of_66 : decode cX5_of 66 = .ok (.getfield 180, 3) := by decide +kernel
theorem dX5_of_69 : decode cX5_of 69 = .ok (.iload_n 1, 1) := by decide +kernel
theorem dX5_of_70 : decode cX5_of 70 = .ok (.iaload, 1) := by decide +kernel
theorem dX5_of_71 : decode cX5_of 71 = .ok (.ireturn, 1) := by decide +kernel
theorem dX5_of_72 : decode cX5_of 72 = .ok (.aload_n 0, 1) := by decide +kernel
theorem dX5_of_73 : decode cX5_of 73 = .ok (.getfield 19, 3) := by decide +kernel
theorem dX5_of_76 : decode cX5_of 76 = .ok (.getfield 189, 3) := by decide +kernel
theorem dX5_of_79 : decode cX5_of 79 = .ok (.iload_n 1, 1) := by decide +kernel
theorem dX5_of_80 : decode cX5_of 80 = .ok (.iaload, 1) := by decide +kernel
theorem dX5_of_81 : decode cX5_of 81 = .ok (.ireturn, 1) := by decide +kernel
theorem dX5_of_82 : decode cX5_of 82 = .ok (.aload_n 0, 1) := by decide +kernel
theorem dX5_of_83 : decode cX5_of 83 = .ok (.getfield 19, 3) := by decide +kernel
theorem dX5_of_86 : decode cX5_of 86 = .ok (.getfield 192, 3) := by decide +kernel
theorem dX5_of_89 : decode cX5_of 89 = .ok (.iload_n 1, 1) := by decide +kernel
theorem dX5_of_90 : decode cX5_of 90 = .ok (.iaload, 1) := by decide +kernel
theorem dX5_of_91 : decode cX5_of 91 = .ok (.ireturn, 1) := by decide +kernel
theorem dX5_of_92 : decode cX5_of 92 = .ok (.aload_n 0, 1) := by decide +kernel
theorem dX5_of_93 : decode cX5_of 93 = .ok (.getfield 19, 3) := by decide +kernel
theorem dX5_of_96 : decode cX5_of 96 = .ok (.getfield 171, 3) := by decide +kernel
theorem dX5_of_99 : decode cX5_of 99 = .ok (.iload_n 1, 1) := by decide +kernel
theorem dX5_of_100 : decode cX5_of 100 = .ok (.baload, 1) := by decide +kernel
theorem dX5_of_101 : decode cX5_of 101 = .ok (.ifCond .eq 7, 3) := by decide +kernel
theorem dX5_of_104 : decode cX5_of 104 = .ok (.iconst 1, 1) := by decide +kernel
theorem dX5_of_105 : decode cX5_of 105 = .ok (.goto 4, 3) := by decide +kernel
theorem dX5_of_108 : decode cX5_of 108 = .ok (.iconst 0, 1) := by decide +kernel
theorem dX5_of_109 : decode cX5_of 109 = .ok (.ireturn, 1) := by decide +kernel
theorem dX5_of_110 : decode cX5_of 110 = .ok (.sipush (-1000), 3) := by decide +kernel
theorem dX5_of_113 : decode cX5_of 113 = .ok (.ireturn, 1) := by decide +kernel
set_option maxRecDepth 20000 in
theorem ggX5_told_X1_hasFrame : GoodIn wsX5_told wsX1_hasFrame := goodIn_r _ [10, 11, 136, 137, 138, 139, 140] (by decide +kernel) (by decide +kernel)
set_option maxRecDepth 20000 in
theorem gX5_told_X1_hasFrame : GoodIn wsX5_told (wsV RX5 93 RX1 yX1_hasFrame wsX1_hasFrame) := goodIn_app (goodIn_of _ (by decide +kernel)) ggX5_told_X1_hasFrame
set_option maxRecDepth 20000 in
theorem ggX5_told_X5_isWithin : GoodIn wsX5_told wsX5_isWithin := goodIn_r _ [15] (by decide +kernel) (by decide +kernel)
set_option maxRecDepth 20000 in
theorem gX5_told_X5_isWithin : GoodIn wsX5_told (va_wsS RX5 71 yX5_isWithin wsX5_isWithin) := goodIn_app (goodIn_of _ (by decide +kernel)) ggX5_told_X5_isWithin
set_option maxRecDepth 20000 in
theorem ggX5_told_X2_make : GoodIn wsX5_told wsX2_make := goodIn_r _ [20, 21, 22, 23, 24, 25, 26, 27, 28, 29, 30, 9, 31, 32, 33, 7, 8, 10, 11, 34, 35, 36, 37, 38, 39, 40, 41, 19, 42, 43, 44, 45, 46, 47, 48, 49, 50, 51, 52, 53, 54, 55, 56, 57, 58, 59, 60, 61, 62, 63, 64, 65, 66, 67, 68, 69, 70, 71, 72, 73, 74, 75, 76, 77, 78, 79, 80, 81, 82, 83, 84, 85, 86, 87, 88, 89, 90, 91, 92, 93, 94, 95, 96, 97, 141, 142, 143, 144, 145, 146, 136, 137, 138, 139, 140, 130, 131, 132, 133, 134, 135] (by decide +kernel) (by decide +kernel)
set_option maxRecDepth 20000 in
theorem gX5_told_X2_make : GoodIn wsX5_told (wsV RX5 175 RX2 yX2_make wsX2_make) := goodIn_app (goodIn_of _ (by decide +kernel)) ggX5_told_X2_make
set_option maxRecDepth 20000 in
theorem ggX5_told_X2_countLost : GoodIn wsX5_told wsX2_countLost := goodIn_r _ [76, 21, 22, 23, 141, 142, 143, 144, 145, 146, 136, 137, 138, 139, 140] (by decide +kernel) (by decide +kernel)
set_option maxRecDepth 20000 in
theorem gX5_told_X2_countLost : GoodIn wsX5_told (wsV RX5 195 RX2 yX2_countLost wsX2_countLost) := goodIn_app (goodIn_of _ (by decide +kernel)) ggX5_told_X2_countLost
set_option maxRecDepth 20000 in
theorem ggX5_told_X2_sumOfGreys : GoodIn wsX5_told wsX2_sumOfGreys := goodIn_r _ [102, 21, 22, 23, 141, 142, 143, 144, 145, 146, 136, 137, 138, 139, 140] (by decide +kernel) (by decide +kernel)
set_option maxRecDepth 20000 in
theorem gX5_told_X2_sumOfGreys : GoodIn wsX5_told (wsV RX5 198 RX2 yX2_sumOfGreys wsX2_sumOfGreys) := goodIn_app (goodIn_of _ (by decide +kernel)) ggX5_told_X2_sumOfGreys
set_option maxRecDepth 20000 in
theorem ggX5_told_X2_leastGrey : GoodIn wsX5_told wsX2_leastGrey := goodIn_r _ [106, 21, 22, 23, 107, 108, 61, 109, 141, 142, 143, 144, 145, 146, 136, 137, 138, 139, 140] (by decide +kernel) (by decide +kernel)
set_option maxRecDepth 20000 in
theorem gX5_told_X2_leastGrey : GoodIn wsX5_told (wsV RX5 201 RX2 yX2_leastGrey wsX2_leastGrey) := goodIn_app (goodIn_of _ (by decide +kernel)) ggX5_told_X2_leastGrey
set_option maxRecDepth 20000 in
theorem ggX5_told_X2_greatestGrey : GoodIn wsX5_told wsX2_greatestGrey := goodIn_r _ [113, 21, 22, 23, 114, 115, 61, 116, 141, 142, 143, 144, 145, 146, 136, 137, 138, 139, 140] (by decide +kernel) (by decide +kernel)
set_option maxRecDepth 20000 in
theorem gX5_told_X2_greatestGrey : GoodIn wsX5_told (wsV RX5 204 RX2 yX2_greatestGrey wsX2_greatestGrey) := goodIn_app (goodIn_of _ (by decide +kernel)) ggX5_told_X2_greatestGrey
set_option maxRecDepth 20000 in
theorem ggX5_told_X2_countUnlikeRaw : GoodIn wsX5_told wsX2_countUnlikeRaw := goodIn_r _ [120, 21, 22, 23, 28, 29, 30, 9, 31, 32, 33, 7, 8, 10, 11, 34, 35, 36, 37, 38, 141, 142, 143, 144, 145, 146, 136, 137, 138, 139, 140] (by decide +kernel) (by decide +kernel)
set_option maxRecDepth 20000 in
theorem gX5_told_X2_countUnlikeRaw : GoodIn wsX5_told (wsV RX5 207 RX2 yX2_countUnlikeRaw wsX2_countUnlikeRaw) := goodIn_app (goodIn_of _ (by decide +kernel)) ggX5_told_X2_countUnlikeRaw
theorem dX5_told_0 : decode cX5_told 0 = .ok (.aload_n 0, 1) := by decide +kernel
theorem dX5_told_1 : decode cX5_told 1 = .ok (.getfield 12, 3) := by decide +kernel
theorem dX5_told_4 : decode cX5_told 4 = .ok (.iload_n 1, 1) := by decide +kernel
theorem dX5_told_5 : decode cX5_told 5 = .ok (.invokevirtual 93, 3) := by decide +kernel
theorem dX5_told_8 : decode cX5_told 8 = .ok (.ifCond .eq 12, 3) := by decide +kernel
theorem dX5_told_11 : decode cX5_told 11 = .ok (.iload_n 2, 1) := by decide +kernel
theorem dX5_told_12 : decode cX5_told 12 = .ok (.iconst 0, 1) := by decide +kernel
theorem dX5_told_13 : decode cX5_told 13 = .ok (.iconst 4, 1) := by decide +kernel
theorem dX5_told_14 : decode cX5_told 14 = .ok (.invokestatic 71, 3) := by decide +kernel
theorem dX5_told_17 : decode cX5_told 17 = .ok (.ifCond .ne 5, 3) := by decide +kernel
theorem dX5_told_20 : decode cX5_told 20 = .ok (.iconst (-1), 1) := by decide +kernel
theorem dX5_told_21 : decode cX5_told 21 = .ok (.ireturn, 1) := by decide +kernel
theorem dX5_told_22 : decode cX5_told 22 = .ok (.aload_n 0, 1) := by decide +kernel
theorem dX5_told_23 : decode cX5_told 23 = .ok (.getfield 57, 3) := by decide +kernel
theorem dX5_told_26 : decode cX5_told 26 = .ok (.iload_n 1, 1) := by decide +kernel
theorem dX5_told_27 : decode cX5_told 27 = .ok (.aload_n 0, 1) := by decide +kernel
theorem dX5_told_28 : decode cX5_told 28 = .ok (.getfield 19, 3) := by decide +kernel
theorem dX5_told_31 : decode cX5_told 31 = .ok (.getfield 79, 3) := by decide +kernel
theorem dX5_told_34 : decode cX5_told 34 = .ok (.invokevirtual 175, 3) := by decide +kernel
theorem dX5_told_37 : decode cX5_told 37 = .ok (.iload_n 2, 1) := by decide +kernel
theorem dX5_told_38 : decode cX5_told 38 = .ok (.tableswitch 106 0 3 #[30, 38, 46, 76], 30) := by decide +kernel
theorem dX5_told_68 : decode cX5_told 68 = .ok (.aload_n 0, 1) := by decide +kernel
theorem dX5_told_69 : decode cX5_told 69 = .ok (.getfield 57, 3) := by decide +kernel
theorem dX5_told_72 : decode cX5_told 72 = .ok (.invokevirtual 195, 3) := by decide +kernel
theorem dX5_told_75 : decode cX5_told 75 = .ok (.ireturn, 1) := by decide +kernel
theorem dX5_told_76 : decode cX5_told 76 = .ok (.aload_n 0, 1) := by decide +kernel
theorem dX5_told_77 : decode cX5_told 77 = .ok (.getfield 57, 3) := by decide +kernel
theorem dX5_told_80 : decode cX5_told 80 = .ok (.invokevirtual 198, 3) := by decide +kernel
theorem dX5_told_83 : decode cX5_told 83 = .ok (.ireturn, 1) := by decide +kernel
theorem dX5_told_84 : decode cX5_told 84 = .ok (.aload_n 0, 1) := by decide +kernel
theorem dX5_told_85 : decode cX5_told 85 = .ok (.getfield 57, 3) := by decide +kernel
theorem dX5_told_88 : decode cX5_told 88 = .ok (.invokevirtual 195, 3) := by decide +kernel
theorem dX5_told_91 : decode cX5_told 91 = .ok (.aload_n 0, 1) := by decide +kernel
theorem dX5_told_92 : decode cX5_told 92 = .ok (.getfield 12, 3) := by decide +kernel
theorem dX5_told_95 : decode cX5_told 95 = .ok (.getfield 83, 3) := by decide +kernel
theorem dX5_told_98 : decode cX5_told 98 = .ok (.if_icmp .ne 8, 3) := by decide +kernel
theorem dX5_told_101 : decode cX5_told 101 = .ok (.bipush (-3), 2) := by decide +kernel
theorem dX5_told_103 : decode cX5_told 103 = .ok (.goto 10, 3) := by decide +kernel
theorem dX5_told_106 : decode cX5_told 106 = .ok (.aload_n 0, 1) := by decide +kernel
theorem dX5_told_107 : decode cX5_told 107 = .ok (.getfield 57, 3) := by decide +kernel
theorem dX5_told_110 : decode cX5_told 110 = .ok (.invokevirtual 201, 3) := by decide +kernel
theorem dX5_told_113 : decode cX5_told 113 = .ok (.ireturn, 1) := by decide +kernel
theorem dX5_told_114 : decode cX5_told 114 = .ok (.aload_n 0, 1) := by decide +kernel
theorem dX5_told_115 : decode cX5_told 115 = .ok (.getfield 57, 3) := by decide +kernel
theorem dX5_told_118 : decode cX5_told 118 = .ok (.invokevirtual 195, 3) := by decide +kernel
theorem dX5_told_121 : decode cX5_told 121 = .ok (.aload_n 0, 1) := by decide +kernel
theorem dX5_told_122 : decode cX5_told 122 = .ok (.getfield 12, 3) := by decide +kernel
theorem dX5_told_125 : decode cX5_told 125 = .ok (.getfield 83, 3) := by decide +kernel
theorem dX5_told_128 : decode cX5_told 128 = .ok (.if_icmp .ne 8, 3) := by decide +kernel
theorem dX5_told_131 : decode cX5_told 131 = .ok (.bipush (-3), 2) := by decide +kernel
theorem dX5_told_133 : decode cX5_told 133 = .ok (.goto 10, 3) := by decide +kernel
theorem dX5_told_136 : decode cX5_told 136 = .ok (.aload_n 0, 1) := by decide +kernel
theorem dX5_told_137 : decode cX5_told 137 = .ok (.getfield 57, 3) := by decide +kernel
theorem dX5_told_140 : decode cX5_told 140 = .ok (.invokevirtual 204, 3) := by decide +kernel
theorem dX5_told_143 : decode cX5_told 143 = .ok (.ireturn, 1) := by decide +kernel
theorem dX5_told_144 : decode cX5_told 144 = .ok (.aload_n 0, 1) := by decide +kernel
theorem dX5_told_145 : decode cX5_told 145 = .ok (.getfield 57, 3) := by decide +kernel
theorem dX5_told_148 : decode cX5_told 148 = .ok (.iload_n 1, 1) := by decide +kernel
theorem dX5_told_149 : decode cX5_told 149 = .ok (.invokevirtual 207, 3) := by decide +kernel
theorem dX5_told_152 : decode cX5_told 152 = .ok (.ireturn, 1) := by decide +kernel
set_option maxRecDepth 20000 in
theorem ggX5_many_X0_countOn : GoodIn wsX5_many wsX0_countOn := goodIn_r _ [12, 13, 14, 49, 50, 51, 52, 53, 54] (by decide +kernel) (by decide +kernel)
set_option maxRecDepth 20000 in
theorem gX5_many_X0_countOn : GoodIn wsX5_many (wsV RX5 213 RX0 yX0_countOn wsX0_countOn) := goodIn_app (goodIn_of _ (by decide +kernel)) ggX5_many_X0_countOn
set_option maxRecDepth 20000 in
theorem ggX5_many_X1_countLost : GoodIn wsX5_many wsX1_countLost := goodIn_r _ [19, 20, 21, 22, 23, 24, 18, 25, 26, 27, 28, 29, 30, 31, 32, 33, 34, 44, 45, 46, 47, 48] (by decide +kernel) (by decide +kernel)
set_option maxRecDepth 20000 in
theorem gX5_many_X1_countLost : GoodIn wsX5_many (wsV RX5 216 RX1 yX1_countLost wsX1_countLost) := goodIn_app (goodIn_of _ (by decide +kernel)) ggX5_many_X1_countLost
theorem dX5_many_0 : decode cX5_many 0 = .ok (.iload_n 1, 1) := by decide +kernel
theorem dX5_many_1 : decode cX5_many 1 = .ok (.tableswitch 120 0 8 #[51, 59, 67, 75, 83, 91, 99, 106, 113], 51) := by decide +kernel
theorem dX5_many_52 : decode cX5_many 52 = .ok (.aload_n 0, 1) := by decide +kernel
theorem dX5_many_53 : decode cX5_many 53 = .ok (.getfield 12, 3) := by decide +kernel
theorem dX5_many_56 : decode cX5_many 56 = .ok (.getfield 210, 3) := by decide +kernel
theorem dX5_many_59 : decode cX5_many 59 = .ok (.ireturn, 1) := by decide +kernel
theorem dX5_many_60 : decode cX5_many 60 = .ok (.aload_n 0, 1) := by decide +kernel
theorem dX5_many_61 : decode cX5_many 61 = .ok (.getfield 12, 3) := by decide +kernel
theorem dX5_many_64 : decode cX5_many 64 = .ok (.getfield 116, 3) := by decide +kernel
theorem dX5_many_67 : decode cX5_many 67 = .ok (.ireturn, 1) := by decide +kernel
theorem dX5_many_68 : decode cX5_many 68 = .ok (.aload_n 0, 1) := by decide +kernel
theorem dX5_many_69 : decode cX5_many 69 = .ok (.getfield 12, 3) := by decide +kernel
theorem dX5_many_72 : decode cX5_many 72 = .ok (.getfield 86, 3) := by decide +kernel
theorem dX5_many_75 : decode cX5_many 75 = .ok (.ireturn, 1) := by decide +kernel
theorem dX5_many_76 : decode cX5_many 76 = .ok (.aload_n 0, 1) := by decide +kernel
theorem dX5_many_77 : decode cX5_many 77 = .ok (.getfield 19, 3) := by decide +kernel
theorem dX5_many_80 : decode cX5_many 80 = .ok (.getfield 79, 3) := by decide +kernel
theorem dX5_many_83 : decode cX5_many 83 = .ok (.ireturn, 1) := by decide +kernel
theorem dX5_many_84 : decode cX5_many 84 = .ok (.aload_n 0, 1) := by decide +kernel
theorem dX5_many_85 : decode cX5_many 85 = .ok (.getfield 19, 3) := by decide +kernel
theorem dX5_many_88 : decode cX5_many 88 = .ok (.invokevirtual 213, 3) := by decide +kernel
theorem dX5_many_91 : decode cX5_many 91 = .ok (.ireturn, 1) := by decide +kernel
theorem dX5_many_92 : decode cX5_many 92 = .ok (.aload_n 0, 1) := by decide +kernel
theorem dX5_many_93 : decode cX5_many 93 = .ok (.getfield 12, 3) := by decide +kernel
theorem dX5_many_96 : decode cX5_many 96 = .ok (.invokevirtual 216, 3) := by decide +kernel
theorem dX5_many_99 : decode cX5_many 99 = .ok (.ireturn, 1) := by decide +kernel
theorem dX5_many_100 : decode cX5_many 100 = .ok (.aload_n 0, 1) := by decide +kernel
theorem dX5_many_101 : decode cX5_many 101 = .ok (.getfield 23, 3) := by decide +kernel
theorem dX5_many_104 : decode cX5_many 104 = .ok (.iconst 0, 1) := by decide +kernel
theorem dX5_many_105 : decode cX5_many 105 = .ok (.iaload, 1) := by decide +kernel
theorem dX5_many_106 : decode cX5_many 106 = .ok (.ireturn, 1) := by decide +kernel
theorem dX5_many_107 : decode cX5_many 107 = .ok (.aload_n 0, 1) := by decide +kernel
theorem dX5_many_108 : decode cX5_many 108 = .ok (.getfield 23, 3) := by decide +kernel
theorem dX5_many_111 : decode cX5_many 111 = .ok (.iconst 1, 1) := by decide +kernel
theorem dX5_many_112 : decode cX5_many 112 = .ok (.iaload, 1) := by decide +kernel
theorem dX5_many_113 : decode cX5_many 113 = .ok (.ireturn, 1) := by decide +kernel
theorem dX5_many_114 : decode cX5_many 114 = .ok (.aload_n 0, 1) := by decide +kernel
theorem dX5_many_115 : decode cX5_many 115 = .ok (.getfield 23, 3) := by decide +kernel
theorem dX5_many_118 : decode cX5_many 118 = .ok (.iconst 2, 1) := by decide +kernel
theorem dX5_many_119 : decode cX5_many 119 = .ok (.iaload, 1) := by decide +kernel
theorem dX5_many_120 : decode cX5_many 120 = .ok (.ireturn, 1) := by decide +kernel
theorem dX5_many_121 : decode cX5_many 121 = .ok (.iconst (-1), 1) := by decide +kernel
theorem dX5_many_122 : decode cX5_many 122 = .ok (.ireturn, 1) := by decide +kernel
set_option maxRecDepth 20000 in
theorem ggX5_keep_X1_copyFrom : GoodIn wsX5_keep wsX1_copyFrom := goodIn_r _ [10, 11, 12, 13, 14, 15, 16, 17, 18, 19, 40, 41, 42, 43, 44] (by decide +kernel) (by decide +kernel)
set_option maxRecDepth 20000 in
theorem gX5_keep_X1_copyFrom : GoodIn wsX5_keep (wsV RX5 217 RX1 yX1_copyFrom wsX1_copyFrom) := goodIn_app (goodIn_of _ (by decide +kernel)) ggX5_keep_X1_copyFrom
set_option maxRecDepth 20000 in
theorem ggX5_keep_X0_copyFrom : GoodIn wsX5_keep wsX0_copyFrom := goodIn_r _ [24, 25, 26, 27, 28, 29, 30, 45, 46, 47, 48, 49, 50] (by decide +kernel) (by decide +kernel)
set_option maxRecDepth 20000 in
theorem gX5_keep_X0_copyFrom : GoodIn wsX5_keep (wsV RX5 220 RX0 yX0_copyFrom wsX0_copyFrom) := goodIn_app (goodIn_of _ (by decide +kernel)) ggX5_keep_X0_copyFrom
theorem dX5_keep_0 : decode cX5_keep 0 = .ok (.aload_n 0, 1) := by decide +kernel
theorem dX5_keep_1 : decode cX5_keep 1 = .ok (.getfield 61, 3) := by decide +kernel
theorem dX5_keep_4 : decode cX5_keep 4 = .ok (.aload_n 0, 1) := by decide +kernel
theorem dX5_keep_5 : decode cX5_keep 5 = .ok (.getfield 12, 3) := by decide +kernel
theorem dX5_keep_8 : decode cX5_keep 8 = .ok (.invokevirtual 217, 3) := by decide +kernel
theorem dX5_keep_11 : decode cX5_keep 11 = .ok (.aload_n 0, 1) := by decide +kernel
theorem dX5_keep_12 : decode cX5_keep 12 = .ok (.getfield 64, 3) := by decide +kernel
theorem dX5_keep_15 : decode cX5_keep 15 = .ok (.aload_n 0, 1) := by decide +kernel
theorem dX5_keep_16 : decode cX5_keep 16 = .ok (.getfield 19, 3) := by decide +kernel
theorem dX5_keep_19 : decode cX5_keep 19 = .ok (.invokevirtual 220, 3) := by decide +kernel
theorem dX5_keep_22 : decode cX5_keep 22 = .ok (.aload_n 0, 1) := by decide +kernel
theorem dX5_keep_23 : decode cX5_keep 23 = .ok (.iconst 1, 1) := by decide +kernel
theorem dX5_keep_24 : decode cX5_keep 24 = .ok (.putfield 67, 3) := by decide +kernel
theorem dX5_keep_27 : decode cX5_keep 27 = .ok (.iconst 1, 1) := by decide +kernel
theorem dX5_keep_28 : decode cX5_keep 28 = .ok (.ireturn, 1) := by decide +kernel
set_option maxRecDepth 20000 in
theorem ggX5_back_X1_copyFrom : GoodIn wsX5_back wsX1_copyFrom := goodIn_r _ [10, 11, 12, 13, 14, 15, 16, 17, 18, 19, 40, 41, 42, 43, 44] (by decide +kernel) (by decide +kernel)
set_option maxRecDepth 20000 in
theorem gX5_back_X1_copyFrom : GoodIn wsX5_back (wsV RX5 217 RX1 yX1_copyFrom wsX1_copyFrom) := goodIn_app (goodIn_of _ (by decide +kernel)) ggX5_back_X1_copyFrom
set_option maxRecDepth 20000 in
theorem ggX5_back_X0_copyFrom : GoodIn wsX5_back wsX0_copyFrom := goodIn_r _ [24, 25, 26, 27, 28, 29, 30, 45, 46, 47, 48, 49, 50] (by decide +kernel) (by decide +kernel)
set_option maxRecDepth 20000 in
theorem gX5_back_X0_copyFrom : GoodIn wsX5_back (wsV RX5 220 RX0 yX0_copyFrom wsX0_copyFrom) := goodIn_app (goodIn_of _ (by decide +kernel)) ggX5_back_X0_copyFrom
theorem dX5_back_0 : decode cX5_back 0 = .ok (.aload_n 0, 1) := by decide +kernel
theorem dX5_back_1 : decode cX5_back 1 = .ok (.getfield 67, 3) := by decide +kernel
theorem dX5_back_4 : decode cX5_back 4 = .ok (.ifCond .ne 6, 3) := by decide +kernel
theorem dX5_back_7 : decode cX5_back 7 = .ok (.bipush (-3), 2) := by decide +kernel
theorem dX5_back_9 : decode cX5_back 9 = .ok (.ireturn, 1) := by decide +kernel
theorem dX5_back_10 : decode cX5_back 10 = .ok (.aload_n 0, 1) := by decide +kernel
theorem dX5_back_11 : decode cX5_back 11 = .ok (.getfield 12, 3) := by decide +kernel
theorem dX5_back_14 : decode cX5_back 14 = .ok (.aload_n 0, 1) := by decide +kernel
theorem dX5_back_15 : decode cX5_back 15 = .ok (.getfield 61, 3) := by decide +kernel
theorem dX5_back_18 : decode cX5_back 18 = .ok (.invokevirtual 217, 3) := by decide +kernel
theorem dX5_back_21 : decode cX5_back 21 = .ok (.aload_n 0, 1) := by decide +kernel
theorem dX5_back_22 : decode cX5_back 22 = .ok (.getfield 19, 3) := by decide +kernel
theorem dX5_back_25 : decode cX5_back 25 = .ok (.aload_n 0, 1) := by decide +kernel
theorem dX5_back_26 : decode cX5_back 26 = .ok (.getfield 64, 3) := by decide +kernel
theorem dX5_back_29 : decode cX5_back 29 = .ok (.invokevirtual 220, 3) := by decide +kernel
theorem dX5_back_32 : decode cX5_back 32 = .ok (.iconst 1, 1) := by decide +kernel
theorem dX5_back_33 : decode cX5_back 33 = .ok (.ireturn, 1) := by decide +kernel
set_option maxRecDepth 20000 in
theorem ggX5_findPath_X3_find : GoodIn wsX5_findPath wsX3_find := goodIn_r _ [10, 11, 12, 13, 14, 15, 16, 17, 18, 19, 9, 20, 21, 22, 23, 24, 25, 26, 27, 28, 29, 30, 31, 32, 33, 34, 35, 36, 37, 38, 39, 40, 41, 42, 43, 44, 45, 46, 47, 48, 49, 50, 51, 52, 53, 54, 55, 56, 57, 58, 59, 60, 61, 62, 63, 64, 135, 136, 137, 138, 139, 140, 141, 130, 131, 132, 133, 134] (by decide +kernel) (by decide +kernel)
set_option maxRecDepth 20000 in
theorem gX5_findPath_X3_find : GoodIn wsX5_findPath (wsV RX5 141 RX3 yX3_find wsX3_find) := goodIn_app (goodIn_of _ (by decide +kernel)) ggX5_findPath_X3_find
set_option maxRecDepth 20000 in
theorem ggX5_findPath_X3_along : GoodIn wsX5_findPath wsX3_along := goodIn_r _ [68, 11, 12, 135, 136, 137, 138, 139, 140, 141] (by decide +kernel) (by decide +kernel)
set_option maxRecDepth 20000 in
theorem gX5_findPath_X3_along : GoodIn wsX5_findPath (wsV RX5 145 RX3 yX3_along wsX3_along) := goodIn_app (goodIn_of _ (by decide +kernel)) ggX5_findPath_X3_along
set_option maxRecDepth 20000 in
theorem ggX5_findPath_X4_setDrift : GoodIn wsX5_findPath wsX4_setDrift := goodIn_r _ [73, 74, 142, 143, 144, 145, 146, 147] (by decide +kernel) (by decide +kernel)
set_option maxRecDepth 20000 in
theorem gX5_findPath_X4_setDrift : GoodIn wsX5_findPath (wsV RX5 223 RX4 yX4_setDrift wsX4_setDrift) := goodIn_app (goodIn_of _ (by decide +kernel)) ggX5_findPath_X4_setDrift
set_option maxRecDepth 20000 in
theorem ggX5_findPath_X4_solve : GoodIn wsX5_findPath wsX4_solve := goodIn_r _ [78, 79, 80, 81, 74, 82, 83, 84, 85, 86, 87, 88, 89, 72, 90, 91, 92, 93, 94, 95, 96, 97, 98, 99, 24, 25, 26, 100, 101, 102, 103, 104, 32, 33, 105, 106, 107, 108, 109, 110, 111, 112, 113, 114, 115, 116, 117, 118, 119, 120, 142, 143, 144, 145, 146, 147] (by decide +kernel) (by decide +kernel)
set_option maxRecDepth 20000 in
theorem gX5_findPath_X4_solve : GoodIn wsX5_findPath (wsV RX5 226 RX4 yX4_solve wsX4_solve) := goodIn_app (goodIn_of _ (by decide +kernel)) ggX5_findPath_X4_solve
theorem dX5_findPath_0 : decode cX5_findPath 0 = .ok (.iconst 0, 1) := by decide +kernel
theorem dX5_findPath_1 : decode cX5_findPath 1 = .ok (.istore_n 2, 1) := by decide +kernel
theorem dX5_findPath_2 : decode cX5_findPath 2 = .ok (.iconst 0, 1) := by decide +kernel
theorem dX5_findPath_3 : decode cX5_findPath 3 = .ok (.istore_n 3, 1) := by decide +kernel
theorem dX5_findPath_4 : decode cX5_findPath 4 = .ok (.iload_n 3, 1) := by decide +kernel
theorem dX5_findPath_5 : decode cX5_findPath 5 = .ok (.aload_n 0, 1) := by decide +kernel
theorem dX5_findPath_6 : decode cX5_findPath 6 = .ok (.getfield 12, 3) := by decide +kernel
theorem dX5_findPath_9 : decode cX5_findPath 9 = .ok (.getfield 86, 3) := by decide +kernel
theorem dX5_findPath_12 : decode cX5_findPath 12 = .ok (.if_icmp .ge 41, 3) := by decide +kernel
theorem dX5_findPath_15 : decode cX5_findPath 15 = .ok (.iload_n 3, 1) := by decide +kernel
theorem dX5_findPath_16 : decode cX5_findPath 16 = .ok (.ifCond .le 22, 3) := by decide +kernel
theorem dX5_findPath_19 : decode cX5_findPath 19 = .ok (.aload_n 0, 1) := by decide +kernel
theorem dX5_findPath_20 : decode cX5_findPath 20 = .ok (.getfield 41, 3) := by decide +kernel
theorem dX5_findPath_23 : decode cX5_findPath 23 = .ok (.iload_n 3, 1) := by decide +kernel
theorem dX5_findPath_24 : decode cX5_findPath 24 = .ok (.invokevirtual 141, 3) := by decide +kernel
theorem dX5_findPath_27 : decode cX5_findPath 27 = .ok (.iload_n 2, 1) := by decide +kernel
theorem dX5_findPath_28 : decode cX5_findPath 28 = .ok (.aload_n 0, 1) := by decide +kernel
theorem dX5_findPath_29 : decode cX5_findPath 29 = .ok (.getfield 41, 3) := by decide +kernel
theorem dX5_findPath_32 : decode cX5_findPath 32 = .ok (.iload_n 1, 1) := by decide +kernel
theorem dX5_findPath_33 : decode cX5_findPath 33 = .ok (.invokevirtual 145, 3) := by decide +kernel
theorem dX5_findPath_36 : decode cX5_findPath 36 = .ok (.iadd, 1) := by decide +kernel
theorem dX5_findPath_37 : decode cX5_findPath 37 = .ok (.istore_n 2, 1) := by decide +kernel
theorem dX5_findPath_38 : decode cX5_findPath 38 = .ok (.aload_n 0, 1) := by decide +kernel
theorem dX5_findPath_39 : decode cX5_findPath 39 = .ok (.getfield 48, 3) := by decide +kernel
theorem dX5_findPath_42 : decode cX5_findPath 42 = .ok (.iload_n 3, 1) := by decide +kernel
theorem dX5_findPath_43 : decode cX5_findPath 43 = .ok (.iload_n 2, 1) := by decide +kernel
theorem dX5_findPath_44 : decode cX5_findPath 44 = .ok (.invokevirtual 223, 3) := by decide +kernel
theorem dX5_findPath_47 : decode cX5_findPath 47 = .ok (.iinc 3 1, 3) := by decide +kernel
theorem dX5_findPath_50 : decode cX5_findPath 50 = .ok (.goto (-46), 3) := by decide +kernel
theorem dX5_findPath_53 : decode cX5_findPath 53 = .ok (.aload_n 0, 1) := by decide +kernel
theorem dX5_findPath_54 : decode cX5_findPath 54 = .ok (.getfield 48, 3) := by decide +kernel
theorem dX5_findPath_57 : decode cX5_findPath 57 = .ok (.aload_n 0, 1) := by decide +kernel
theorem dX5_findPath_58 : decode cX5_findPath 58 = .ok (.getfield 12, 3) := by decide +kernel
theorem dX5_findPath_61 : decode cX5_findPath 61 = .ok (.getfield 86, 3) := by decide +kernel
theorem dX5_findPath_64 : decode cX5_findPath 64 = .ok (.aload_n 0, 1) := by decide +kernel
theorem dX5_findPath_65 : decode cX5_findPath 65 = .ok (.getfield 23, 3) := by decide +kernel
theorem dX5_findPath_68 : decode cX5_findPath 68 = .ok (.iconst 0, 1) := by decide +kernel
theorem dX5_findPath_69 : decode cX5_findPath 69 = .ok (.iaload, 1) := by decide +kernel
theorem dX5_findPath_70 : decode cX5_findPath 70 = .ok (.invokevirtual 226, 3) := by decide +kernel
theorem dX5_findPath_73 : decode cX5_findPath 73 = .ok (.return_, 1) := by decide +kernel
theorem dX5_isWithin_0 : decode cX5_isWithin 0 = .ok (.iload_n 0, 1) := by decide +kernel
theorem dX5_isWithin_1 : decode cX5_isWithin 1 = .ok (.iload_n 1, 1) := by decide +kernel
theorem dX5_isWithin_2 : decode cX5_isWithin 2 = .ok (.if_icmp .lt 12, 3) := by decide +kernel
theorem dX5_isWithin_5 : decode cX5_isWithin 5 = .ok (.iload_n 0, 1) := by decide +kernel
theorem dX5_isWithin_6 : decode cX5_isWithin 6 = .ok (.iload_n 2, 1) := by decide +kernel
theorem dX5_isWithin_7 : decode cX5_isWithin 7 = .ok (.if_icmp .gt 7, 3) := by decide +kernel
theorem dX5_isWithin_10 : decode cX5_isWithin 10 = .ok (.iconst 1, 1) := by decide +kernel
theorem dX5_isWithin_11 : decode cX5_isWithin 11 = .ok (.goto 4, 3) := by decide +kernel
theorem dX5_isWithin_14 : decode cX5_isWithin 14 = .ok (.iconst 0, 1) := by decide +kernel
theorem dX5_isWithin_15 : decode cX5_isWithin 15 = .ok (.ireturn, 1) := by decide +kernel
theorem dX5_commonDivisor_0 : decode cX5_commonDivisor 0 = .ok (.iload_n 0, 1) := by decide +kernel
theorem dX5_commonDivisor_1 : decode cX5_commonDivisor 1 = .ok (.istore_n 2, 1) := by decide +kernel
theorem dX5_commonDivisor_2 : decode cX5_commonDivisor 2 = .ok (.iload_n 1, 1) := by decide +kernel
theorem dX5_commonDivisor_3 : decode cX5_commonDivisor 3 = .ok (.istore_n 3, 1) := by decide +kernel
theorem dX5_commonDivisor_4 : decode cX5_commonDivisor 4 = .ok (.iconst 0, 1) := by decide +kernel
theorem dX5_commonDivisor_5 : decode cX5_commonDivisor 5 = .ok (.istore 4, 2) := by decide +kernel
theorem dX5_commonDivisor_7 : decode cX5_commonDivisor 7 = .ok (.iload 4, 2) := by decide +kernel
theorem dX5_commonDivisor_9 : decode cX5_commonDivisor 9 = .ok (.bipush 100, 2) := by decide +kernel
theorem dX5_commonDivisor_11 : decode cX5_commonDivisor 11 = .ok (.if_icmp .ge 23, 3) := by decide +kernel
theorem dX5_commonDivisor_14 : decode cX5_commonDivisor 14 = .ok (.iload_n 3, 1) := by decide +kernel
theorem dX5_commonDivisor_15 : decode cX5_commonDivisor 15 = .ok (.ifCond .eq 19, 3) := by decide +kernel
theorem dX5_commonDivisor_18 : decode cX5_commonDivisor 18 = .ok (.iload_n 2, 1) := by decide +kernel
theorem dX5_commonDivisor_19 : decode cX5_commonDivisor 19 = .ok (.iload_n 3, 1) := by decide +kernel
theorem dX5_commonDivisor_20 : decode cX5_commonDivisor 20 = .ok (.irem, 1) := by decide +kernel
theorem dX5_commonDivisor_21 : decode cX5_commonDivisor 21 = .ok (.istore 5, 2) := by decide +kernel
theorem dX5_commonDivisor_23 : decode cX5_commonDivisor 23 = .ok (.iload_n 3, 1) := by decide +kernel
theorem dX5_commonDivisor_24 : decode cX5_commonDivisor 24 = .ok (.istore_n 2, 1) := by decide +kernel
theorem dX5_commonDivisor_25 : decode cX5_commonDivisor 25 = .ok (.iload 5, 2) := by decide +kernel
theorem dX5_commonDivisor_27 : decode cX5_commonDivisor 27 = .ok (.istore_n 3, 1) := by decide +kernel
theorem dX5_commonDivisor_28 : decode cX5_commonDivisor 28 = .ok (.iinc 4 1, 3) := by decide +kernel
theorem dX5_commonDivisor_31 : decode cX5_commonDivisor 31 = .ok (.goto (-24), 3) := by decide +kernel
theorem dX5_commonDivisor_34 : decode cX5_commonDivisor 34 = .ok (.iload_n 2, 1) := by decide +kernel
theorem dX5_commonDivisor_35 : decode cX5_commonDivisor 35 = .ok (.ireturn, 1) := by decide +kernel

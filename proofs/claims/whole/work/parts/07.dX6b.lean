theorem dX6_path_0 : decode cX6_path 0 = .ok (.aload_n 0, 1) := by decide +kernel
theorem dX6_path_1 : decode cX6_path 1 = .ok (.iload_n 1, 1) := by decide +kernel
theorem dX6_path_2 : decode cX6_path 2 = .ok (.invokevirtual 82, 3) := by decide +kernel
theorem dX6_path_5 : decode cX6_path 5 = .ok (.ifCond .eq 12, 3) := by decide +kernel
theorem dX6_path_8 : decode cX6_path 8 = .ok (.iload_n 2, 1) := by decide +kernel
theorem dX6_path_9 : decode cX6_path 9 = .ok (.iconst 0, 1) := by decide +kernel
theorem dX6_path_10 : decode cX6_path 10 = .ok (.iconst 1, 1) := by decide +kernel
theorem dX6_path_11 : decode cX6_path 11 = .ok (.invokestatic 75, 3) := by decide +kernel
theorem dX6_path_14 : decode cX6_path 14 = .ok (.ifCond .ne 7, 3) := by decide +kernel
theorem dX6_path_17 : decode cX6_path 17 = .ok (.sipush (-1000), 3) := by decide +kernel
theorem dX6_path_20 : decode cX6_path 20 = .ok (.ireturn, 1) := by decide +kernel
theorem dX6_path_21 : decode cX6_path 21 = .ok (.aload_n 0, 1) := by decide +kernel
theorem dX6_path_22 : decode cX6_path 22 = .ok (.iload_n 2, 1) := by decide +kernel
theorem dX6_path_23 : decode cX6_path 23 = .ok (.invokevirtual 145, 3) := by decide +kernel
theorem dX6_path_26 : decode cX6_path 26 = .ok (.aload_n 0, 1) := by decide +kernel
theorem dX6_path_27 : decode cX6_path 27 = .ok (.getfield 60, 3) := by decide +kernel
theorem dX6_path_30 : decode cX6_path 30 = .ok (.iload_n 1, 1) := by decide +kernel
theorem dX6_path_31 : decode cX6_path 31 = .ok (.iaload, 1) := by decide +kernel
theorem dX6_path_32 : decode cX6_path 32 = .ok (.ireturn, 1) := by decide +kernel
set_option maxRecDepth 20000 in
theorem ggX6_bends_X6_in : GoodIn wsX6_bends wsX6_in := goodIn_r _ [6] (by decide +kernel) (by decide +kernel)
set_option maxRecDepth 20000 in
theorem gX6_bends_X6_in : GoodIn wsX6_bends (va_wsS RX6 75 yX6_in wsX6_in) := goodIn_app (goodIn_of _ (by decide +kernel)) ggX6_bends_X6_in
set_option maxRecDepth 20000 in
theorem ggX6_bends_X6_findPath : GoodIn wsX6_bends wsX6_findPath := goodIn_r _ [10, 11, 1, 2, 12, 13, 14, 15, 16, 17, 18, 5, 19, 20, 21, 22, 23, 24, 25, 26, 27, 28, 29, 30, 31, 32, 33, 34, 35, 36, 37, 38, 3, 4, 6, 39, 40, 41, 42, 43, 44, 45, 46, 47, 48, 49, 50, 51, 52, 53, 54, 55, 56, 57, 58, 59, 60, 61, 62, 63, 64, 65, 66, 67, 68, 69, 70, 71, 72, 73, 74, 75, 76, 77, 78, 79, 80, 81, 82, 83, 84, 85, 86, 87, 88, 89, 90, 91, 92, 93, 94] (by decide +kernel) (by decide +kernel)
set_option maxRecDepth 20000 in
theorem gX6_bends_X6_findPath : GoodIn wsX6_bends (wsV RX6 145 RX6 yX6_findPath wsX6_findPath) := goodIn_app (goodIn_of _ (by decide +kernel)) ggX6_bends_X6_findPath
theorem dX6_bends_0 : decode cX6_bends 0 = .ok (.iload_n 1, 1) := by decide +kernel
theorem dX6_bends_1 : decode cX6_bends 1 = .ok (.iconst 0, 1) := by decide +kernel
theorem dX6_bends_2 : decode cX6_bends 2 = .ok (.iconst 1, 1) := by decide +kernel
theorem dX6_bends_3 : decode cX6_bends 3 = .ok (.invokestatic 75, 3) := by decide +kernel
theorem dX6_bends_6 : decode cX6_bends 6 = .ok (.ifCond .eq 12, 3) := by decide +kernel
theorem dX6_bends_9 : decode cX6_bends 9 = .ok (.iload_n 2, 1) := by decide +kernel
theorem dX6_bends_10 : decode cX6_bends 10 = .ok (.iconst 0, 1) := by decide +kernel
theorem dX6_bends_11 : decode cX6_bends 11 = .ok (.iconst 1, 1) := by decide +kernel
theorem dX6_bends_12 : decode cX6_bends 12 = .ok (.invokestatic 75, 3) := by decide +kernel
theorem dX6_bends_15 : decode cX6_bends 15 = .ok (.ifCond .ne 5, 3) := by decide +kernel
theorem dX6_bends_18 : decode cX6_bends 18 = .ok (.iconst (-1), 1) := by decide +kernel
theorem dX6_bends_19 : decode cX6_bends 19 = .ok (.ireturn, 1) := by decide +kernel
theorem dX6_bends_20 : decode cX6_bends 20 = .ok (.aload_n 0, 1) := by decide +kernel
theorem dX6_bends_21 : decode cX6_bends 21 = .ok (.iload_n 1, 1) := by decide +kernel
theorem dX6_bends_22 : decode cX6_bends 22 = .ok (.invokevirtual 145, 3) := by decide +kernel
theorem dX6_bends_25 : decode cX6_bends 25 = .ok (.iload_n 2, 1) := by decide +kernel
theorem dX6_bends_26 : decode cX6_bends 26 = .ok (.ifCond .ne 10, 3) := by decide +kernel
theorem dX6_bends_29 : decode cX6_bends 29 = .ok (.aload_n 0, 1) := by decide +kernel
theorem dX6_bends_30 : decode cX6_bends 30 = .ok (.getfield 136, 3) := by decide +kernel
theorem dX6_bends_33 : decode cX6_bends 33 = .ok (.goto 7, 3) := by decide +kernel
theorem dX6_bends_36 : decode cX6_bends 36 = .ok (.aload_n 0, 1) := by decide +kernel
theorem dX6_bends_37 : decode cX6_bends 37 = .ok (.getfield 139, 3) := by decide +kernel
theorem dX6_bends_40 : decode cX6_bends 40 = .ok (.ireturn, 1) := by decide +kernel
set_option maxRecDepth 20000 in
theorem ggX6_cleaned_X6_size : GoodIn wsX6_cleaned wsX6_size := goodIn_r _ [7] (by decide +kernel) (by decide +kernel)
set_option maxRecDepth 20000 in
theorem gX6_cleaned_X6_size : GoodIn wsX6_cleaned (va_wsS RX6 115 yX6_size wsX6_size) := goodIn_app (goodIn_of _ (by decide +kernel)) ggX6_cleaned_X6_size
theorem dX6_cleaned_0 : decode cX6_cleaned 0 = .ok (.iload_n 3, 1) := by decide +kernel
theorem dX6_cleaned_1 : decode cX6_cleaned 1 = .ok (.iconst (-1), 1) := by decide +kernel
theorem dX6_cleaned_2 : decode cX6_cleaned 2 = .ok (.if_icmp .eq 17, 3) := by decide +kernel
theorem dX6_cleaned_5 : decode cX6_cleaned 5 = .ok (.iload_n 1, 1) := by decide +kernel
theorem dX6_cleaned_6 : decode cX6_cleaned 6 = .ok (.ifCond .eq 13, 3) := by decide +kernel
theorem dX6_cleaned_9 : decode cX6_cleaned 9 = .ok (.iload_n 1, 1) := by decide +kernel
theorem dX6_cleaned_10 : decode cX6_cleaned 10 = .ok (.aload_n 0, 1) := by decide +kernel
theorem dX6_cleaned_11 : decode cX6_cleaned 11 = .ok (.getfield 72, 3) := by decide +kernel
theorem dX6_cleaned_14 : decode cX6_cleaned 14 = .ok (.iconst 1, 1) := by decide +kernel
theorem dX6_cleaned_15 : decode cX6_cleaned 15 = .ok (.isub, 1) := by decide +kernel
theorem dX6_cleaned_16 : decode cX6_cleaned 16 = .ok (.if_icmp .ne 5, 3) := by decide +kernel
theorem dX6_cleaned_19 : decode cX6_cleaned 19 = .ok (.iconst (-1), 1) := by decide +kernel
theorem dX6_cleaned_20 : decode cX6_cleaned 20 = .ok (.ireturn, 1) := by decide +kernel
theorem dX6_cleaned_21 : decode cX6_cleaned 21 = .ok (.aload_n 0, 1) := by decide +kernel
theorem dX6_cleaned_22 : decode cX6_cleaned 22 = .ok (.getfield 16, 3) := by decide +kernel
theorem dX6_cleaned_25 : decode cX6_cleaned 25 = .ok (.bipush 36, 2) := by decide +kernel
theorem dX6_cleaned_27 : decode cX6_cleaned 27 = .ok (.iload_n 1, 1) := by decide +kernel
theorem dX6_cleaned_28 : decode cX6_cleaned 28 = .ok (.iconst 1, 1) := by decide +kernel
theorem dX6_cleaned_29 : decode cX6_cleaned 29 = .ok (.isub, 1) := by decide +kernel
theorem dX6_cleaned_30 : decode cX6_cleaned 30 = .ok (.imul, 1) := by decide +kernel
theorem dX6_cleaned_31 : decode cX6_cleaned 31 = .ok (.iload_n 2, 1) := by decide +kernel
theorem dX6_cleaned_32 : decode cX6_cleaned 32 = .ok (.iadd, 1) := by decide +kernel
theorem dX6_cleaned_33 : decode cX6_cleaned 33 = .ok (.iaload, 1) := by decide +kernel
theorem dX6_cleaned_34 : decode cX6_cleaned 34 = .ok (.istore 4, 2) := by decide +kernel
theorem dX6_cleaned_36 : decode cX6_cleaned 36 = .ok (.aload_n 0, 1) := by decide +kernel
theorem dX6_cleaned_37 : decode cX6_cleaned 37 = .ok (.getfield 16, 3) := by decide +kernel
theorem dX6_cleaned_40 : decode cX6_cleaned 40 = .ok (.bipush 36, 2) := by decide +kernel
theorem dX6_cleaned_42 : decode cX6_cleaned 42 = .ok (.iload_n 1, 1) := by decide +kernel
theorem dX6_cleaned_43 : decode cX6_cleaned 43 = .ok (.iconst 1, 1) := by decide +kernel
theorem dX6_cleaned_44 : decode cX6_cleaned 44 = .ok (.iadd, 1) := by decide +kernel
theorem dX6_cleaned_45 : decode cX6_cleaned 45 = .ok (.imul, 1) := by decide +kernel
theorem dX6_cleaned_46 : decode cX6_cleaned 46 = .ok (.iload_n 2, 1) := by decide +kernel
theorem dX6_cleaned_47 : decode cX6_cleaned 47 = .ok (.iadd, 1) := by decide +kernel
theorem dX6_cleaned_48 : decode cX6_cleaned 48 = .ok (.iaload, 1) := by decide +kernel
theorem dX6_cleaned_49 : decode cX6_cleaned 49 = .ok (.istore 5, 2) := by decide +kernel
theorem dX6_cleaned_51 : decode cX6_cleaned 51 = .ok (.iload 4, 2) := by decide +kernel
theorem dX6_cleaned_53 : decode cX6_cleaned 53 = .ok (.iconst (-1), 1) := by decide +kernel
theorem dX6_cleaned_54 : decode cX6_cleaned 54 = .ok (.if_icmp .eq 62, 3) := by decide +kernel
theorem dX6_cleaned_57 : decode cX6_cleaned 57 = .ok (.iload 5, 2) := by decide +kernel
theorem dX6_cleaned_59 : decode cX6_cleaned 59 = .ok (.iconst (-1), 1) := by decide +kernel
theorem dX6_cleaned_60 : decode cX6_cleaned 60 = .ok (.if_icmp .eq 56, 3) := by decide +kernel
theorem dX6_cleaned_63 : decode cX6_cleaned 63 = .ok (.iload 4, 2) := by decide +kernel
theorem dX6_cleaned_65 : decode cX6_cleaned 65 = .ok (.iload 5, 2) := by decide +kernel
theorem dX6_cleaned_67 : decode cX6_cleaned 67 = .ok (.isub, 1) := by decide +kernel
theorem dX6_cleaned_68 : decode cX6_cleaned 68 = .ok (.invokestatic 115, 3) := by decide +kernel
theorem dX6_cleaned_71 : decode cX6_cleaned 71 = .ok (.aload_n 0, 1) := by decide +kernel
theorem dX6_cleaned_72 : decode cX6_cleaned 72 = .ok (.getfield 36, 3) := by decide +kernel
theorem dX6_cleaned_75 : decode cX6_cleaned 75 = .ok (.iconst 1, 1) := by decide +kernel
theorem dX6_cleaned_76 : decode cX6_cleaned 76 = .ok (.iaload, 1) := by decide +kernel
theorem dX6_cleaned_77 : decode cX6_cleaned 77 = .ok (.if_icmp .gt 39, 3) := by decide +kernel
theorem dX6_cleaned_80 : decode cX6_cleaned 80 = .ok (.iload_n 3, 1) := by decide +kernel
theorem dX6_cleaned_81 : decode cX6_cleaned 81 = .ok (.iload 4, 2) := by decide +kernel
theorem dX6_cleaned_83 : decode cX6_cleaned 83 = .ok (.isub, 1) := by decide +kernel
theorem dX6_cleaned_84 : decode cX6_cleaned 84 = .ok (.invokestatic 115, 3) := by decide +kernel
theorem dX6_cleaned_87 : decode cX6_cleaned 87 = .ok (.aload_n 0, 1) := by decide +kernel
theorem dX6_cleaned_88 : decode cX6_cleaned 88 = .ok (.getfield 36, 3) := by decide +kernel
theorem dX6_cleaned_91 : decode cX6_cleaned 91 = .ok (.iconst 2, 1) := by decide +kernel
theorem dX6_cleaned_92 : decode cX6_cleaned 92 = .ok (.iaload, 1) := by decide +kernel
theorem dX6_cleaned_93 : decode cX6_cleaned 93 = .ok (.if_icmp .le 23, 3) := by decide +kernel
theorem dX6_cleaned_96 : decode cX6_cleaned 96 = .ok (.iload_n 3, 1) := by decide +kernel
theorem dX6_cleaned_97 : decode cX6_cleaned 97 = .ok (.iload 5, 2) := by decide +kernel
theorem dX6_cleaned_99 : decode cX6_cleaned 99 = .ok (.isub, 1) := by decide +kernel
theorem dX6_cleaned_100 : decode cX6_cleaned 100 = .ok (.invokestatic 115, 3) := by decide +kernel
theorem dX6_cleaned_103 : decode cX6_cleaned 103 = .ok (.aload_n 0, 1) := by decide +kernel
theorem dX6_cleaned_104 : decode cX6_cleaned 104 = .ok (.getfield 36, 3) := by decide +kernel
theorem dX6_cleaned_107 : decode cX6_cleaned 107 = .ok (.iconst 2, 1) := by decide +kernel
theorem dX6_cleaned_108 : decode cX6_cleaned 108 = .ok (.iaload, 1) := by decide +kernel
theorem dX6_cleaned_109 : decode cX6_cleaned 109 = .ok (.if_icmp .le 7, 3) := by decide +kernel
theorem dX6_cleaned_112 : decode cX6_cleaned 112 = .ok (.iconst 1, 1) := by decide +kernel
theorem dX6_cleaned_113 : decode cX6_cleaned 113 = .ok (.goto 4, 3) := by decide +kernel
theorem dX6_cleaned_116 : decode cX6_cleaned 116 = .ok (.iconst 0, 1) := by decide +kernel
theorem dX6_cleaned_117 : decode cX6_cleaned 117 = .ok (.istore 6, 2) := by decide +kernel
theorem dX6_cleaned_119 : decode cX6_cleaned 119 = .ok (.iload 6, 2) := by decide +kernel
theorem dX6_cleaned_121 : decode cX6_cleaned 121 = .ok (.ifCond .eq 13, 3) := by decide +kernel
theorem dX6_cleaned_124 : decode cX6_cleaned 124 = .ok (.iload 4, 2) := by decide +kernel
theorem dX6_cleaned_126 : decode cX6_cleaned 126 = .ok (.iload 5, 2) := by decide +kernel
theorem dX6_cleaned_128 : decode cX6_cleaned 128 = .ok (.iadd, 1) := by decide +kernel
theorem dX6_cleaned_129 : decode cX6_cleaned 129 = .ok (.iconst 2, 1) := by decide +kernel
theorem dX6_cleaned_130 : decode cX6_cleaned 130 = .ok (.idiv, 1) := by decide +kernel
theorem dX6_cleaned_131 : decode cX6_cleaned 131 = .ok (.goto 4, 3) := by decide +kernel
theorem dX6_cleaned_134 : decode cX6_cleaned 134 = .ok (.iconst (-1), 1) := by decide +kernel
theorem dX6_cleaned_135 : decode cX6_cleaned 135 = .ok (.ireturn, 1) := by decide +kernel
set_option maxRecDepth 20000 in
theorem ggX6_dust_X6_isFrame : GoodIn wsX6_dust wsX6_isFrame := goodIn_r _ [8, 9, 10, 11, 7, 12, 21, 22, 23, 24, 25, 26, 27, 28, 29, 30, 31, 32, 33, 34, 35, 36, 37, 38, 39, 40, 41, 42, 43, 44, 45, 46, 47, 48, 49, 50, 51, 52, 53] (by decide +kernel) (by decide +kernel)
set_option maxRecDepth 20000 in
theorem gX6_dust_X6_isFrame : GoodIn wsX6_dust (wsV RX6 82 RX6 yX6_isFrame wsX6_isFrame) := goodIn_app (goodIn_of _ (by decide +kernel)) ggX6_dust_X6_isFrame
set_option maxRecDepth 20000 in
theorem ggX6_dust_X6_cleaned : GoodIn wsX6_dust wsX6_cleaned := goodIn_r _ [16, 9, 3, 17, 18, 19, 7, 20, 21, 22, 23, 24, 25, 26, 27, 28, 29, 30, 31, 32, 33, 34, 35, 36, 37, 38, 39, 40, 41, 42, 43, 44, 45, 46, 47, 48, 49, 50, 51, 52, 53] (by decide +kernel) (by decide +kernel)
set_option maxRecDepth 20000 in
theorem gX6_dust_X6_cleaned : GoodIn wsX6_dust (wsV RX6 148 RX6 yX6_cleaned wsX6_cleaned) := goodIn_app (goodIn_of _ (by decide +kernel)) ggX6_dust_X6_cleaned
theorem dX6_dust_0 : decode cX6_dust 0 = .ok (.aload_n 0, 1) := by decide +kernel
theorem dX6_dust_1 : decode cX6_dust 1 = .ok (.iload_n 1, 1) := by decide +kernel
theorem dX6_dust_2 : decode cX6_dust 2 = .ok (.invokevirtual 82, 3) := by decide +kernel
theorem dX6_dust_5 : decode cX6_dust 5 = .ok (.ifCond .ne 5, 3) := by decide +kernel
theorem dX6_dust_8 : decode cX6_dust 8 = .ok (.iconst (-1), 1) := by decide +kernel
theorem dX6_dust_9 : decode cX6_dust 9 = .ok (.ireturn, 1) := by decide +kernel
theorem dX6_dust_10 : decode cX6_dust 10 = .ok (.iconst 0, 1) := by decide +kernel
theorem dX6_dust_11 : decode cX6_dust 11 = .ok (.istore_n 2, 1) := by decide +kernel
theorem dX6_dust_12 : decode cX6_dust 12 = .ok (.iconst 0, 1) := by decide +kernel
theorem dX6_dust_13 : decode cX6_dust 13 = .ok (.istore_n 3, 1) := by decide +kernel
theorem dX6_dust_14 : decode cX6_dust 14 = .ok (.iload_n 3, 1) := by decide +kernel
theorem dX6_dust_15 : decode cX6_dust 15 = .ok (.aload_n 0, 1) := by decide +kernel
theorem dX6_dust_16 : decode cX6_dust 16 = .ok (.getfield 7, 3) := by decide +kernel
theorem dX6_dust_19 : decode cX6_dust 19 = .ok (.aload_n 0, 1) := by decide +kernel
theorem dX6_dust_20 : decode cX6_dust 20 = .ok (.getfield 13, 3) := by decide +kernel
theorem dX6_dust_23 : decode cX6_dust 23 = .ok (.imul, 1) := by decide +kernel
theorem dX6_dust_24 : decode cX6_dust 24 = .ok (.if_icmp .ge 37, 3) := by decide +kernel
theorem dX6_dust_27 : decode cX6_dust 27 = .ok (.iload_n 2, 1) := by decide +kernel
theorem dX6_dust_28 : decode cX6_dust 28 = .ok (.aload_n 0, 1) := by decide +kernel
theorem dX6_dust_29 : decode cX6_dust 29 = .ok (.iload_n 1, 1) := by decide +kernel
theorem dX6_dust_30 : decode cX6_dust 30 = .ok (.iload_n 3, 1) := by decide +kernel
theorem dX6_dust_31 : decode cX6_dust 31 = .ok (.aload_n 0, 1) := by decide +kernel
theorem dX6_dust_32 : decode cX6_dust 32 = .ok (.getfield 16, 3) := by decide +kernel
theorem dX6_dust_35 : decode cX6_dust 35 = .ok (.bipush 36, 2) := by decide +kernel
theorem dX6_dust_37 : decode cX6_dust 37 = .ok (.iload_n 1, 1) := by decide +kernel
theorem dX6_dust_38 : decode cX6_dust 38 = .ok (.imul, 1) := by decide +kernel
theorem dX6_dust_39 : decode cX6_dust 39 = .ok (.iload_n 3, 1) := by decide +kernel
theorem dX6_dust_40 : decode cX6_dust 40 = .ok (.iadd, 1) := by decide +kernel
theorem dX6_dust_41 : decode cX6_dust 41 = .ok (.iaload, 1) := by decide +kernel
theorem dX6_dust_42 : decode cX6_dust 42 = .ok (.invokevirtual 148, 3) := by decide +kernel
theorem dX6_dust_45 : decode cX6_dust 45 = .ok (.ifCond .lt 7, 3) := by decide +kernel
theorem dX6_dust_48 : decode cX6_dust 48 = .ok (.iconst 1, 1) := by decide +kernel
theorem dX6_dust_49 : decode cX6_dust 49 = .ok (.goto 4, 3) := by decide +kernel
theorem dX6_dust_52 : decode cX6_dust 52 = .ok (.iconst 0, 1) := by decide +kernel
theorem dX6_dust_53 : decode cX6_dust 53 = .ok (.iadd, 1) := by decide +kernel
theorem dX6_dust_54 : decode cX6_dust 54 = .ok (.istore_n 2, 1) := by decide +kernel
theorem dX6_dust_55 : decode cX6_dust 55 = .ok (.iinc 3 1, 3) := by decide +kernel
theorem dX6_dust_58 : decode cX6_dust 58 = .ok (.goto (-44), 3) := by decide +kernel
theorem dX6_dust_61 : decode cX6_dust 61 = .ok (.iload_n 2, 1) := by decide +kernel
theorem dX6_dust_62 : decode cX6_dust 62 = .ok (.ireturn, 1) := by decide +kernel
set_option maxRecDepth 20000 in
theorem ggX6_layer_X6_in : GoodIn wsX6_layer wsX6_in := goodIn_r _ [10] (by decide +kernel) (by decide +kernel)
set_option maxRecDepth 20000 in
theorem gX6_layer_X6_in : GoodIn wsX6_layer (va_wsS RX6 75 yX6_in wsX6_in) := goodIn_app (goodIn_of _ (by decide +kernel)) ggX6_layer_X6_in
set_option maxRecDepth 20000 in
theorem ggX6_layer_X6_isFrame : GoodIn wsX6_layer wsX6_isFrame := goodIn_r _ [14, 15, 7, 8, 9, 10, 16, 17, 18, 19, 20, 21, 22, 23, 24, 25, 26, 27, 28, 29, 30, 31, 32, 33, 34, 35, 36, 37, 38, 39, 40, 41, 42, 43, 44, 45, 46, 47, 48] (by decide +kernel) (by decide +kernel)
set_option maxRecDepth 20000 in
theorem gX6_layer_X6_isFrame : GoodIn wsX6_layer (wsV RX6 82 RX6 yX6_isFrame wsX6_isFrame) := goodIn_app (goodIn_of _ (by decide +kernel)) ggX6_layer_X6_isFrame
theorem dX6_layer_0 : decode cX6_layer 0 = .ok (.iload_n 1, 1) := by decide +kernel
theorem dX6_layer_1 : decode cX6_layer 1 = .ok (.iconst 0, 1) := by decide +kernel
theorem dX6_layer_2 : decode cX6_layer 2 = .ok (.iconst 3, 1) := by decide +kernel
theorem dX6_layer_3 : decode cX6_layer 3 = .ok (.invokestatic 75, 3) := by decide +kernel
theorem dX6_layer_6 : decode cX6_layer 6 = .ok (.ifCond .eq 11, 3) := by decide +kernel
theorem dX6_layer_9 : decode cX6_layer 9 = .ok (.aload_n 0, 1) := by decide +kernel
theorem dX6_layer_10 : decode cX6_layer 10 = .ok (.iload_n 2, 1) := by decide +kernel
theorem dX6_layer_11 : decode cX6_layer 11 = .ok (.invokevirtual 82, 3) := by decide +kernel
theorem dX6_layer_14 : decode cX6_layer 14 = .ok (.ifCond .ne 5, 3) := by decide +kernel
theorem dX6_layer_17 : decode cX6_layer 17 = .ok (.iconst (-1), 1) := by decide +kernel
theorem dX6_layer_18 : decode cX6_layer 18 = .ok (.ireturn, 1) := by decide +kernel
theorem dX6_layer_19 : decode cX6_layer 19 = .ok (.iload_n 1, 1) := by decide +kernel
theorem dX6_layer_20 : decode cX6_layer 20 = .ok (.iconst 1, 1) := by decide +kernel
theorem dX6_layer_21 : decode cX6_layer 21 = .ok (.if_icmp .ne 16, 3) := by decide +kernel
theorem dX6_layer_24 : decode cX6_layer 24 = .ok (.aload_n 0, 1) := by decide +kernel
theorem dX6_layer_25 : decode cX6_layer 25 = .ok (.iload_n 3, 1) := by decide +kernel
theorem dX6_layer_26 : decode cX6_layer 26 = .ok (.invokevirtual 82, 3) := by decide +kernel
theorem dX6_layer_29 : decode cX6_layer 29 = .ok (.ifCond .eq 34, 3) := by decide +kernel
theorem dX6_layer_32 : decode cX6_layer 32 = .ok (.iload_n 3, 1) := by decide +kernel
theorem dX6_layer_33 : decode cX6_layer 33 = .ok (.iload_n 2, 1) := by decide +kernel
theorem dX6_layer_34 : decode cX6_layer 34 = .ok (.if_icmp .eq 29, 3) := by decide +kernel
theorem dX6_layer_37 : decode cX6_layer 37 = .ok (.iload_n 1, 1) := by decide +kernel
theorem dX6_layer_38 : decode cX6_layer 38 = .ok (.iconst 3, 1) := by decide +kernel
theorem dX6_layer_39 : decode cX6_layer 39 = .ok (.if_icmp .ne 26, 3) := by decide +kernel
theorem dX6_layer_42 : decode cX6_layer 42 = .ok (.iload_n 3, 1) := by decide +kernel
theorem dX6_layer_43 : decode cX6_layer 43 = .ok (.bipush (-3), 2) := by decide +kernel
theorem dX6_layer_45 : decode cX6_layer 45 = .ok (.iconst 3, 1) := by decide +kernel
theorem dX6_layer_46 : decode cX6_layer 46 = .ok (.invokestatic 75, 3) := by decide +kernel
theorem dX6_layer_49 : decode cX6_layer 49 = .ok (.ifCond .eq 14, 3) := by decide +kernel
theorem dX6_layer_52 : decode cX6_layer 52 = .ok (.iload 4, 2) := by decide +kernel
theorem dX6_layer_54 : decode cX6_layer 54 = .ok (.bipush (-3), 2) := by decide +kernel
theorem dX6_layer_56 : decode cX6_layer 56 = .ok (.iconst 3, 1) := by decide +kernel
theorem dX6_layer_57 : decode cX6_layer 57 = .ok (.invokestatic 75, 3) := by decide +kernel
theorem dX6_layer_60 : decode cX6_layer 60 = .ok (.ifCond .ne 5, 3) := by decide +kernel
theorem dX6_layer_63 : decode cX6_layer 63 = .ok (.iconst (-1), 1) := by decide +kernel
theorem dX6_layer_64 : decode cX6_layer 64 = .ok (.ireturn, 1) := by decide +kernel
theorem dX6_layer_65 : decode cX6_layer 65 = .ok (.aload_n 0, 1) := by decide +kernel
theorem dX6_layer_66 : decode cX6_layer 66 = .ok (.getfield 79, 3) := by decide +kernel
theorem dX6_layer_69 : decode cX6_layer 69 = .ok (.bipush 12, 2) := by decide +kernel
theorem dX6_layer_71 : decode cX6_layer 71 = .ok (.if_icmp .ne 6, 3) := by decide +kernel
theorem dX6_layer_74 : decode cX6_layer 74 = .ok (.bipush (-2), 2) := by decide +kernel
theorem dX6_layer_76 : decode cX6_layer 76 = .ok (.ireturn, 1) := by decide +kernel
theorem dX6_layer_77 : decode cX6_layer 77 = .ok (.aload_n 0, 1) := by decide +kernel
theorem dX6_layer_78 : decode cX6_layer 78 = .ok (.getfield 20, 3) := by decide +kernel
theorem dX6_layer_81 : decode cX6_layer 81 = .ok (.aload_n 0, 1) := by decide +kernel
theorem dX6_layer_82 : decode cX6_layer 82 = .ok (.getfield 79, 3) := by decide +kernel
theorem dX6_layer_85 : decode cX6_layer 85 = .ok (.iload_n 1, 1) := by decide +kernel
theorem dX6_layer_86 : decode cX6_layer 86 = .ok (.iastore, 1) := by decide +kernel
theorem dX6_layer_87 : decode cX6_layer 87 = .ok (.aload_n 0, 1) := by decide +kernel
theorem dX6_layer_88 : decode cX6_layer 88 = .ok (.getfield 23, 3) := by decide +kernel
theorem dX6_layer_91 : decode cX6_layer 91 = .ok (.aload_n 0, 1) := by decide +kernel
theorem dX6_layer_92 : decode cX6_layer 92 = .ok (.getfield 79, 3) := by decide +kernel
theorem dX6_layer_95 : decode cX6_layer 95 = .ok (.iload_n 2, 1) := by decide +kernel
theorem dX6_layer_96 : decode cX6_layer 96 = .ok (.iastore, 1) := by decide +kernel
theorem dX6_layer_97 : decode cX6_layer 97 = .ok (.aload_n 0, 1) := by decide +kernel
theorem dX6_layer_98 : decode cX6_layer 98 = .ok (.getfield 26, 3) := by decide +kernel
theorem dX6_layer_101 : decode cX6_layer 101 = .ok (.aload_n 0, 1) := by decide +kernel
theorem dX6_layer_102 : decode cX6_layer 102 = .ok (.getfield 79, 3) := by decide +kernel
theorem dX6_layer_105 : decode cX6_layer 105 = .ok (.iload_n 1, 1) := by decide +kernel
theorem dX6_layer_106 : decode cX6_layer 106 = .ok (.iconst 1, 1) := by decide +kernel
theorem dX6_layer_107 : decode cX6_layer 107 = .ok (.if_icmp .eq 8, 3) := by decide +kernel
theorem dX6_layer_110 : decode cX6_layer 110 = .ok (.iload_n 1, 1) := by decide +kernel
theorem dX6_layer_111 : decode cX6_layer 111 = .ok (.iconst 3, 1) := by decide +kernel
theorem dX6_layer_112 : decode cX6_layer 112 = .ok (.if_icmp .ne 7, 3) := by decide +kernel
theorem dX6_layer_115 : decode cX6_layer 115 = .ok (.iload_n 3, 1) := by decide +kernel
theorem dX6_layer_116 : decode cX6_layer 116 = .ok (.goto 4, 3) := by decide +kernel
theorem dX6_layer_119 : decode cX6_layer 119 = .ok (.iconst 0, 1) := by decide +kernel
theorem dX6_layer_120 : decode cX6_layer 120 = .ok (.iastore, 1) := by decide +kernel
theorem dX6_layer_121 : decode cX6_layer 121 = .ok (.aload_n 0, 1) := by decide +kernel
theorem dX6_layer_122 : decode cX6_layer 122 = .ok (.getfield 29, 3) := by decide +kernel
theorem dX6_layer_125 : decode cX6_layer 125 = .ok (.aload_n 0, 1) := by decide +kernel
theorem dX6_layer_126 : decode cX6_layer 126 = .ok (.getfield 79, 3) := by decide +kernel
theorem dX6_layer_129 : decode cX6_layer 129 = .ok (.iload_n 1, 1) := by decide +kernel
theorem dX6_layer_130 : decode cX6_layer 130 = .ok (.iconst 3, 1) := by decide +kernel
theorem dX6_layer_131 : decode cX6_layer 131 = .ok (.if_icmp .ne 8, 3) := by decide +kernel
theorem dX6_layer_134 : decode cX6_layer 134 = .ok (.iload 4, 2) := by decide +kernel
theorem dX6_layer_136 : decode cX6_layer 136 = .ok (.goto 4, 3) := by decide +kernel
theorem dX6_layer_139 : decode cX6_layer 139 = .ok (.iconst 0, 1) := by decide +kernel
theorem dX6_layer_140 : decode cX6_layer 140 = .ok (.iastore, 1) := by decide +kernel
theorem dX6_layer_141 : decode cX6_layer 141 = .ok (.aload_n 0, 1) := by decide +kernel
theorem dX6_layer_142 : decode cX6_layer 142 = .ok (.getfield 32, 3) := by decide +kernel
theorem dX6_layer_145 : decode cX6_layer 145 = .ok (.aload_n 0, 1) := by decide +kernel
theorem dX6_layer_146 : decode cX6_layer 146 = .ok (.getfield 79, 3) := by decide +kernel
theorem dX6_layer_149 : decode cX6_layer 149 = .ok (.iconst 1, 1) := by decide +kernel
theorem dX6_layer_150 : decode cX6_layer 150 = .ok (.bastore, 1) := by decide +kernel
theorem dX6_layer_151 : decode cX6_layer 151 = .ok (.aload_n 0, 1) := by decide +kernel
theorem dX6_layer_152 : decode cX6_layer 152 = .ok (.dup, 1) := by decide +kernel
theorem dX6_layer_153 : decode cX6_layer 153 = .ok (.getfield 79, 3) := by decide +kernel
theorem dX6_layer_156 : decode cX6_layer 156 = .ok (.iconst 1, 1) := by decide +kernel
theorem dX6_layer_157 : decode cX6_layer 157 = .ok (.iadd, 1) := by decide +kernel
theorem dX6_layer_158 : decode cX6_layer 158 = .ok (.putfield 79, 3) := by decide +kernel
theorem dX6_layer_161 : decode cX6_layer 161 = .ok (.aload_n 0, 1) := by decide +kernel
theorem dX6_layer_162 : decode cX6_layer 162 = .ok (.getfield 79, 3) := by decide +kernel
theorem dX6_layer_165 : decode cX6_layer 165 = .ok (.iconst 1, 1) := by decide +kernel
theorem dX6_layer_166 : decode cX6_layer 166 = .ok (.isub, 1) := by decide +kernel
theorem dX6_layer_167 : decode cX6_layer 167 = .ok (.ireturn, 1) := by decide +kernel
set_option maxRecDepth 20000 in
theorem ggX6_isLayer_X6_in : GoodIn wsX6_isLayer wsX6_in := goodIn_r _ [5] (by decide +kernel) (by decide +kernel)
set_option maxRecDepth 20000 in
theorem gX6_isLayer_X6_in : GoodIn wsX6_isLayer (va_wsS RX6 75 yX6_in wsX6_in) := goodIn_app (goodIn_of _ (by decide +kernel)) ggX6_isLayer_X6_in
theorem dX6_isLayer_0 : decode cX6_isLayer 0 = .ok (.iload_n 1, 1) := by decide +kernel
theorem dX6_isLayer_1 : decode cX6_isLayer 1 = .ok (.iconst 0, 1) := by decide +kernel
theorem dX6_isLayer_2 : decode cX6_isLayer 2 = .ok (.aload_n 0, 1) := by decide +kernel
theorem dX6_isLayer_3 : decode cX6_isLayer 3 = .ok (.getfield 79, 3) := by decide +kernel
theorem dX6_isLayer_6 : decode cX6_isLayer 6 = .ok (.iconst 1, 1) := by decide +kernel
theorem dX6_isLayer_7 : decode cX6_isLayer 7 = .ok (.isub, 1) := by decide +kernel
theorem dX6_isLayer_8 : decode cX6_isLayer 8 = .ok (.invokestatic 75, 3) := by decide +kernel
theorem dX6_isLayer_11 : decode cX6_isLayer 11 = .ok (.ireturn, 1) := by decide +kernel
set_option maxRecDepth 20000 in
theorem ggX6_on_X6_isLayer : GoodIn wsX6_on wsX6_isLayer := goodIn_r _ [6, 7, 8, 9, 5, 10, 11, 12, 13, 14, 15, 16, 17, 18, 19, 20, 21, 22, 23, 24, 25, 26, 27, 28, 29, 30, 31, 32, 33, 34, 35, 36, 37, 38, 39, 40, 41, 42, 43] (by decide +kernel) (by decide +kernel)
set_option maxRecDepth 20000 in
theorem gX6_on_X6_isLayer : GoodIn wsX6_on (wsV RX6 151 RX6 yX6_isLayer wsX6_isLayer) := goodIn_app (goodIn_of _ (by decide +kernel)) ggX6_on_X6_isLayer
theorem dX6_on_0 : decode cX6_on 0 = .ok (.aload_n 0, 1) := by decide +kernel
theorem dX6_on_1 : decode cX6_on 1 = .ok (.iload_n 1, 1) := by decide +kernel
theorem dX6_on_2 : decode cX6_on 2 = .ok (.invokevirtual 151, 3) := by decide +kernel
theorem dX6_on_5 : decode cX6_on 5 = .ok (.ifCond .ne 5, 3) := by decide +kernel
theorem dX6_on_8 : decode cX6_on 8 = .ok (.iconst (-1), 1) := by decide +kernel
theorem dX6_on_9 : decode cX6_on 9 = .ok (.ireturn, 1) := by decide +kernel
theorem dX6_on_10 : decode cX6_on 10 = .ok (.aload_n 0, 1) := by decide +kernel
theorem dX6_on_11 : decode cX6_on 11 = .ok (.getfield 32, 3) := by decide +kernel
theorem dX6_on_14 : decode cX6_on 14 = .ok (.iload_n 1, 1) := by decide +kernel
theorem dX6_on_15 : decode cX6_on 15 = .ok (.baload, 1) := by decide +kernel
theorem dX6_on_16 : decode cX6_on 16 = .ok (.iload_n 2, 1) := by decide +kernel
theorem dX6_on_17 : decode cX6_on 17 = .ok (.if_icmp .ne 7, 3) := by decide +kernel
theorem dX6_on_20 : decode cX6_on 20 = .ok (.iconst 0, 1) := by decide +kernel
theorem dX6_on_21 : decode cX6_on 21 = .ok (.goto 4, 3) := by decide +kernel
theorem dX6_on_24 : decode cX6_on 24 = .ok (.iconst 1, 1) := by decide +kernel
theorem dX6_on_25 : decode cX6_on 25 = .ok (.istore_n 3, 1) := by decide +kernel
theorem dX6_on_26 : decode cX6_on 26 = .ok (.aload_n 0, 1) := by decide +kernel
theorem dX6_on_27 : decode cX6_on 27 = .ok (.getfield 32, 3) := by decide +kernel
theorem dX6_on_30 : decode cX6_on 30 = .ok (.iload_n 1, 1) := by decide +kernel
theorem dX6_on_31 : decode cX6_on 31 = .ok (.iload_n 2, 1) := by decide +kernel
theorem dX6_on_32 : decode cX6_on 32 = .ok (.bastore, 1) := by decide +kernel
theorem dX6_on_33 : decode cX6_on 33 = .ok (.iload_n 3, 1) := by decide +kernel
theorem dX6_on_34 : decode cX6_on 34 = .ok (.ireturn, 1) := by decide +kernel
theorem dX6_peel_0 : decode cX6_peel 0 = .ok (.aload_n 0, 1) := by decide +kernel
theorem dX6_peel_1 : decode cX6_peel 1 = .ok (.getfield 79, 3) := by decide +kernel
theorem dX6_peel_4 : decode cX6_peel 4 = .ok (.ifCond .ne 6, 3) := by decide +kernel
theorem dX6_peel_7 : decode cX6_peel 7 = .ok (.bipush (-3), 2) := by decide +kernel
theorem dX6_peel_9 : decode cX6_peel 9 = .ok (.ireturn, 1) := by decide +kernel
theorem dX6_peel_10 : decode cX6_peel 10 = .ok (.aload_n 0, 1) := by decide +kernel
theorem dX6_peel_11 : decode cX6_peel 11 = .ok (.dup, 1) := by decide +kernel
theorem dX6_peel_12 : decode cX6_peel 12 = .ok (.getfield 79, 3) := by decide +kernel
theorem dX6_peel_15 : decode cX6_peel 15 = .ok (.iconst 1, 1) := by decide +kernel
theorem dX6_peel_16 : decode cX6_peel 16 = .ok (.isub, 1) := by decide +kernel
theorem dX6_peel_17 : decode cX6_peel 17 = .ok (.putfield 79, 3) := by decide +kernel
theorem dX6_peel_20 : decode cX6_peel 20 = .ok (.aload_n 0, 1) := by decide +kernel
theorem dX6_peel_21 : decode cX6_peel 21 = .ok (.getfield 79, 3) := by decide +kernel
theorem dX6_peel_24 : decode cX6_peel 24 = .ok (.ireturn, 1) := by decide +kernel
theorem dX6_filledFrom_0 : decode cX6_filledFrom 0 = .ok (.iload_n 1, 1) := by decide +kernel
theorem dX6_filledFrom_1 : decode cX6_filledFrom 1 = .ok (.ifCond .lt 11, 3) := by decide +kernel
theorem dX6_filledFrom_4 : decode cX6_filledFrom 4 = .ok (.iload_n 1, 1) := by decide +kernel
theorem dX6_filledFrom_5 : decode cX6_filledFrom 5 = .ok (.aload_n 0, 1) := by decide +kernel
theorem dX6_filledFrom_6 : decode cX6_filledFrom 6 = .ok (.getfield 72, 3) := by decide +kernel
theorem dX6_filledFrom_9 : decode cX6_filledFrom 9 = .ok (.if_icmp .lt 7, 3) := by decide +kernel
theorem dX6_filledFrom_12 : decode cX6_filledFrom 12 = .ok (.iconst (-1), 1) := by decide +kernel
theorem dX6_filledFrom_13 : decode cX6_filledFrom 13 = .ok (.goto 14, 3) := by decide +kernel
theorem dX6_filledFrom_16 : decode cX6_filledFrom 16 = .ok (.aload_n 0, 1) := by decide +kernel
theorem dX6_filledFrom_17 : decode cX6_filledFrom 17 = .ok (.getfield 16, 3) := by decide +kernel
theorem dX6_filledFrom_20 : decode cX6_filledFrom 20 = .ok (.bipush 36, 2) := by decide +kernel
theorem dX6_filledFrom_22 : decode cX6_filledFrom 22 = .ok (.iload_n 1, 1) := by decide +kernel
theorem dX6_filledFrom_23 : decode cX6_filledFrom 23 = .ok (.imul, 1) := by decide +kernel
theorem dX6_filledFrom_24 : decode cX6_filledFrom 24 = .ok (.iload_n 2, 1) := by decide +kernel
theorem dX6_filledFrom_25 : decode cX6_filledFrom 25 = .ok (.iadd, 1) := by decide +kernel
theorem dX6_filledFrom_26 : decode cX6_filledFrom 26 = .ok (.iaload, 1) := by decide +kernel
theorem dX6_filledFrom_27 : decode cX6_filledFrom 27 = .ok (.ireturn, 1) := by decide +kernel
set_option maxRecDepth 20000 in
theorem ggX6_matched_X6_rising : GoodIn wsX6_matched wsX6_rising := goodIn_r _ [9, 1, 2, 4, 10, 11, 12, 13, 14, 15, 16, 17, 18, 19, 20, 21, 22, 23, 24, 25, 26, 27, 28, 29, 30, 31, 32, 33, 34, 35, 36, 37, 38, 39, 40, 41, 42] (by decide +kernel) (by decide +kernel)
set_option maxRecDepth 20000 in
theorem gX6_matched_X6_rising : GoodIn wsX6_matched (wsV RX6 154 RX6 yX6_rising wsX6_rising) := goodIn_app (goodIn_of _ (by decide +kernel)) ggX6_matched_X6_rising
theorem dX6_matched_0 : decode cX6_matched 0 = .ok (.iconst 0, 1) := by decide +kernel
theorem dX6_matched_1 : decode cX6_matched 1 = .ok (.istore_n 3, 1) := by decide +kernel
theorem dX6_matched_2 : decode cX6_matched 2 = .ok (.iconst 0, 1) := by decide +kernel
theorem dX6_matched_3 : decode cX6_matched 3 = .ok (.istore 4, 2) := by decide +kernel
theorem dX6_matched_5 : decode cX6_matched 5 = .ok (.iconst 0, 1) := by decide +kernel
theorem dX6_matched_6 : decode cX6_matched 6 = .ok (.istore 5, 2) := by decide +kernel
theorem dX6_matched_8 : decode cX6_matched 8 = .ok (.iconst 0, 1) := by decide +kernel
theorem dX6_matched_9 : decode cX6_matched 9 = .ok (.istore 6, 2) := by decide +kernel
theorem dX6_matched_11 : decode cX6_matched 11 = .ok (.iconst 0, 1) := by decide +kernel
theorem dX6_matched_12 : decode cX6_matched 12 = .ok (.istore 7, 2) := by decide +kernel
theorem dX6_matched_14 : decode cX6_matched 14 = .ok (.iload 7, 2) := by decide +kernel
theorem dX6_matched_16 : decode cX6_matched 16 = .ok (.aload_n 0, 1) := by decide +kernel
theorem dX6_matched_17 : decode cX6_matched 17 = .ok (.getfield 7, 3) := by decide +kernel
theorem dX6_matched_20 : decode cX6_matched 20 = .ok (.aload_n 0, 1) := by decide +kernel
theorem dX6_matched_21 : decode cX6_matched 21 = .ok (.getfield 13, 3) := by decide +kernel
theorem dX6_matched_24 : decode cX6_matched 24 = .ok (.imul, 1) := by decide +kernel
theorem dX6_matched_25 : decode cX6_matched 25 = .ok (.if_icmp .ge 107, 3) := by decide +kernel
theorem dX6_matched_28 : decode cX6_matched 28 = .ok (.iload_n 3, 1) := by decide +kernel
theorem dX6_matched_29 : decode cX6_matched 29 = .ok (.aload_n 0, 1) := by decide +kernel
theorem dX6_matched_30 : decode cX6_matched 30 = .ok (.getfield 69, 3) := by decide +kernel
theorem dX6_matched_33 : decode cX6_matched 33 = .ok (.iload 7, 2) := by decide +kernel
theorem dX6_matched_35 : decode cX6_matched 35 = .ok (.iaload, 1) := by decide +kernel
theorem dX6_matched_36 : decode cX6_matched 36 = .ok (.iconst (-1), 1) := by decide +kernel
theorem dX6_matched_37 : decode cX6_matched 37 = .ok (.if_icmp .eq 7, 3) := by decide +kernel
theorem dX6_matched_40 : decode cX6_matched 40 = .ok (.iconst 1, 1) := by decide +kernel
theorem dX6_matched_41 : decode cX6_matched 41 = .ok (.goto 4, 3) := by decide +kernel
theorem dX6_matched_44 : decode cX6_matched 44 = .ok (.iconst 0, 1) := by decide +kernel
theorem dX6_matched_45 : decode cX6_matched 45 = .ok (.iadd, 1) := by decide +kernel
theorem dX6_matched_46 : decode cX6_matched 46 = .ok (.istore_n 3, 1) := by decide +kernel
theorem dX6_matched_47 : decode cX6_matched 47 = .ok (.iload 4, 2) := by decide +kernel
theorem dX6_matched_49 : decode cX6_matched 49 = .ok (.aload_n 0, 1) := by decide +kernel
theorem dX6_matched_50 : decode cX6_matched 50 = .ok (.getfield 69, 3) := by decide +kernel
theorem dX6_matched_53 : decode cX6_matched 53 = .ok (.iload 7, 2) := by decide +kernel
theorem dX6_matched_55 : decode cX6_matched 55 = .ok (.iaload, 1) := by decide +kernel
theorem dX6_matched_56 : decode cX6_matched 56 = .ok (.iconst (-1), 1) := by decide +kernel
theorem dX6_matched_57 : decode cX6_matched 57 = .ok (.if_icmp .eq 18, 3) := by decide +kernel
theorem dX6_matched_60 : decode cX6_matched 60 = .ok (.aload_n 0, 1) := by decide +kernel
theorem dX6_matched_61 : decode cX6_matched 61 = .ok (.getfield 69, 3) := by decide +kernel
theorem dX6_matched_64 : decode cX6_matched 64 = .ok (.iload 7, 2) := by decide +kernel
theorem dX6_matched_66 : decode cX6_matched 66 = .ok (.iaload, 1) := by decide +kernel
theorem dX6_matched_67 : decode cX6_matched 67 = .ok (.iload_n 2, 1) := by decide +kernel
theorem dX6_matched_68 : decode cX6_matched 68 = .ok (.if_icmp .ge 7, 3) := by decide +kernel
theorem dX6_matched_71 : decode cX6_matched 71 = .ok (.iconst 1, 1) := by decide +kernel
theorem dX6_matched_72 : decode cX6_matched 72 = .ok (.goto 4, 3) := by decide +kernel
theorem dX6_matched_75 : decode cX6_matched 75 = .ok (.iconst 0, 1) := by decide +kernel
theorem dX6_matched_76 : decode cX6_matched 76 = .ok (.iadd, 1) := by decide +kernel
theorem dX6_matched_77 : decode cX6_matched 77 = .ok (.istore 4, 2) := by decide +kernel
theorem dX6_matched_79 : decode cX6_matched 79 = .ok (.iload 5, 2) := by decide +kernel
theorem dX6_matched_81 : decode cX6_matched 81 = .ok (.aload_n 0, 1) := by decide +kernel
theorem dX6_matched_82 : decode cX6_matched 82 = .ok (.getfield 69, 3) := by decide +kernel
theorem dX6_matched_85 : decode cX6_matched 85 = .ok (.iload 7, 2) := by decide +kernel
theorem dX6_matched_87 : decode cX6_matched 87 = .ok (.iaload, 1) := by decide +kernel
theorem dX6_matched_88 : decode cX6_matched 88 = .ok (.iload_n 2, 1) := by decide +kernel
theorem dX6_matched_89 : decode cX6_matched 89 = .ok (.if_icmp .ne 7, 3) := by decide +kernel
theorem dX6_matched_92 : decode cX6_matched 92 = .ok (.iconst 1, 1) := by decide +kernel
theorem dX6_matched_93 : decode cX6_matched 93 = .ok (.goto 4, 3) := by decide +kernel
theorem dX6_matched_96 : decode cX6_matched 96 = .ok (.iconst 0, 1) := by decide +kernel
theorem dX6_matched_97 : decode cX6_matched 97 = .ok (.iadd, 1) := by decide +kernel
theorem dX6_matched_98 : decode cX6_matched 98 = .ok (.istore 5, 2) := by decide +kernel
theorem dX6_matched_100 : decode cX6_matched 100 = .ok (.iload 6, 2) := by decide +kernel
theorem dX6_matched_102 : decode cX6_matched 102 = .ok (.aload_n 0, 1) := by decide +kernel
theorem dX6_matched_103 : decode cX6_matched 103 = .ok (.getfield 16, 3) := by decide +kernel
theorem dX6_matched_106 : decode cX6_matched 106 = .ok (.bipush 36, 2) := by decide +kernel
theorem dX6_matched_108 : decode cX6_matched 108 = .ok (.iload_n 1, 1) := by decide +kernel
theorem dX6_matched_109 : decode cX6_matched 109 = .ok (.imul, 1) := by decide +kernel
theorem dX6_matched_110 : decode cX6_matched 110 = .ok (.iload 7, 2) := by decide +kernel
theorem dX6_matched_112 : decode cX6_matched 112 = .ok (.iadd, 1) := by decide +kernel
theorem dX6_matched_113 : decode cX6_matched 113 = .ok (.iaload, 1) := by decide +kernel
theorem dX6_matched_114 : decode cX6_matched 114 = .ok (.iconst (-1), 1) := by decide +kernel
theorem dX6_matched_115 : decode cX6_matched 115 = .ok (.if_icmp .eq 7, 3) := by decide +kernel
theorem dX6_matched_118 : decode cX6_matched 118 = .ok (.iconst 1, 1) := by decide +kernel
theorem dX6_matched_119 : decode cX6_matched 119 = .ok (.goto 4, 3) := by decide +kernel
theorem dX6_matched_122 : decode cX6_matched 122 = .ok (.iconst 0, 1) := by decide +kernel
theorem dX6_matched_123 : decode cX6_matched 123 = .ok (.iadd, 1) := by decide +kernel
theorem dX6_matched_124 : decode cX6_matched 124 = .ok (.istore 6, 2) := by decide +kernel
theorem dX6_matched_126 : decode cX6_matched 126 = .ok (.iinc 7 1, 3) := by decide +kernel
theorem dX6_matched_129 : decode cX6_matched 129 = .ok (.goto (-115), 3) := by decide +kernel
theorem dX6_matched_132 : decode cX6_matched 132 = .ok (.iload_n 2, 1) := by decide +kernel
theorem dX6_matched_133 : decode cX6_matched 133 = .ok (.iconst (-1), 1) := by decide +kernel
theorem dX6_matched_134 : decode cX6_matched 134 = .ok (.if_icmp .eq 8, 3) := by decide +kernel
theorem dX6_matched_137 : decode cX6_matched 137 = .ok (.iload 6, 2) := by decide +kernel
theorem dX6_matched_139 : decode cX6_matched 139 = .ok (.ifCond .ne 5, 3) := by decide +kernel
theorem dX6_matched_142 : decode cX6_matched 142 = .ok (.iload_n 2, 1) := by decide +kernel
theorem dX6_matched_143 : decode cX6_matched 143 = .ok (.ireturn, 1) := by decide +kernel
theorem dX6_matched_144 : decode cX6_matched 144 = .ok (.aload_n 0, 1) := by decide +kernel
theorem dX6_matched_145 : decode cX6_matched 145 = .ok (.iload_n 1, 1) := by decide +kernel
theorem dX6_matched_146 : decode cX6_matched 146 = .ok (.iconst 2, 1) := by decide +kernel
theorem dX6_matched_147 : decode cX6_matched 147 = .ok (.iload 4, 2) := by decide +kernel
theorem dX6_matched_149 : decode cX6_matched 149 = .ok (.imul, 1) := by decide +kernel
theorem dX6_matched_150 : decode cX6_matched 150 = .ok (.iload 5, 2) := by decide +kernel
theorem dX6_matched_152 : decode cX6_matched 152 = .ok (.iadd, 1) := by decide +kernel
theorem dX6_matched_153 : decode cX6_matched 153 = .ok (.iconst 1, 1) := by decide +kernel
theorem dX6_matched_154 : decode cX6_matched 154 = .ok (.isub, 1) := by decide +kernel
theorem dX6_matched_155 : decode cX6_matched 155 = .ok (.iconst 2, 1) := by decide +kernel
theorem dX6_matched_156 : decode cX6_matched 156 = .ok (.idiv, 1) := by decide +kernel
theorem dX6_matched_157 : decode cX6_matched 157 = .ok (.iload 6, 2) := by decide +kernel
theorem dX6_matched_159 : decode cX6_matched 159 = .ok (.imul, 1) := by decide +kernel
theorem dX6_matched_160 : decode cX6_matched 160 = .ok (.iload_n 3, 1) := by decide +kernel
theorem dX6_matched_161 : decode cX6_matched 161 = .ok (.idiv, 1) := by decide +kernel
theorem dX6_matched_162 : decode cX6_matched 162 = .ok (.invokevirtual 154, 3) := by decide +kernel
theorem dX6_matched_165 : decode cX6_matched 165 = .ok (.ireturn, 1) := by decide +kernel
theorem dX6_rising_0 : decode cX6_rising 0 = .ok (.iload_n 2, 1) := by decide +kernel
theorem dX6_rising_1 : decode cX6_rising 1 = .ok (.istore_n 3, 1) := by decide +kernel
theorem dX6_rising_2 : decode cX6_rising 2 = .ok (.iconst 0, 1) := by decide +kernel
theorem dX6_rising_3 : decode cX6_rising 3 = .ok (.istore 4, 2) := by decide +kernel
theorem dX6_rising_5 : decode cX6_rising 5 = .ok (.iload 4, 2) := by decide +kernel
theorem dX6_rising_7 : decode cX6_rising 7 = .ok (.bipush 64, 2) := by decide +kernel
theorem dX6_rising_9 : decode cX6_rising 9 = .ok (.if_icmp .ge 62, 3) := by decide +kernel
theorem dX6_rising_12 : decode cX6_rising 12 = .ok (.iconst 0, 1) := by decide +kernel
theorem dX6_rising_13 : decode cX6_rising 13 = .ok (.istore 5, 2) := by decide +kernel
theorem dX6_rising_15 : decode cX6_rising 15 = .ok (.iload 5, 2) := by decide +kernel
theorem dX6_rising_17 : decode cX6_rising 17 = .ok (.aload_n 0, 1) := by decide +kernel
theorem dX6_rising_18 : decode cX6_rising 18 = .ok (.getfield 7, 3) := by decide +kernel
theorem dX6_rising_21 : decode cX6_rising 21 = .ok (.aload_n 0, 1) := by decide +kernel
theorem dX6_rising_22 : decode cX6_rising 22 = .ok (.getfield 13, 3) := by decide +kernel
theorem dX6_rising_25 : decode cX6_rising 25 = .ok (.imul, 1) := by decide +kernel
theorem dX6_rising_26 : decode cX6_rising 26 = .ok (.if_icmp .ge 39, 3) := by decide +kernel
theorem dX6_rising_29 : decode cX6_rising 29 = .ok (.aload_n 0, 1) := by decide +kernel
theorem dX6_rising_30 : decode cX6_rising 30 = .ok (.getfield 16, 3) := by decide +kernel
theorem dX6_rising_33 : decode cX6_rising 33 = .ok (.bipush 36, 2) := by decide +kernel
theorem dX6_rising_35 : decode cX6_rising 35 = .ok (.iload_n 1, 1) := by decide +kernel
theorem dX6_rising_36 : decode cX6_rising 36 = .ok (.imul, 1) := by decide +kernel
theorem dX6_rising_37 : decode cX6_rising 37 = .ok (.iload 5, 2) := by decide +kernel
theorem dX6_rising_39 : decode cX6_rising 39 = .ok (.iadd, 1) := by decide +kernel
theorem dX6_rising_40 : decode cX6_rising 40 = .ok (.iaload, 1) := by decide +kernel
theorem dX6_rising_41 : decode cX6_rising 41 = .ok (.iload 4, 2) := by decide +kernel
theorem dX6_rising_43 : decode cX6_rising 43 = .ok (.if_icmp .eq 6, 3) := by decide +kernel
theorem dX6_rising_46 : decode cX6_rising 46 = .ok (.goto 13, 3) := by decide +kernel
theorem dX6_rising_49 : decode cX6_rising 49 = .ok (.iload_n 3, 1) := by decide +kernel
theorem dX6_rising_50 : decode cX6_rising 50 = .ok (.ifCond .ne 6, 3) := by decide +kernel
theorem dX6_rising_53 : decode cX6_rising 53 = .ok (.iload 4, 2) := by decide +kernel
theorem dX6_rising_55 : decode cX6_rising 55 = .ok (.ireturn, 1) := by decide +kernel
theorem dX6_rising_56 : decode cX6_rising 56 = .ok (.iinc 3 (-1), 3) := by decide +kernel
theorem dX6_rising_59 : decode cX6_rising 59 = .ok (.iinc 5 1, 3) := by decide +kernel
theorem dX6_rising_62 : decode cX6_rising 62 = .ok (.goto (-47), 3) := by decide +kernel
theorem dX6_rising_65 : decode cX6_rising 65 = .ok (.iinc 4 1, 3) := by decide +kernel
theorem dX6_rising_68 : decode cX6_rising 68 = .ok (.goto (-63), 3) := by decide +kernel
theorem dX6_rising_71 : decode cX6_rising 71 = .ok (.iconst (-1), 1) := by decide +kernel
theorem dX6_rising_72 : decode cX6_rising 72 = .ok (.ireturn, 1) := by decide +kernel
set_option maxRecDepth 20000 in
theorem ggX6_moved_X6_isSquare : GoodIn wsX6_moved wsX6_isSquare := goodIn_r _ [9, 10, 1, 11, 12, 8, 13, 14, 15, 16, 17, 18, 19, 20, 21, 22, 23, 24, 25, 26, 27, 28, 29, 30, 31, 32, 33, 34, 35, 36, 37, 38, 39, 40, 41, 42, 43, 44, 45, 46] (by decide +kernel) (by decide +kernel)
set_option maxRecDepth 20000 in
theorem gX6_moved_X6_isSquare : GoodIn wsX6_moved (wsV RX6 86 RX6 yX6_isSquare wsX6_isSquare) := goodIn_app (goodIn_of _ (by decide +kernel)) ggX6_moved_X6_isSquare
theorem dX6_moved_0 : decode cX6_moved 0 = .ok (.iload_n 2, 1) := by decide +kernel
theorem dX6_moved_1 : decode cX6_moved 1 = .ok (.aload_n 0, 1) := by decide +kernel
theorem dX6_moved_2 : decode cX6_moved 2 = .ok (.getfield 13, 3) := by decide +kernel
theorem dX6_moved_5 : decode cX6_moved 5 = .ok (.idiv, 1) := by decide +kernel
theorem dX6_moved_6 : decode cX6_moved 6 = .ok (.aload_n 0, 1) := by decide +kernel
theorem dX6_moved_7 : decode cX6_moved 7 = .ok (.getfield 29, 3) := by decide +kernel
theorem dX6_moved_10 : decode cX6_moved 10 = .ok (.iload_n 1, 1) := by decide +kernel
theorem dX6_moved_11 : decode cX6_moved 11 = .ok (.iaload, 1) := by decide +kernel
theorem dX6_moved_12 : decode cX6_moved 12 = .ok (.isub, 1) := by decide +kernel
theorem dX6_moved_13 : decode cX6_moved 13 = .ok (.istore_n 3, 1) := by decide +kernel
theorem dX6_moved_14 : decode cX6_moved 14 = .ok (.iload_n 2, 1) := by decide +kernel
theorem dX6_moved_15 : decode cX6_moved 15 = .ok (.aload_n 0, 1) := by decide +kernel
theorem dX6_moved_16 : decode cX6_moved 16 = .ok (.getfield 13, 3) := by decide +kernel
theorem dX6_moved_19 : decode cX6_moved 19 = .ok (.irem, 1) := by decide +kernel
theorem dX6_moved_20 : decode cX6_moved 20 = .ok (.aload_n 0, 1) := by decide +kernel
theorem dX6_moved_21 : decode cX6_moved 21 = .ok (.getfield 26, 3) := by decide +kernel
theorem dX6_moved_24 : decode cX6_moved 24 = .ok (.iload_n 1, 1) := by decide +kernel
theorem dX6_moved_25 : decode cX6_moved 25 = .ok (.iaload, 1) := by decide +kernel
theorem dX6_moved_26 : decode cX6_moved 26 = .ok (.isub, 1) := by decide +kernel
theorem dX6_moved_27 : decode cX6_moved 27 = .ok (.istore 4, 2) := by decide +kernel
theorem dX6_moved_29 : decode cX6_moved 29 = .ok (.aload_n 0, 1) := by decide +kernel
theorem dX6_moved_30 : decode cX6_moved 30 = .ok (.iload_n 3, 1) := by decide +kernel
theorem dX6_moved_31 : decode cX6_moved 31 = .ok (.iload 4, 2) := by decide +kernel
theorem dX6_moved_33 : decode cX6_moved 33 = .ok (.invokevirtual 86, 3) := by decide +kernel
theorem dX6_moved_36 : decode cX6_moved 36 = .ok (.ifCond .eq 20, 3) := by decide +kernel
theorem dX6_moved_39 : decode cX6_moved 39 = .ok (.aload_n 0, 1) := by decide +kernel
theorem dX6_moved_40 : decode cX6_moved 40 = .ok (.getfield 69, 3) := by decide +kernel
theorem dX6_moved_43 : decode cX6_moved 43 = .ok (.aload_n 0, 1) := by decide +kernel
theorem dX6_moved_44 : decode cX6_moved 44 = .ok (.getfield 13, 3) := by decide +kernel
theorem dX6_moved_47 : decode cX6_moved 47 = .ok (.iload_n 3, 1) := by decide +kernel
theorem dX6_moved_48 : decode cX6_moved 48 = .ok (.imul, 1) := by decide +kernel
theorem dX6_moved_49 : decode cX6_moved 49 = .ok (.iload 4, 2) := by decide +kernel
theorem dX6_moved_51 : decode cX6_moved 51 = .ok (.iadd, 1) := by decide +kernel
theorem dX6_moved_52 : decode cX6_moved 52 = .ok (.iaload, 1) := by decide +kernel
theorem dX6_moved_53 : decode cX6_moved 53 = .ok (.goto 4, 3) := by decide +kernel
theorem dX6_moved_56 : decode cX6_moved 56 = .ok (.iconst (-1), 1) := by decide +kernel
theorem dX6_moved_57 : decode cX6_moved 57 = .ok (.ireturn, 1) := by decide +kernel
set_option maxRecDepth 20000 in
theorem ggX6_goes_X6_cleaned : GoodIn wsX6_goes wsX6_cleaned := goodIn_r _ [12, 13, 14, 15, 16, 17, 11, 18, 43, 44, 45, 46, 47, 48, 49, 50, 51, 52, 53, 54, 55, 56, 57, 58, 59, 60, 61, 62, 63, 64, 65, 66, 67, 68, 69, 70, 71, 72, 73, 74, 75] (by decide +kernel) (by decide +kernel)
set_option maxRecDepth 20000 in
theorem gX6_goes_X6_cleaned : GoodIn wsX6_goes (wsV RX6 148 RX6 yX6_cleaned wsX6_cleaned) := goodIn_app (goodIn_of _ (by decide +kernel)) ggX6_goes_X6_cleaned
set_option maxRecDepth 20000 in
theorem ggX6_goes_X6_matched : GoodIn wsX6_goes wsX6_matched := goodIn_r _ [22, 2, 3, 4, 14, 23, 24, 25, 11, 26, 43, 44, 45, 46, 47, 48, 49, 50, 51, 52, 53, 54, 55, 56, 57, 58, 59, 60, 61, 62, 63, 64, 65, 66, 67, 68, 69, 70, 71, 72, 73, 74, 75] (by decide +kernel) (by decide +kernel)
set_option maxRecDepth 20000 in
theorem gX6_goes_X6_matched : GoodIn wsX6_goes (wsV RX6 157 RX6 yX6_matched wsX6_matched) := goodIn_app (goodIn_of _ (by decide +kernel)) ggX6_goes_X6_matched
set_option maxRecDepth 20000 in
theorem ggX6_goes_X6_filledFrom : GoodIn wsX6_goes wsX6_filledFrom := goodIn_r _ [30, 13, 14, 43, 44, 45, 46, 47, 48, 49, 50, 51, 52, 53, 54, 55, 56, 57, 58, 59, 60, 61, 62, 63, 64, 65, 66, 67, 68, 69, 70, 71, 72, 73, 74, 75] (by decide +kernel) (by decide +kernel)
set_option maxRecDepth 20000 in
theorem gX6_goes_X6_filledFrom : GoodIn wsX6_goes (wsV RX6 160 RX6 yX6_filledFrom wsX6_filledFrom) := goodIn_app (goodIn_of _ (by decide +kernel)) ggX6_goes_X6_filledFrom
set_option maxRecDepth 20000 in
theorem ggX6_goes_X6_moved : GoodIn wsX6_goes wsX6_moved := goodIn_r _ [34, 3, 35, 7, 4, 36, 37, 38, 11, 39, 2, 40, 41, 42, 43, 44, 45, 46, 47, 48, 49, 50, 51, 52, 53, 54, 55, 56, 57, 58, 59, 60, 61, 62, 63, 64, 65, 66, 67, 68, 69, 70, 71, 72, 73, 74, 75] (by decide +kernel) (by decide +kernel)
set_option maxRecDepth 20000 in
theorem gX6_goes_X6_moved : GoodIn wsX6_goes (wsV RX6 163 RX6 yX6_moved wsX6_moved) := goodIn_app (goodIn_of _ (by decide +kernel)) ggX6_goes_X6_moved
theorem dX6_goes_0 : decode cX6_goes 0 = .ok (.aload_n 0, 1) := by decide +kernel
theorem dX6_goes_1 : decode cX6_goes 1 = .ok (.getfield 23, 3) := by decide +kernel
theorem dX6_goes_4 : decode cX6_goes 4 = .ok (.iload_n 1, 1) := by decide +kernel
theorem dX6_goes_5 : decode cX6_goes 5 = .ok (.iaload, 1) := by decide +kernel
theorem dX6_goes_6 : decode cX6_goes 6 = .ok (.istore_n 2, 1) := by decide +kernel
theorem dX6_goes_7 : decode cX6_goes 7 = .ok (.iconst 0, 1) := by decide +kernel
theorem dX6_goes_8 : decode cX6_goes 8 = .ok (.istore_n 3, 1) := by decide +kernel
theorem dX6_goes_9 : decode cX6_goes 9 = .ok (.iconst 0, 1) := by decide +kernel
theorem dX6_goes_10 : decode cX6_goes 10 = .ok (.istore 4, 2) := by decide +kernel
theorem dX6_goes_12 : decode cX6_goes 12 = .ok (.iload 4, 2) := by decide +kernel
theorem dX6_goes_14 : decode cX6_goes 14 = .ok (.aload_n 0, 1) := by decide +kernel
theorem dX6_goes_15 : decode cX6_goes 15 = .ok (.getfield 7, 3) := by decide +kernel
theorem dX6_goes_18 : decode cX6_goes 18 = .ok (.aload_n 0, 1) := by decide +kernel
theorem dX6_goes_19 : decode cX6_goes 19 = .ok (.getfield 13, 3) := by decide +kernel
theorem dX6_goes_22 : decode cX6_goes 22 = .ok (.imul, 1) := by decide +kernel
theorem dX6_goes_23 : decode cX6_goes 23 = .ok (.if_icmp .ge 23, 3) := by decide +kernel
theorem dX6_goes_26 : decode cX6_goes 26 = .ok (.aload_n 0, 1) := by decide +kernel
theorem dX6_goes_27 : decode cX6_goes 27 = .ok (.getfield 69, 3) := by decide +kernel
theorem dX6_goes_30 : decode cX6_goes 30 = .ok (.iload 4, 2) := by decide +kernel
theorem dX6_goes_32 : decode cX6_goes 32 = .ok (.aload_n 0, 1) := by decide +kernel
theorem dX6_goes_33 : decode cX6_goes 33 = .ok (.getfield 66, 3) := by decide +kernel
theorem dX6_goes_36 : decode cX6_goes 36 = .ok (.iload 4, 2) := by decide +kernel
theorem dX6_goes_38 : decode cX6_goes 38 = .ok (.iaload, 1) := by decide +kernel
theorem dX6_goes_39 : decode cX6_goes 39 = .ok (.iastore, 1) := by decide +kernel
theorem dX6_goes_40 : decode cX6_goes 40 = .ok (.iinc 4 1, 3) := by decide +kernel
theorem dX6_goes_43 : decode cX6_goes 43 = .ok (.goto (-31), 3) := by decide +kernel
theorem dX6_goes_46 : decode cX6_goes 46 = .ok (.iconst 0, 1) := by decide +kernel
theorem dX6_goes_47 : decode cX6_goes 47 = .ok (.istore 4, 2) := by decide +kernel
theorem dX6_goes_49 : decode cX6_goes 49 = .ok (.iload 4, 2) := by decide +kernel
theorem dX6_goes_51 : decode cX6_goes 51 = .ok (.aload_n 0, 1) := by decide +kernel
theorem dX6_goes_52 : decode cX6_goes 52 = .ok (.getfield 7, 3) := by decide +kernel
theorem dX6_goes_55 : decode cX6_goes 55 = .ok (.aload_n 0, 1) := by decide +kernel
theorem dX6_goes_56 : decode cX6_goes 56 = .ok (.getfield 13, 3) := by decide +kernel
theorem dX6_goes_59 : decode cX6_goes 59 = .ok (.imul, 1) := by decide +kernel
theorem dX6_goes_60 : decode cX6_goes 60 = .ok (.if_icmp .ge 183, 3) := by decide +kernel
theorem dX6_goes_63 : decode cX6_goes 63 = .ok (.aload_n 0, 1) := by decide +kernel
theorem dX6_goes_64 : decode cX6_goes 64 = .ok (.getfield 69, 3) := by decide +kernel
theorem dX6_goes_67 : decode cX6_goes 67 = .ok (.iload 4, 2) := by decide +kernel
theorem dX6_goes_69 : decode cX6_goes 69 = .ok (.iaload, 1) := by decide +kernel
theorem dX6_goes_70 : decode cX6_goes 70 = .ok (.istore 5, 2) := by decide +kernel
theorem dX6_goes_72 : decode cX6_goes 72 = .ok (.aload_n 0, 1) := by decide +kernel
theorem dX6_goes_73 : decode cX6_goes 73 = .ok (.getfield 20, 3) := by decide +kernel
theorem dX6_goes_76 : decode cX6_goes 76 = .ok (.iload_n 1, 1) := by decide +kernel
theorem dX6_goes_77 : decode cX6_goes 77 = .ok (.iaload, 1) := by decide +kernel
theorem dX6_goes_78 : decode cX6_goes 78 = .ok (.ifCond .ne 34, 3) := by decide +kernel
theorem dX6_goes_81 : decode cX6_goes 81 = .ok (.aload_n 0, 1) := by decide +kernel
theorem dX6_goes_82 : decode cX6_goes 82 = .ok (.iload_n 2, 1) := by decide +kernel
theorem dX6_goes_83 : decode cX6_goes 83 = .ok (.iload 4, 2) := by decide +kernel
theorem dX6_goes_85 : decode cX6_goes 85 = .ok (.iload 5, 2) := by decide +kernel
theorem dX6_goes_87 : decode cX6_goes 87 = .ok (.invokevirtual 148, 3) := by decide +kernel
theorem dX6_goes_90 : decode cX6_goes 90 = .ok (.ifCond .lt 15, 3) := by decide +kernel
theorem dX6_goes_93 : decode cX6_goes 93 = .ok (.aload_n 0, 1) := by decide +kernel
theorem dX6_goes_94 : decode cX6_goes 94 = .ok (.iload_n 2, 1) := by decide +kernel
theorem dX6_goes_95 : decode cX6_goes 95 = .ok (.iload 4, 2) := by decide +kernel
theorem dX6_goes_97 : decode cX6_goes 97 = .ok (.iload 5, 2) := by decide +kernel
theorem dX6_goes_99 : decode cX6_goes 99 = .ok (.invokevirtual 148, 3) := by decide +kernel
theorem dX6_goes_102 : decode cX6_goes 102 = .ok (.goto 5, 3) := by decide +kernel
theorem dX6_goes_105 : decode cX6_goes 105 = .ok (.iload 5, 2) := by decide +kernel
theorem dX6_goes_107 : decode cX6_goes 107 = .ok (.istore 5, 2) := by decide +kernel
theorem dX6_goes_109 : decode cX6_goes 109 = .ok (.goto 99, 3) := by decide +kernel
theorem dX6_goes_112 : decode cX6_goes 112 = .ok (.aload_n 0, 1) := by decide +kernel
theorem dX6_goes_113 : decode cX6_goes 113 = .ok (.getfield 20, 3) := by decide +kernel
theorem dX6_goes_116 : decode cX6_goes 116 = .ok (.iload_n 1, 1) := by decide +kernel
theorem dX6_goes_117 : decode cX6_goes 117 = .ok (.iaload, 1) := by decide +kernel
theorem dX6_goes_118 : decode cX6_goes 118 = .ok (.iconst 1, 1) := by decide +kernel
theorem dX6_goes_119 : decode cX6_goes 119 = .ok (.if_icmp .ne 20, 3) := by decide +kernel
theorem dX6_goes_122 : decode cX6_goes 122 = .ok (.aload_n 0, 1) := by decide +kernel
theorem dX6_goes_123 : decode cX6_goes 123 = .ok (.aload_n 0, 1) := by decide +kernel
theorem dX6_goes_124 : decode cX6_goes 124 = .ok (.getfield 26, 3) := by decide +kernel
theorem dX6_goes_127 : decode cX6_goes 127 = .ok (.iload_n 1, 1) := by decide +kernel
theorem dX6_goes_128 : decode cX6_goes 128 = .ok (.iaload, 1) := by decide +kernel
theorem dX6_goes_129 : decode cX6_goes 129 = .ok (.iload 5, 2) := by decide +kernel
theorem dX6_goes_131 : decode cX6_goes 131 = .ok (.invokevirtual 157, 3) := by decide +kernel
theorem dX6_goes_134 : decode cX6_goes 134 = .ok (.istore 5, 2) := by decide +kernel
theorem dX6_goes_136 : decode cX6_goes 136 = .ok (.goto 72, 3) := by decide +kernel
theorem dX6_goes_139 : decode cX6_goes 139 = .ok (.aload_n 0, 1) := by decide +kernel
theorem dX6_goes_140 : decode cX6_goes 140 = .ok (.getfield 20, 3) := by decide +kernel
theorem dX6_goes_143 : decode cX6_goes 143 = .ok (.iload_n 1, 1) := by decide +kernel
theorem dX6_goes_144 : decode cX6_goes 144 = .ok (.iaload, 1) := by decide +kernel
theorem dX6_goes_145 : decode cX6_goes 145 = .ok (.iconst 2, 1) := by decide +kernel
theorem dX6_goes_146 : decode cX6_goes 146 = .ok (.if_icmp .ne 53, 3) := by decide +kernel
theorem dX6_goes_149 : decode cX6_goes 149 = .ok (.iload 5, 2) := by decide +kernel
theorem dX6_goes_151 : decode cX6_goes 151 = .ok (.iconst (-1), 1) := by decide +kernel
theorem dX6_goes_152 : decode cX6_goes 152 = .ok (.if_icmp .eq 8, 3) := by decide +kernel
theorem dX6_goes_155 : decode cX6_goes 155 = .ok (.iload 5, 2) := by decide +kernel
theorem dX6_goes_157 : decode cX6_goes 157 = .ok (.goto 37, 3) := by decide +kernel
theorem dX6_goes_160 : decode cX6_goes 160 = .ok (.aload_n 0, 1) := by decide +kernel
theorem dX6_goes_161 : decode cX6_goes 161 = .ok (.iload_n 2, 1) := by decide +kernel
theorem dX6_goes_162 : decode cX6_goes 162 = .ok (.iconst 1, 1) := by decide +kernel
theorem dX6_goes_163 : decode cX6_goes 163 = .ok (.isub, 1) := by decide +kernel
theorem dX6_goes_164 : decode cX6_goes 164 = .ok (.iload 4, 2) := by decide +kernel
theorem dX6_goes_166 : decode cX6_goes 166 = .ok (.invokevirtual 160, 3) := by decide +kernel
theorem dX6_goes_169 : decode cX6_goes 169 = .ok (.iconst (-1), 1) := by decide +kernel
theorem dX6_goes_170 : decode cX6_goes 170 = .ok (.if_icmp .eq 15, 3) := by decide +kernel
theorem dX6_goes_173 : decode cX6_goes 173 = .ok (.aload_n 0, 1) := by decide +kernel
theorem dX6_goes_174 : decode cX6_goes 174 = .ok (.iload_n 2, 1) := by decide +kernel
theorem dX6_goes_175 : decode cX6_goes 175 = .ok (.iconst 1, 1) := by decide +kernel
theorem dX6_goes_176 : decode cX6_goes 176 = .ok (.isub, 1) := by decide +kernel
theorem dX6_goes_177 : decode cX6_goes 177 = .ok (.iload 4, 2) := by decide +kernel
theorem dX6_goes_179 : decode cX6_goes 179 = .ok (.invokevirtual 160, 3) := by decide +kernel
theorem dX6_goes_182 : decode cX6_goes 182 = .ok (.goto 12, 3) := by decide +kernel
theorem dX6_goes_185 : decode cX6_goes 185 = .ok (.aload_n 0, 1) := by decide +kernel
theorem dX6_goes_186 : decode cX6_goes 186 = .ok (.iload_n 2, 1) := by decide +kernel
theorem dX6_goes_187 : decode cX6_goes 187 = .ok (.iconst 1, 1) := by decide +kernel
theorem dX6_goes_188 : decode cX6_goes 188 = .ok (.iadd, 1) := by decide +kernel
theorem dX6_goes_189 : decode cX6_goes 189 = .ok (.iload 4, 2) := by decide +kernel
theorem dX6_goes_191 : decode cX6_goes 191 = .ok (.invokevirtual 160, 3) := by decide +kernel
theorem dX6_goes_194 : decode cX6_goes 194 = .ok (.istore 5, 2) := by decide +kernel
theorem dX6_goes_196 : decode cX6_goes 196 = .ok (.goto 12, 3) := by decide +kernel
theorem dX6_goes_199 : decode cX6_goes 199 = .ok (.aload_n 0, 1) := by decide +kernel
theorem dX6_goes_200 : decode cX6_goes 200 = .ok (.iload_n 1, 1) := by decide +kernel
theorem dX6_goes_201 : decode cX6_goes 201 = .ok (.iload 4, 2) := by decide +kernel
theorem dX6_goes_203 : decode cX6_goes 203 = .ok (.invokevirtual 163, 3) := by decide +kernel
theorem dX6_goes_206 : decode cX6_goes 206 = .ok (.istore 5, 2) := by decide +kernel
theorem dX6_goes_208 : decode cX6_goes 208 = .ok (.aload_n 0, 1) := by decide +kernel
theorem dX6_goes_209 : decode cX6_goes 209 = .ok (.getfield 66, 3) := by decide +kernel
theorem dX6_goes_212 : decode cX6_goes 212 = .ok (.iload 4, 2) := by decide +kernel
theorem dX6_goes_214 : decode cX6_goes 214 = .ok (.iload 5, 2) := by decide +kernel
theorem dX6_goes_216 : decode cX6_goes 216 = .ok (.iastore, 1) := by decide +kernel
theorem dX6_goes_217 : decode cX6_goes 217 = .ok (.iload_n 3, 1) := by decide +kernel
theorem dX6_goes_218 : decode cX6_goes 218 = .ok (.iload 5, 2) := by decide +kernel
theorem dX6_goes_220 : decode cX6_goes 220 = .ok (.aload_n 0, 1) := by decide +kernel
theorem dX6_goes_221 : decode cX6_goes 221 = .ok (.getfield 69, 3) := by decide +kernel
theorem dX6_goes_224 : decode cX6_goes 224 = .ok (.iload 4, 2) := by decide +kernel
theorem dX6_goes_226 : decode cX6_goes 226 = .ok (.iaload, 1) := by decide +kernel
theorem dX6_goes_227 : decode cX6_goes 227 = .ok (.if_icmp .eq 7, 3) := by decide +kernel
theorem dX6_goes_230 : decode cX6_goes 230 = .ok (.iconst 1, 1) := by decide +kernel
theorem dX6_goes_231 : decode cX6_goes 231 = .ok (.goto 4, 3) := by decide +kernel
theorem dX6_goes_234 : decode cX6_goes 234 = .ok (.iconst 0, 1) := by decide +kernel
theorem dX6_goes_235 : decode cX6_goes 235 = .ok (.iadd, 1) := by decide +kernel
theorem dX6_goes_236 : decode cX6_goes 236 = .ok (.istore_n 3, 1) := by decide +kernel
theorem dX6_goes_237 : decode cX6_goes 237 = .ok (.iinc 4 1, 3) := by decide +kernel
theorem dX6_goes_240 : decode cX6_goes 240 = .ok (.goto (-191), 3) := by decide +kernel
theorem dX6_goes_243 : decode cX6_goes 243 = .ok (.iload_n 3, 1) := by decide +kernel
theorem dX6_goes_244 : decode cX6_goes 244 = .ok (.ireturn, 1) := by decide +kernel
set_option maxRecDepth 20000 in
theorem ggX6_makes_X6_goes : GoodIn wsX6_makes wsX6_goes := goodIn_r _ [12, 6, 1, 2, 13, 3, 14, 15, 16, 17, 18, 11, 19, 20, 4, 21, 22, 23, 24, 25, 26, 27, 28, 29, 30, 31, 32, 33, 34, 35, 36, 37, 38, 39, 40, 41, 42, 43, 44, 45, 46, 47, 48, 49, 50, 51, 52, 53, 54, 55, 56, 57, 58, 59, 60, 61, 62, 63, 64, 65, 66, 67, 68, 69, 70, 71, 72, 73, 74, 75, 76, 77, 78, 79, 80, 81] (by decide +kernel) (by decide +kernel)
set_option maxRecDepth 20000 in
theorem gX6_makes_X6_goes : GoodIn wsX6_makes (wsV RX6 166 RX6 yX6_goes wsX6_goes) := goodIn_app (goodIn_of _ (by decide +kernel)) ggX6_makes_X6_goes
theorem dX6_makes_0 : decode cX6_makes 0 = .ok (.iconst 0, 1) := by decide +kernel
theorem dX6_makes_1 : decode cX6_makes 1 = .ok (.istore_n 3, 1) := by decide +kernel
theorem dX6_makes_2 : decode cX6_makes 2 = .ok (.iconst 0, 1) := by decide +kernel
theorem dX6_makes_3 : decode cX6_makes 3 = .ok (.istore 4, 2) := by decide +kernel
theorem dX6_makes_5 : decode cX6_makes 5 = .ok (.iload 4, 2) := by decide +kernel
theorem dX6_makes_7 : decode cX6_makes 7 = .ok (.aload_n 0, 1) := by decide +kernel
theorem dX6_makes_8 : decode cX6_makes 8 = .ok (.getfield 7, 3) := by decide +kernel
theorem dX6_makes_11 : decode cX6_makes 11 = .ok (.aload_n 0, 1) := by decide +kernel
theorem dX6_makes_12 : decode cX6_makes 12 = .ok (.getfield 13, 3) := by decide +kernel
theorem dX6_makes_15 : decode cX6_makes 15 = .ok (.imul, 1) := by decide +kernel
theorem dX6_makes_16 : decode cX6_makes 16 = .ok (.if_icmp .ge 28, 3) := by decide +kernel
theorem dX6_makes_19 : decode cX6_makes 19 = .ok (.aload_n 0, 1) := by decide +kernel
theorem dX6_makes_20 : decode cX6_makes 20 = .ok (.getfield 66, 3) := by decide +kernel
theorem dX6_makes_23 : decode cX6_makes 23 = .ok (.iload 4, 2) := by decide +kernel
theorem dX6_makes_25 : decode cX6_makes 25 = .ok (.aload_n 0, 1) := by decide +kernel
theorem dX6_makes_26 : decode cX6_makes 26 = .ok (.getfield 16, 3) := by decide +kernel
theorem dX6_makes_29 : decode cX6_makes 29 = .ok (.bipush 36, 2) := by decide +kernel
theorem dX6_makes_31 : decode cX6_makes 31 = .ok (.iload_n 1, 1) := by decide +kernel
theorem dX6_makes_32 : decode cX6_makes 32 = .ok (.imul, 1) := by decide +kernel
theorem dX6_makes_33 : decode cX6_makes 33 = .ok (.iload 4, 2) := by decide +kernel
theorem dX6_makes_35 : decode cX6_makes 35 = .ok (.iadd, 1) := by decide +kernel
theorem dX6_makes_36 : decode cX6_makes 36 = .ok (.iaload, 1) := by decide +kernel
theorem dX6_makes_37 : decode cX6_makes 37 = .ok (.iastore, 1) := by decide +kernel
theorem dX6_makes_38 : decode cX6_makes 38 = .ok (.iinc 4 1, 3) := by decide +kernel
theorem dX6_makes_41 : decode cX6_makes 41 = .ok (.goto (-36), 3) := by decide +kernel
theorem dX6_makes_44 : decode cX6_makes 44 = .ok (.iconst 0, 1) := by decide +kernel
theorem dX6_makes_45 : decode cX6_makes 45 = .ok (.istore 4, 2) := by decide +kernel
theorem dX6_makes_47 : decode cX6_makes 47 = .ok (.iload 4, 2) := by decide +kernel
theorem dX6_makes_49 : decode cX6_makes 49 = .ok (.aload_n 0, 1) := by decide +kernel
theorem dX6_makes_50 : decode cX6_makes 50 = .ok (.getfield 79, 3) := by decide +kernel
theorem dX6_makes_53 : decode cX6_makes 53 = .ok (.if_icmp .ge 51, 3) := by decide +kernel
theorem dX6_makes_56 : decode cX6_makes 56 = .ok (.aload_n 0, 1) := by decide +kernel
theorem dX6_makes_57 : decode cX6_makes 57 = .ok (.getfield 23, 3) := by decide +kernel
theorem dX6_makes_60 : decode cX6_makes 60 = .ok (.iload 4, 2) := by decide +kernel
theorem dX6_makes_62 : decode cX6_makes 62 = .ok (.iaload, 1) := by decide +kernel
theorem dX6_makes_63 : decode cX6_makes 63 = .ok (.iload_n 1, 1) := by decide +kernel
theorem dX6_makes_64 : decode cX6_makes 64 = .ok (.if_icmp .ne 34, 3) := by decide +kernel
theorem dX6_makes_67 : decode cX6_makes 67 = .ok (.aload_n 0, 1) := by decide +kernel
theorem dX6_makes_68 : decode cX6_makes 68 = .ok (.getfield 32, 3) := by decide +kernel
theorem dX6_makes_71 : decode cX6_makes 71 = .ok (.iload 4, 2) := by decide +kernel
theorem dX6_makes_73 : decode cX6_makes 73 = .ok (.baload, 1) := by decide +kernel
theorem dX6_makes_74 : decode cX6_makes 74 = .ok (.ifCond .eq 24, 3) := by decide +kernel
theorem dX6_makes_77 : decode cX6_makes 77 = .ok (.aload_n 0, 1) := by decide +kernel
theorem dX6_makes_78 : decode cX6_makes 78 = .ok (.iload 4, 2) := by decide +kernel
theorem dX6_makes_80 : decode cX6_makes 80 = .ok (.invokevirtual 166, 3) := by decide +kernel
theorem dX6_makes_83 : decode cX6_makes 83 = .ok (.istore 5, 2) := by decide +kernel
theorem dX6_makes_85 : decode cX6_makes 85 = .ok (.iload 4, 2) := by decide +kernel
theorem dX6_makes_87 : decode cX6_makes 87 = .ok (.iload_n 2, 1) := by decide +kernel
theorem dX6_makes_88 : decode cX6_makes 88 = .ok (.if_icmp .ne 8, 3) := by decide +kernel
theorem dX6_makes_91 : decode cX6_makes 91 = .ok (.iload 5, 2) := by decide +kernel
theorem dX6_makes_93 : decode cX6_makes 93 = .ok (.goto 4, 3) := by decide +kernel
theorem dX6_makes_96 : decode cX6_makes 96 = .ok (.iload_n 3, 1) := by decide +kernel
theorem dX6_makes_97 : decode cX6_makes 97 = .ok (.istore_n 3, 1) := by decide +kernel
theorem dX6_makes_98 : decode cX6_makes 98 = .ok (.iinc 4 1, 3) := by decide +kernel
theorem dX6_makes_101 : decode cX6_makes 101 = .ok (.goto (-54), 3) := by decide +kernel
theorem dX6_makes_104 : decode cX6_makes 104 = .ok (.iload_n 3, 1) := by decide +kernel
theorem dX6_makes_105 : decode cX6_makes 105 = .ok (.ireturn, 1) := by decide +kernel
set_option maxRecDepth 20000 in
theorem ggX6_made_X6_isFrame : GoodIn wsX6_made wsX6_isFrame := goodIn_r _ [7, 8, 9, 10, 6, 11, 57, 58, 59, 60, 61, 62, 63, 64, 65, 66, 67, 68, 69, 70, 71, 72, 73, 74, 75, 76, 77, 78, 79, 80, 81, 82, 83, 84, 85, 86, 87, 88, 89] (by decide +kernel) (by decide +kernel)
set_option maxRecDepth 20000 in
theorem gX6_made_X6_isFrame : GoodIn wsX6_made (wsV RX6 82 RX6 yX6_isFrame wsX6_isFrame) := goodIn_app (goodIn_of _ (by decide +kernel)) ggX6_made_X6_isFrame
set_option maxRecDepth 20000 in
theorem ggX6_made_X6_isSquare : GoodIn wsX6_made wsX6_isSquare := goodIn_r _ [15, 16, 2, 9, 10, 6, 11, 57, 58, 59, 60, 61, 62, 63, 64, 65, 66, 67, 68, 69, 70, 71, 72, 73, 74, 75, 76, 77, 78, 79, 80, 81, 82, 83, 84, 85, 86, 87, 88, 89] (by decide +kernel) (by decide +kernel)
set_option maxRecDepth 20000 in
theorem gX6_made_X6_isSquare : GoodIn wsX6_made (wsV RX6 86 RX6 yX6_isSquare wsX6_isSquare) := goodIn_app (goodIn_of _ (by decide +kernel)) ggX6_made_X6_isSquare
set_option maxRecDepth 20000 in
theorem ggX6_made_X6_makes : GoodIn wsX6_made wsX6_makes := goodIn_r _ [20, 16, 2, 1, 21, 22, 23, 24, 25, 26, 27, 6, 28, 29, 30, 31, 32, 33, 34, 35, 8, 36, 37, 38, 39, 40, 41, 42, 43, 44, 45, 46, 47, 48, 49, 50, 51, 52, 53, 54, 55, 56, 12, 13, 14, 15, 9, 10, 11, 57, 58, 59, 60, 61, 62, 63, 64, 65, 66, 67, 68, 69, 70, 71, 72, 73, 74, 75, 76, 77, 78, 79, 80, 81, 82, 83, 84, 85, 86, 87, 88, 89] (by decide +kernel) (by decide +kernel)
set_option maxRecDepth 20000 in
theorem gX6_made_X6_makes : GoodIn wsX6_made (wsV RX6 169 RX6 yX6_makes wsX6_makes) := goodIn_app (goodIn_of _ (by decide +kernel)) ggX6_made_X6_makes
theorem dX6_made_0 : decode cX6_made 0 = .ok (.aload_n 0, 1) := by decide +kernel
theorem dX6_made_1 : decode cX6_made 1 = .ok (.iload_n 1, 1) := by decide +kernel
theorem dX6_made_2 : decode cX6_made 2 = .ok (.invokevirtual 82, 3) := by decide +kernel
theorem dX6_made_5 : decode cX6_made 5 = .ok (.ifCond .eq 12, 3) := by decide +kernel
theorem dX6_made_8 : decode cX6_made 8 = .ok (.aload_n 0, 1) := by decide +kernel
theorem dX6_made_9 : decode cX6_made 9 = .ok (.iload_n 2, 1) := by decide +kernel
theorem dX6_made_10 : decode cX6_made 10 = .ok (.iload_n 3, 1) := by decide +kernel
theorem dX6_made_11 : decode cX6_made 11 = .ok (.invokevirtual 86, 3) := by decide +kernel
theorem dX6_made_14 : decode cX6_made 14 = .ok (.ifCond .ne 7, 3) := by decide +kernel
theorem dX6_made_17 : decode cX6_made 17 = .ok (.sipush (-1000), 3) := by decide +kernel
theorem dX6_made_20 : decode cX6_made 20 = .ok (.ireturn, 1) := by decide +kernel
theorem dX6_made_21 : decode cX6_made 21 = .ok (.aload_n 0, 1) := by decide +kernel
theorem dX6_made_22 : decode cX6_made 22 = .ok (.iload_n 1, 1) := by decide +kernel
theorem dX6_made_23 : decode cX6_made 23 = .ok (.iconst (-1), 1) := by decide +kernel
theorem dX6_made_24 : decode cX6_made 24 = .ok (.invokevirtual 169, 3) := by decide +kernel
theorem dX6_made_27 : decode cX6_made 27 = .ok (.istore 4, 2) := by decide +kernel
theorem dX6_made_29 : decode cX6_made 29 = .ok (.aload_n 0, 1) := by decide +kernel
theorem dX6_made_30 : decode cX6_made 30 = .ok (.getfield 66, 3) := by decide +kernel
theorem dX6_made_33 : decode cX6_made 33 = .ok (.aload_n 0, 1) := by decide +kernel
theorem dX6_made_34 : decode cX6_made 34 = .ok (.getfield 13, 3) := by decide +kernel
theorem dX6_made_37 : decode cX6_made 37 = .ok (.iload_n 2, 1) := by decide +kernel
theorem dX6_made_38 : decode cX6_made 38 = .ok (.imul, 1) := by decide +kernel
theorem dX6_made_39 : decode cX6_made 39 = .ok (.iload_n 3, 1) := by decide +kernel
theorem dX6_made_40 : decode cX6_made 40 = .ok (.iadd, 1) := by decide +kernel
theorem dX6_made_41 : decode cX6_made 41 = .ok (.iaload, 1) := by decide +kernel
theorem dX6_made_42 : decode cX6_made 42 = .ok (.ireturn, 1) := by decide +kernel
set_option maxRecDepth 20000 in
theorem ggX6_changed_X6_isLayer : GoodIn wsX6_changed wsX6_isLayer := goodIn_r _ [6, 7, 8, 9, 5, 10, 57, 58, 59, 60, 61, 62, 63, 64, 65, 66, 67, 68, 69, 70, 71, 72, 73, 74, 75, 76, 77, 78, 79, 80, 81, 82, 83, 84, 85, 86, 87, 88, 89] (by decide +kernel) (by decide +kernel)
set_option maxRecDepth 20000 in
theorem gX6_changed_X6_isLayer : GoodIn wsX6_changed (wsV RX6 151 RX6 yX6_isLayer wsX6_isLayer) := goodIn_app (goodIn_of _ (by decide +kernel)) ggX6_changed_X6_isLayer
set_option maxRecDepth 20000 in
theorem ggX6_changed_X6_makes : GoodIn wsX6_changed wsX6_makes := goodIn_r _ [14, 15, 16, 17, 18, 7, 1, 19, 20, 21, 22, 5, 23, 24, 25, 26, 27, 28, 29, 30, 31, 32, 33, 34, 35, 36, 37, 38, 39, 40, 41, 42, 43, 44, 45, 46, 47, 48, 49, 50, 51, 52, 53, 54, 55, 56, 8, 9, 10, 57, 58, 59, 60, 61, 62, 63, 64, 65, 66, 67, 68, 69, 70, 71, 72, 73, 74, 75, 76, 77, 78, 79, 80, 81, 82, 83, 84, 85, 86, 87, 88, 89] (by decide +kernel) (by decide +kernel)
set_option maxRecDepth 20000 in
theorem gX6_changed_X6_makes : GoodIn wsX6_changed (wsV RX6 169 RX6 yX6_makes wsX6_makes) := goodIn_app (goodIn_of _ (by decide +kernel)) ggX6_changed_X6_makes
theorem dX6_changed_0 : decode cX6_changed 0 = .ok (.aload_n 0, 1) := by decide +kernel
theorem dX6_changed_1 : decode cX6_changed 1 = .ok (.iload_n 1, 1) := by decide +kernel
theorem dX6_changed_2 : decode cX6_changed 2 = .ok (.invokevirtual 151, 3) := by decide +kernel
theorem dX6_changed_5 : decode cX6_changed 5 = .ok (.ifCond .eq 17, 3) := by decide +kernel
theorem dX6_changed_8 : decode cX6_changed 8 = .ok (.aload_n 0, 1) := by decide +kernel
theorem dX6_changed_9 : decode cX6_changed 9 = .ok (.aload_n 0, 1) := by decide +kernel
theorem dX6_changed_10 : decode cX6_changed 10 = .ok (.getfield 23, 3) := by decide +kernel
theorem dX6_changed_13 : decode cX6_changed 13 = .ok (.iload_n 1, 1) := by decide +kernel
theorem dX6_changed_14 : decode cX6_changed 14 = .ok (.iaload, 1) := by decide +kernel
theorem dX6_changed_15 : decode cX6_changed 15 = .ok (.iload_n 1, 1) := by decide +kernel
theorem dX6_changed_16 : decode cX6_changed 16 = .ok (.invokevirtual 169, 3) := by decide +kernel
theorem dX6_changed_19 : decode cX6_changed 19 = .ok (.goto 4, 3) := by decide +kernel
theorem dX6_changed_22 : decode cX6_changed 22 = .ok (.iconst (-1), 1) := by decide +kernel
theorem dX6_changed_23 : decode cX6_changed 23 = .ok (.ireturn, 1) := by decide +kernel
set_option maxRecDepth 20000 in
theorem ggX6_of_X6_isLayer : GoodIn wsX6_of wsX6_isLayer := goodIn_r _ [10, 11, 12, 13, 9, 14, 15, 16, 17, 18, 19, 20, 21, 22, 23, 24, 25, 26, 27, 28, 29, 30, 31, 32, 33, 34, 35, 36, 37, 38, 39, 40, 41, 42, 43, 44, 45, 46, 47] (by decide +kernel) (by decide +kernel)
set_option maxRecDepth 20000 in
theorem gX6_of_X6_isLayer : GoodIn wsX6_of (wsV RX6 151 RX6 yX6_isLayer wsX6_isLayer) := goodIn_app (goodIn_of _ (by decide +kernel)) ggX6_of_X6_isLayer
theorem dX6_of_0 : decode cX6_of 0 = .ok (.aload_n 0, 1) := by decide +kernel
theorem dX6_of_1 : decode cX6_of 1 = .ok (.iload_n 1, 1) := by decide +kernel
theorem dX6_of_2 : decode cX6_of 2 = .ok (.invokevirtual 151, 3) := by decide +kernel
theorem dX6_of_5 : decode cX6_of 5 = .ok (.ifCond .ne 7, 3) := by decide +kernel
theorem dX6_of_8 : decode cX6_of 8 = .ok (.sipush (-1000), 3) := by decide +kernel
theorem dX6_of_11 : decode cX6_of 11 = .ok (.ireturn, 1) := by decide +kernel
theorem dX6_of_12 : decode cX6_of 12 = .ok (.iload_n 2, 1) := by decide +kernel
theorem dX6_of_13 : decode cX6_of 13 = .ok (.tableswitch 78 0 4 #[35, 42, 49, 56, 63], 35) := by decide +kernel
theorem dX6_of_48 : decode cX6_of 48 = .ok (.aload_n 0, 1) := by decide +kernel
theorem dX6_of_49 : decode cX6_of 49 = .ok (.getfield 20, 3) := by decide +kernel
theorem dX6_of_52 : decode cX6_of 52 = .ok (.iload_n 1, 1) := by decide +kernel
theorem dX6_of_53 : decode cX6_of 53 = .ok (.iaload, 1) := by decide +kernel
theorem dX6_of_54 : decode cX6_of 54 = .ok (.ireturn, 1) := by decide +kernel
theorem dX6_of_55 : decode cX6_of 55 = .ok (.aload_n 0, 1) := by decide +kernel
theorem dX6_of_56 : decode cX6_of 56 = .ok (.getfield 23, 3) := by decide +kernel
theorem dX6_of_59 : decode cX6_of 59 = .ok (.iload_n 1, 1) := by decide +kernel
theorem dX6_of_60 : decode cX6_of 60 = .ok (.iaload, 1) := by decide +kernel
theorem dX6_of_61 : decode cX6_of 61 = .ok (.ireturn, 1) := by decide +kernel
theorem dX6_of_62 : decode cX6_of 62 = .ok (.aload_n 0, 1) := by decide +kernel
theorem dX6_of_63 : decode cX6_of 63 = .ok (.getfield 26, 3) := by decide +kernel
theorem dX6_of_66 : decode cX6_of 66 = .ok (.iload_n 1, 1) := by decide +kernel
theorem dX6_of_67 : decode cX6_of 67 = .ok (.iaload, 1) := by decide +kernel
theorem dX6_of_68 : decode cX6_of 68 = .ok (.ireturn, 1) := by decide +kernel
theorem dX6_of_69 : decode cX6_of 69 = .ok (.aload_n 0, 1) := by decide +kernel
theorem dX6_of_70 : decode cX6_of 70 = .ok (.getfield 29, 3) := by decide +kernel
theorem dX6_of_73 : decode cX6_of 73 = .ok (.iload_n 1, 1) := by decide +kernel
theorem dX6_of_74 : decode cX6_of 74 = .ok (.iaload, 1) := by decide +kernel
theorem dX6_of_75 : decode cX6_of 75 = .ok (.ireturn, 1) := by decide +kernel
theorem dX6_of_76 : decode cX6_of 76 = .ok (.aload_n 0, 1) := by decide +kernel
theorem dX6_of_77 : decode cX6_of 77 = .ok (.getfield 32, 3) := by decide +kernel
theorem dX6_of_80 : decode cX6_of 80 = .ok (.iload_n 1, 1) := by decide +kernel
theorem dX6_of_81 : decode cX6_of 81 = .ok (.baload, 1) := by decide +kernel
theorem dX6_of_82 : decode cX6_of 82 = .ok (.ifCond .eq 7, 3) := by decide +kernel
theorem dX6_of_85 : decode cX6_of 85 = .ok (.iconst 1, 1) := by decide +kernel
theorem dX6_of_86 : decode cX6_of 86 = .ok (.goto 4, 3) := by decide +kernel
theorem dX6_of_89 : decode cX6_of 89 = .ok (.iconst 0, 1) := by decide +kernel
theorem dX6_of_90 : decode cX6_of 90 = .ok (.ireturn, 1) := by decide +kernel
theorem dX6_of_91 : decode cX6_of 91 = .ok (.sipush (-1000), 3) := by decide +kernel
theorem dX6_of_94 : decode cX6_of 94 = .ok (.ireturn, 1) := by decide +kernel
set_option maxRecDepth 20000 in
theorem ggX6_told_X6_isFrame : GoodIn wsX6_told wsX6_isFrame := goodIn_r _ [9, 10, 11, 12, 8, 13, 57, 58, 59, 60, 61, 62, 63, 64, 65, 66, 67, 68, 69, 70, 71, 72, 73, 74, 75, 76, 77, 78, 79, 80, 81, 82, 83, 84, 85, 86, 87, 88, 89] (by decide +kernel) (by decide +kernel)
set_option maxRecDepth 20000 in
theorem gX6_told_X6_isFrame : GoodIn wsX6_told (wsV RX6 82 RX6 yX6_isFrame wsX6_isFrame) := goodIn_app (goodIn_of _ (by decide +kernel)) ggX6_told_X6_isFrame
set_option maxRecDepth 20000 in
theorem ggX6_told_X6_in : GoodIn wsX6_told wsX6_in := goodIn_r _ [13] (by decide +kernel) (by decide +kernel)
set_option maxRecDepth 20000 in
theorem gX6_told_X6_in : GoodIn wsX6_told (va_wsS RX6 75 yX6_in wsX6_in) := goodIn_app (goodIn_of _ (by decide +kernel)) ggX6_told_X6_in
set_option maxRecDepth 20000 in
theorem ggX6_told_X6_makes : GoodIn wsX6_told wsX6_makes := goodIn_r _ [17, 1, 2, 3, 4, 18, 19, 20, 21, 22, 23, 8, 24, 25, 26, 27, 28, 29, 30, 31, 10, 32, 33, 34, 35, 36, 37, 38, 39, 40, 41, 42, 43, 44, 45, 46, 47, 48, 49, 50, 51, 52, 53, 54, 55, 56, 11, 12, 13, 57, 58, 59, 60, 61, 62, 63, 64, 65, 66, 67, 68, 69, 70, 71, 72, 73, 74, 75, 76, 77, 78, 79, 80, 81, 82, 83, 84, 85, 86, 87, 88, 89] (by decide +kernel) (by decide +kernel)
set_option maxRecDepth 20000 in
theorem gX6_told_X6_makes : GoodIn wsX6_told (wsV RX6 169 RX6 yX6_makes wsX6_makes) := goodIn_app (goodIn_of _ (by decide +kernel)) ggX6_told_X6_makes
theorem dX6_told_0 : decode cX6_told 0 = .ok (.aload_n 0, 1) := by decide +kernel
theorem dX6_told_1 : decode cX6_told 1 = .ok (.iload_n 1, 1) := by decide +kernel
theorem dX6_told_2 : decode cX6_told 2 = .ok (.invokevirtual 82, 3) := by decide +kernel
theorem dX6_told_5 : decode cX6_told 5 = .ok (.ifCond .eq 12, 3) := by decide +kernel
theorem dX6_told_8 : decode cX6_told 8 = .ok (.iload_n 2, 1) := by decide +kernel
theorem dX6_told_9 : decode cX6_told 9 = .ok (.iconst 0, 1) := by decide +kernel
theorem dX6_told_10 : decode cX6_told 10 = .ok (.iconst 4, 1) := by decide +kernel
theorem dX6_told_11 : decode cX6_told 11 = .ok (.invokestatic 75, 3) := by decide +kernel
theorem dX6_told_14 : decode cX6_told 14 = .ok (.ifCond .ne 5, 3) := by decide +kernel
theorem dX6_told_17 : decode cX6_told 17 = .ok (.iconst (-1), 1) := by decide +kernel
theorem dX6_told_18 : decode cX6_told 18 = .ok (.ireturn, 1) := by decide +kernel
theorem dX6_told_19 : decode cX6_told 19 = .ok (.aload_n 0, 1) := by decide +kernel
theorem dX6_told_20 : decode cX6_told 20 = .ok (.iload_n 1, 1) := by decide +kernel
theorem dX6_told_21 : decode cX6_told 21 = .ok (.iconst (-1), 1) := by decide +kernel
theorem dX6_told_22 : decode cX6_told 22 = .ok (.invokevirtual 169, 3) := by decide +kernel
theorem dX6_told_25 : decode cX6_told 25 = .ok (.istore_n 3, 1) := by decide +kernel
theorem dX6_told_26 : decode cX6_told 26 = .ok (.iconst 0, 1) := by decide +kernel
theorem dX6_told_27 : decode cX6_told 27 = .ok (.istore 4, 2) := by decide +kernel
theorem dX6_told_29 : decode cX6_told 29 = .ok (.iconst 0, 1) := by decide +kernel
theorem dX6_told_30 : decode cX6_told 30 = .ok (.istore 5, 2) := by decide +kernel
theorem dX6_told_32 : decode cX6_told 32 = .ok (.bipush 64, 2) := by decide +kernel
theorem dX6_told_34 : decode cX6_told 34 = .ok (.istore 6, 2) := by decide +kernel
theorem dX6_told_36 : decode cX6_told 36 = .ok (.iconst (-1), 1) := by decide +kernel
theorem dX6_told_37 : decode cX6_told 37 = .ok (.istore 7, 2) := by decide +kernel
theorem dX6_told_39 : decode cX6_told 39 = .ok (.iconst 0, 1) := by decide +kernel
theorem dX6_told_40 : decode cX6_told 40 = .ok (.istore 8, 2) := by decide +kernel
theorem dX6_told_42 : decode cX6_told 42 = .ok (.iconst 0, 1) := by decide +kernel
theorem dX6_told_43 : decode cX6_told 43 = .ok (.istore 9, 2) := by decide +kernel
theorem dX6_told_45 : decode cX6_told 45 = .ok (.iload 9, 2) := by decide +kernel
theorem dX6_told_47 : decode cX6_told 47 = .ok (.aload_n 0, 1) := by decide +kernel
theorem dX6_told_48 : decode cX6_told 48 = .ok (.getfield 7, 3) := by decide +kernel
theorem dX6_told_51 : decode cX6_told 51 = .ok (.aload_n 0, 1) := by decide +kernel
theorem dX6_told_52 : decode cX6_told 52 = .ok (.getfield 13, 3) := by decide +kernel
theorem dX6_told_55 : decode cX6_told 55 = .ok (.imul, 1) := by decide +kernel
theorem dX6_told_56 : decode cX6_told 56 = .ok (.if_icmp .ge 96, 3) := by decide +kernel
theorem dX6_told_59 : decode cX6_told 59 = .ok (.aload_n 0, 1) := by decide +kernel
theorem dX6_told_60 : decode cX6_told 60 = .ok (.getfield 66, 3) := by decide +kernel
theorem dX6_told_63 : decode cX6_told 63 = .ok (.iload 9, 2) := by decide +kernel
theorem dX6_told_65 : decode cX6_told 65 = .ok (.iaload, 1) := by decide +kernel
theorem dX6_told_66 : decode cX6_told 66 = .ok (.istore 10, 2) := by decide +kernel
theorem dX6_told_68 : decode cX6_told 68 = .ok (.iload 8, 2) := by decide +kernel
theorem dX6_told_70 : decode cX6_told 70 = .ok (.iload 10, 2) := by decide +kernel
theorem dX6_told_72 : decode cX6_told 72 = .ok (.aload_n 0, 1) := by decide +kernel
theorem dX6_told_73 : decode cX6_told 73 = .ok (.getfield 16, 3) := by decide +kernel
theorem dX6_told_76 : decode cX6_told 76 = .ok (.bipush 36, 2) := by decide +kernel
theorem dX6_told_78 : decode cX6_told 78 = .ok (.iload_n 1, 1) := by decide +kernel
theorem dX6_told_79 : decode cX6_told 79 = .ok (.imul, 1) := by decide +kernel
theorem dX6_told_80 : decode cX6_told 80 = .ok (.iload 9, 2) := by decide +kernel
theorem dX6_told_82 : decode cX6_told 82 = .ok (.iadd, 1) := by decide +kernel
theorem dX6_told_83 : decode cX6_told 83 = .ok (.iaload, 1) := by decide +kernel
theorem dX6_told_84 : decode cX6_told 84 = .ok (.if_icmp .eq 7, 3) := by decide +kernel
theorem dX6_told_87 : decode cX6_told 87 = .ok (.iconst 1, 1) := by decide +kernel
theorem dX6_told_88 : decode cX6_told 88 = .ok (.goto 4, 3) := by decide +kernel
theorem dX6_told_91 : decode cX6_told 91 = .ok (.iconst 0, 1) := by decide +kernel
theorem dX6_told_92 : decode cX6_told 92 = .ok (.iadd, 1) := by decide +kernel
theorem dX6_told_93 : decode cX6_told 93 = .ok (.istore 8, 2) := by decide +kernel
theorem dX6_told_95 : decode cX6_told 95 = .ok (.iload 10, 2) := by decide +kernel
theorem dX6_told_97 : decode cX6_told 97 = .ok (.iconst (-1), 1) := by decide +kernel
theorem dX6_told_98 : decode cX6_told 98 = .ok (.if_icmp .ne 9, 3) := by decide +kernel
theorem dX6_told_101 : decode cX6_told 101 = .ok (.iinc 4 1, 3) := by decide +kernel
theorem dX6_told_104 : decode cX6_told 104 = .ok (.goto 42, 3) := by decide +kernel
theorem dX6_told_107 : decode cX6_told 107 = .ok (.iload 5, 2) := by decide +kernel
theorem dX6_told_109 : decode cX6_told 109 = .ok (.iload 10, 2) := by decide +kernel
theorem dX6_told_111 : decode cX6_told 111 = .ok (.iadd, 1) := by decide +kernel
theorem dX6_told_112 : decode cX6_told 112 = .ok (.istore 5, 2) := by decide +kernel
theorem dX6_told_114 : decode cX6_told 114 = .ok (.iload 10, 2) := by decide +kernel
theorem dX6_told_116 : decode cX6_told 116 = .ok (.iload 6, 2) := by decide +kernel
theorem dX6_told_118 : decode cX6_told 118 = .ok (.if_icmp .ge 8, 3) := by decide +kernel
theorem dX6_told_121 : decode cX6_told 121 = .ok (.iload 10, 2) := by decide +kernel
theorem dX6_told_123 : decode cX6_told 123 = .ok (.goto 5, 3) := by decide +kernel
theorem dX6_told_126 : decode cX6_told 126 = .ok (.iload 6, 2) := by decide +kernel
theorem dX6_told_128 : decode cX6_told 128 = .ok (.istore 6, 2) := by decide +kernel
theorem dX6_told_130 : decode cX6_told 130 = .ok (.iload 10, 2) := by decide +kernel
theorem dX6_told_132 : decode cX6_told 132 = .ok (.iload 7, 2) := by decide +kernel
theorem dX6_told_134 : decode cX6_told 134 = .ok (.if_icmp .le 8, 3) := by decide +kernel
theorem dX6_told_137 : decode cX6_told 137 = .ok (.iload 10, 2) := by decide +kernel
theorem dX6_told_139 : decode cX6_told 139 = .ok (.goto 5, 3) := by decide +kernel
theorem dX6_told_142 : decode cX6_told 142 = .ok (.iload 7, 2) := by decide +kernel
theorem dX6_told_144 : decode cX6_told 144 = .ok (.istore 7, 2) := by decide +kernel
theorem dX6_told_146 : decode cX6_told 146 = .ok (.iinc 9 1, 3) := by decide +kernel
theorem dX6_told_149 : decode cX6_told 149 = .ok (.goto (-104), 3) := by decide +kernel
theorem dX6_told_152 : decode cX6_told 152 = .ok (.iload_n 2, 1) := by decide +kernel
theorem dX6_told_153 : decode cX6_told 153 = .ok (.iconst 2, 1) := by decide +kernel
theorem dX6_told_154 : decode cX6_told 154 = .ok (.if_icmp .eq 8, 3) := by decide +kernel
theorem dX6_told_157 : decode cX6_told 157 = .ok (.iload_n 2, 1) := by decide +kernel
theorem dX6_told_158 : decode cX6_told 158 = .ok (.iconst 3, 1) := by decide +kernel
theorem dX6_told_159 : decode cX6_told 159 = .ok (.if_icmp .ne 27, 3) := by decide +kernel
theorem dX6_told_162 : decode cX6_told 162 = .ok (.iload 7, 2) := by decide +kernel
theorem dX6_told_164 : decode cX6_told 164 = .ok (.iconst (-1), 1) := by decide +kernel
theorem dX6_told_165 : decode cX6_told 165 = .ok (.if_icmp .ne 8, 3) := by decide +kernel
theorem dX6_told_168 : decode cX6_told 168 = .ok (.bipush (-3), 2) := by decide +kernel
theorem dX6_told_170 : decode cX6_told 170 = .ok (.goto 15, 3) := by decide +kernel
theorem dX6_told_173 : decode cX6_told 173 = .ok (.iload_n 2, 1) := by decide +kernel
theorem dX6_told_174 : decode cX6_told 174 = .ok (.iconst 2, 1) := by decide +kernel
theorem dX6_told_175 : decode cX6_told 175 = .ok (.if_icmp .ne 8, 3) := by decide +kernel
theorem dX6_told_178 : decode cX6_told 178 = .ok (.iload 6, 2) := by decide +kernel
theorem dX6_told_180 : decode cX6_told 180 = .ok (.goto 5, 3) := by decide +kernel
theorem dX6_told_183 : decode cX6_told 183 = .ok (.iload 7, 2) := by decide +kernel
theorem dX6_told_185 : decode cX6_told 185 = .ok (.ireturn, 1) := by decide +kernel
theorem dX6_told_186 : decode cX6_told 186 = .ok (.iload_n 2, 1) := by decide +kernel
theorem dX6_told_187 : decode cX6_told 187 = .ok (.ifCond .ne 8, 3) := by decide +kernel
theorem dX6_told_190 : decode cX6_told 190 = .ok (.iload 4, 2) := by decide +kernel
theorem dX6_told_192 : decode cX6_told 192 = .ok (.goto 15, 3) := by decide +kernel
theorem dX6_told_195 : decode cX6_told 195 = .ok (.iload_n 2, 1) := by decide +kernel
theorem dX6_told_196 : decode cX6_told 196 = .ok (.iconst 1, 1) := by decide +kernel
theorem dX6_told_197 : decode cX6_told 197 = .ok (.if_icmp .ne 8, 3) := by decide +kernel
theorem dX6_told_200 : decode cX6_told 200 = .ok (.iload 5, 2) := by decide +kernel
theorem dX6_told_202 : decode cX6_told 202 = .ok (.goto 5, 3) := by decide +kernel
theorem dX6_told_205 : decode cX6_told 205 = .ok (.iload 8, 2) := by decide +kernel
theorem dX6_told_207 : decode cX6_told 207 = .ok (.ireturn, 1) := by decide +kernel
theorem dX6_many_0 : decode cX6_many 0 = .ok (.iconst 0, 1) := by decide +kernel
theorem dX6_many_1 : decode cX6_many 1 = .ok (.istore_n 2, 1) := by decide +kernel
theorem dX6_many_2 : decode cX6_many 2 = .ok (.iload_n 1, 1) := by decide +kernel
theorem dX6_many_3 : decode cX6_many 3 = .ok (.tableswitch 179 0 8 #[49, 54, 59, 64, 69, 104, 169, 169, 169], 49) := by decide +kernel
theorem dX6_many_52 : decode cX6_many 52 = .ok (.aload_n 0, 1) := by decide +kernel
theorem dX6_many_53 : decode cX6_many 53 = .ok (.getfield 7, 3) := by decide +kernel
theorem dX6_many_56 : decode cX6_many 56 = .ok (.ireturn, 1) := by decide +kernel
theorem dX6_many_57 : decode cX6_many 57 = .ok (.aload_n 0, 1) := by decide +kernel
theorem dX6_many_58 : decode cX6_many 58 = .ok (.getfield 13, 3) := by decide +kernel
theorem dX6_many_61 : decode cX6_many 61 = .ok (.ireturn, 1) := by decide +kernel
theorem dX6_many_62 : decode cX6_many 62 = .ok (.aload_n 0, 1) := by decide +kernel
theorem dX6_many_63 : decode cX6_many 63 = .ok (.getfield 72, 3) := by decide +kernel
theorem dX6_many_66 : decode cX6_many 66 = .ok (.ireturn, 1) := by decide +kernel
theorem dX6_many_67 : decode cX6_many 67 = .ok (.aload_n 0, 1) := by decide +kernel
theorem dX6_many_68 : decode cX6_many 68 = .ok (.getfield 79, 3) := by decide +kernel
theorem dX6_many_71 : decode cX6_many 71 = .ok (.ireturn, 1) := by decide +kernel
theorem dX6_many_72 : decode cX6_many 72 = .ok (.iconst 0, 1) := by decide +kernel
theorem dX6_many_73 : decode cX6_many 73 = .ok (.istore_n 3, 1) := by decide +kernel
theorem dX6_many_74 : decode cX6_many 74 = .ok (.iload_n 3, 1) := by decide +kernel
theorem dX6_many_75 : decode cX6_many 75 = .ok (.aload_n 0, 1) := by decide +kernel
theorem dX6_many_76 : decode cX6_many 76 = .ok (.getfield 79, 3) := by decide +kernel
theorem dX6_many_79 : decode cX6_many 79 = .ok (.if_icmp .ge 26, 3) := by decide +kernel
theorem dX6_many_82 : decode cX6_many 82 = .ok (.iload_n 2, 1) := by decide +kernel
theorem dX6_many_83 : decode cX6_many 83 = .ok (.aload_n 0, 1) := by decide +kernel
theorem dX6_many_84 : decode cX6_many 84 = .ok (.getfield 32, 3) := by decide +kernel
theorem dX6_many_87 : decode cX6_many 87 = .ok (.iload_n 3, 1) := by decide +kernel
theorem dX6_many_88 : decode cX6_many 88 = .ok (.baload, 1) := by decide +kernel
theorem dX6_many_89 : decode cX6_many 89 = .ok (.ifCond .eq 7, 3) := by decide +kernel
theorem dX6_many_92 : decode cX6_many 92 = .ok (.iconst 1, 1) := by decide +kernel
theorem dX6_many_93 : decode cX6_many 93 = .ok (.goto 4, 3) := by decide +kernel
theorem dX6_many_96 : decode cX6_many 96 = .ok (.iconst 0, 1) := by decide +kernel
theorem dX6_many_97 : decode cX6_many 97 = .ok (.iadd, 1) := by decide +kernel
theorem dX6_many_98 : decode cX6_many 98 = .ok (.istore_n 2, 1) := by decide +kernel
theorem dX6_many_99 : decode cX6_many 99 = .ok (.iinc 3 1, 3) := by decide +kernel
theorem dX6_many_102 : decode cX6_many 102 = .ok (.goto (-28), 3) := by decide +kernel
theorem dX6_many_105 : decode cX6_many 105 = .ok (.iload_n 2, 1) := by decide +kernel
theorem dX6_many_106 : decode cX6_many 106 = .ok (.ireturn, 1) := by decide +kernel
theorem dX6_many_107 : decode cX6_many 107 = .ok (.iconst 0, 1) := by decide +kernel
theorem dX6_many_108 : decode cX6_many 108 = .ok (.istore_n 3, 1) := by decide +kernel
theorem dX6_many_109 : decode cX6_many 109 = .ok (.iload_n 3, 1) := by decide +kernel
theorem dX6_many_110 : decode cX6_many 110 = .ok (.aload_n 0, 1) := by decide +kernel
theorem dX6_many_111 : decode cX6_many 111 = .ok (.getfield 72, 3) := by decide +kernel
theorem dX6_many_114 : decode cX6_many 114 = .ok (.if_icmp .ge 56, 3) := by decide +kernel
theorem dX6_many_117 : decode cX6_many 117 = .ok (.iconst 0, 1) := by decide +kernel
theorem dX6_many_118 : decode cX6_many 118 = .ok (.istore 4, 2) := by decide +kernel
theorem dX6_many_120 : decode cX6_many 120 = .ok (.iload 4, 2) := by decide +kernel
theorem dX6_many_122 : decode cX6_many 122 = .ok (.aload_n 0, 1) := by decide +kernel
theorem dX6_many_123 : decode cX6_many 123 = .ok (.getfield 7, 3) := by decide +kernel
theorem dX6_many_126 : decode cX6_many 126 = .ok (.aload_n 0, 1) := by decide +kernel
theorem dX6_many_127 : decode cX6_many 127 = .ok (.getfield 13, 3) := by decide +kernel
theorem dX6_many_130 : decode cX6_many 130 = .ok (.imul, 1) := by decide +kernel
theorem dX6_many_131 : decode cX6_many 131 = .ok (.if_icmp .ge 33, 3) := by decide +kernel
theorem dX6_many_134 : decode cX6_many 134 = .ok (.iload_n 2, 1) := by decide +kernel
theorem dX6_many_135 : decode cX6_many 135 = .ok (.aload_n 0, 1) := by decide +kernel
theorem dX6_many_136 : decode cX6_many 136 = .ok (.getfield 16, 3) := by decide +kernel
theorem dX6_many_139 : decode cX6_many 139 = .ok (.bipush 36, 2) := by decide +kernel
theorem dX6_many_141 : decode cX6_many 141 = .ok (.iload_n 3, 1) := by decide +kernel
theorem dX6_many_142 : decode cX6_many 142 = .ok (.imul, 1) := by decide +kernel
theorem dX6_many_143 : decode cX6_many 143 = .ok (.iload 4, 2) := by decide +kernel
theorem dX6_many_145 : decode cX6_many 145 = .ok (.iadd, 1) := by decide +kernel
theorem dX6_many_146 : decode cX6_many 146 = .ok (.iaload, 1) := by decide +kernel
theorem dX6_many_147 : decode cX6_many 147 = .ok (.iconst (-1), 1) := by decide +kernel
theorem dX6_many_148 : decode cX6_many 148 = .ok (.if_icmp .ne 7, 3) := by decide +kernel
theorem dX6_many_151 : decode cX6_many 151 = .ok (.iconst 1, 1) := by decide +kernel
theorem dX6_many_152 : decode cX6_many 152 = .ok (.goto 4, 3) := by decide +kernel
theorem dX6_many_155 : decode cX6_many 155 = .ok (.iconst 0, 1) := by decide +kernel
theorem dX6_many_156 : decode cX6_many 156 = .ok (.iadd, 1) := by decide +kernel
theorem dX6_many_157 : decode cX6_many 157 = .ok (.istore_n 2, 1) := by decide +kernel
theorem dX6_many_158 : decode cX6_many 158 = .ok (.iinc 4 1, 3) := by decide +kernel
theorem dX6_many_161 : decode cX6_many 161 = .ok (.goto (-41), 3) := by decide +kernel
theorem dX6_many_164 : decode cX6_many 164 = .ok (.iinc 3 1, 3) := by decide +kernel
theorem dX6_many_167 : decode cX6_many 167 = .ok (.goto (-58), 3) := by decide +kernel
theorem dX6_many_170 : decode cX6_many 170 = .ok (.iload_n 2, 1) := by decide +kernel
theorem dX6_many_171 : decode cX6_many 171 = .ok (.ireturn, 1) := by decide +kernel
theorem dX6_many_172 : decode cX6_many 172 = .ok (.aload_n 0, 1) := by decide +kernel
theorem dX6_many_173 : decode cX6_many 173 = .ok (.getfield 36, 3) := by decide +kernel
theorem dX6_many_176 : decode cX6_many 176 = .ok (.iload_n 1, 1) := by decide +kernel
theorem dX6_many_177 : decode cX6_many 177 = .ok (.bipush 6, 2) := by decide +kernel
theorem dX6_many_179 : decode cX6_many 179 = .ok (.isub, 1) := by decide +kernel
theorem dX6_many_180 : decode cX6_many 180 = .ok (.iaload, 1) := by decide +kernel
theorem dX6_many_181 : decode cX6_many 181 = .ok (.ireturn, 1) := by decide +kernel
theorem dX6_many_182 : decode cX6_many 182 = .ok (.iconst (-1), 1) := by decide +kernel
theorem dX6_many_183 : decode cX6_many 183 = .ok (.ireturn, 1) := by decide +kernel
theorem dX6_keep_0 : decode cX6_keep 0 = .ok (.aload_n 0, 1) := by decide +kernel
theorem dX6_keep_1 : decode cX6_keep 1 = .ok (.iconst 1, 1) := by decide +kernel
theorem dX6_keep_2 : decode cX6_keep 2 = .ok (.putfield 172, 3) := by decide +kernel
theorem dX6_keep_5 : decode cX6_keep 5 = .ok (.aload_n 0, 1) := by decide +kernel
theorem dX6_keep_6 : decode cX6_keep 6 = .ok (.aload_n 0, 1) := by decide +kernel
theorem dX6_keep_7 : decode cX6_keep 7 = .ok (.getfield 7, 3) := by decide +kernel
theorem dX6_keep_10 : decode cX6_keep 10 = .ok (.putfield 176, 3) := by decide +kernel
theorem dX6_keep_13 : decode cX6_keep 13 = .ok (.aload_n 0, 1) := by decide +kernel
theorem dX6_keep_14 : decode cX6_keep 14 = .ok (.aload_n 0, 1) := by decide +kernel
theorem dX6_keep_15 : decode cX6_keep 15 = .ok (.getfield 13, 3) := by decide +kernel
theorem dX6_keep_18 : decode cX6_keep 18 = .ok (.putfield 179, 3) := by decide +kernel
theorem dX6_keep_21 : decode cX6_keep 21 = .ok (.aload_n 0, 1) := by decide +kernel
theorem dX6_keep_22 : decode cX6_keep 22 = .ok (.aload_n 0, 1) := by decide +kernel
theorem dX6_keep_23 : decode cX6_keep 23 = .ok (.getfield 72, 3) := by decide +kernel
theorem dX6_keep_26 : decode cX6_keep 26 = .ok (.putfield 182, 3) := by decide +kernel
theorem dX6_keep_29 : decode cX6_keep 29 = .ok (.aload_n 0, 1) := by decide +kernel
theorem dX6_keep_30 : decode cX6_keep 30 = .ok (.aload_n 0, 1) := by decide +kernel
theorem dX6_keep_31 : decode cX6_keep 31 = .ok (.getfield 79, 3) := by decide +kernel
theorem dX6_keep_34 : decode cX6_keep 34 = .ok (.putfield 185, 3) := by decide +kernel
theorem dX6_keep_37 : decode cX6_keep 37 = .ok (.iconst 0, 1) := by decide +kernel
theorem dX6_keep_38 : decode cX6_keep 38 = .ok (.istore_n 1, 1) := by decide +kernel
theorem dX6_keep_39 : decode cX6_keep 39 = .ok (.iload_n 1, 1) := by decide +kernel
theorem dX6_keep_40 : decode cX6_keep 40 = .ok (.sipush 360, 3) := by decide +kernel
theorem dX6_keep_43 : decode cX6_keep 43 = .ok (.if_icmp .ge 21, 3) := by decide +kernel
theorem dX6_keep_46 : decode cX6_keep 46 = .ok (.aload_n 0, 1) := by decide +kernel
theorem dX6_keep_47 : decode cX6_keep 47 = .ok (.getfield 39, 3) := by decide +kernel
theorem dX6_keep_50 : decode cX6_keep 50 = .ok (.iload_n 1, 1) := by decide +kernel
theorem dX6_keep_51 : decode cX6_keep 51 = .ok (.aload_n 0, 1) := by decide +kernel
theorem dX6_keep_52 : decode cX6_keep 52 = .ok (.getfield 16, 3) := by decide +kernel
theorem dX6_keep_55 : decode cX6_keep 55 = .ok (.iload_n 1, 1) := by decide +kernel
theorem dX6_keep_56 : decode cX6_keep 56 = .ok (.iaload, 1) := by decide +kernel
theorem dX6_keep_57 : decode cX6_keep 57 = .ok (.iastore, 1) := by decide +kernel
theorem dX6_keep_58 : decode cX6_keep 58 = .ok (.iinc 1 1, 3) := by decide +kernel
theorem dX6_keep_61 : decode cX6_keep 61 = .ok (.goto (-22), 3) := by decide +kernel
theorem dX6_keep_64 : decode cX6_keep 64 = .ok (.iconst 0, 1) := by decide +kernel
theorem dX6_keep_65 : decode cX6_keep 65 = .ok (.istore_n 1, 1) := by decide +kernel
theorem dX6_keep_66 : decode cX6_keep 66 = .ok (.iload_n 1, 1) := by decide +kernel
theorem dX6_keep_67 : decode cX6_keep 67 = .ok (.bipush 12, 2) := by decide +kernel
theorem dX6_keep_69 : decode cX6_keep 69 = .ok (.if_icmp .ge 69, 3) := by decide +kernel
theorem dX6_keep_72 : decode cX6_keep 72 = .ok (.aload_n 0, 1) := by decide +kernel
theorem dX6_keep_73 : decode cX6_keep 73 = .ok (.getfield 42, 3) := by decide +kernel
theorem dX6_keep_76 : decode cX6_keep 76 = .ok (.iload_n 1, 1) := by decide +kernel
theorem dX6_keep_77 : decode cX6_keep 77 = .ok (.aload_n 0, 1) := by decide +kernel
theorem dX6_keep_78 : decode cX6_keep 78 = .ok (.getfield 20, 3) := by decide +kernel
theorem dX6_keep_81 : decode cX6_keep 81 = .ok (.iload_n 1, 1) := by decide +kernel
theorem dX6_keep_82 : decode cX6_keep 82 = .ok (.iaload, 1) := by decide +kernel
theorem dX6_keep_83 : decode cX6_keep 83 = .ok (.iastore, 1) := by decide +kernel
theorem dX6_keep_84 : decode cX6_keep 84 = .ok (.aload_n 0, 1) := by decide +kernel
theorem dX6_keep_85 : decode cX6_keep 85 = .ok (.getfield 45, 3) := by decide +kernel
theorem dX6_keep_88 : decode cX6_keep 88 = .ok (.iload_n 1, 1) := by decide +kernel
theorem dX6_keep_89 : decode cX6_keep 89 = .ok (.aload_n 0, 1) := by decide +kernel
theorem dX6_keep_90 : decode cX6_keep 90 = .ok (.getfield 23, 3) := by decide +kernel
theorem dX6_keep_93 : decode cX6_keep 93 = .ok (.iload_n 1, 1) := by decide +kernel
theorem dX6_keep_94 : decode cX6_keep 94 = .ok (.iaload, 1) := by decide +kernel
theorem dX6_keep_95 : decode cX6_keep 95 = .ok (.iastore, 1) := by decide +kernel
theorem dX6_keep_96 : decode cX6_keep 96 = .ok (.aload_n 0, 1) := by decide +kernel
theorem dX6_keep_97 : decode cX6_keep 97 = .ok (.getfield 48, 3) := by decide +kernel
theorem dX6_keep_100 : decode cX6_keep 100 = .ok (.iload_n 1, 1) := by decide +kernel
theorem dX6_keep_101 : decode cX6_keep 101 = .ok (.aload_n 0, 1) := by decide +kernel
theorem dX6_keep_102 : decode cX6_keep 102 = .ok (.getfield 26, 3) := by decide +kernel
theorem dX6_keep_105 : decode cX6_keep 105 = .ok (.iload_n 1, 1) := by decide +kernel
theorem dX6_keep_106 : decode cX6_keep 106 = .ok (.iaload, 1) := by decide +kernel
theorem dX6_keep_107 : decode cX6_keep 107 = .ok (.iastore, 1) := by decide +kernel
theorem dX6_keep_108 : decode cX6_keep 108 = .ok (.aload_n 0, 1) := by decide +kernel
theorem dX6_keep_109 : decode cX6_keep 109 = .ok (.getfield 51, 3) := by decide +kernel
theorem dX6_keep_112 : decode cX6_keep 112 = .ok (.iload_n 1, 1) := by decide +kernel
theorem dX6_keep_113 : decode cX6_keep 113 = .ok (.aload_n 0, 1) := by decide +kernel
theorem dX6_keep_114 : decode cX6_keep 114 = .ok (.getfield 29, 3) := by decide +kernel
theorem dX6_keep_117 : decode cX6_keep 117 = .ok (.iload_n 1, 1) := by decide +kernel
theorem dX6_keep_118 : decode cX6_keep 118 = .ok (.iaload, 1) := by decide +kernel
theorem dX6_keep_119 : decode cX6_keep 119 = .ok (.iastore, 1) := by decide +kernel
theorem dX6_keep_120 : decode cX6_keep 120 = .ok (.aload_n 0, 1) := by decide +kernel
theorem dX6_keep_121 : decode cX6_keep 121 = .ok (.getfield 54, 3) := by decide +kernel
theorem dX6_keep_124 : decode cX6_keep 124 = .ok (.iload_n 1, 1) := by decide +kernel
theorem dX6_keep_125 : decode cX6_keep 125 = .ok (.aload_n 0, 1) := by decide +kernel
theorem dX6_keep_126 : decode cX6_keep 126 = .ok (.getfield 32, 3) := by decide +kernel
theorem dX6_keep_129 : decode cX6_keep 129 = .ok (.iload_n 1, 1) := by decide +kernel
theorem dX6_keep_130 : decode cX6_keep 130 = .ok (.baload, 1) := by decide +kernel
theorem dX6_keep_131 : decode cX6_keep 131 = .ok (.bastore, 1) := by decide +kernel
theorem dX6_keep_132 : decode cX6_keep 132 = .ok (.iinc 1 1, 3) := by decide +kernel
theorem dX6_keep_135 : decode cX6_keep 135 = .ok (.goto (-69), 3) := by decide +kernel
theorem dX6_keep_138 : decode cX6_keep 138 = .ok (.iconst 1, 1) := by decide +kernel
theorem dX6_keep_139 : decode cX6_keep 139 = .ok (.ireturn, 1) := by decide +kernel
theorem dX6_back_0 : decode cX6_back 0 = .ok (.aload_n 0, 1) := by decide +kernel
theorem dX6_back_1 : decode cX6_back 1 = .ok (.getfield 172, 3) := by decide +kernel
theorem dX6_back_4 : decode cX6_back 4 = .ok (.ifCond .ne 6, 3) := by decide +kernel
theorem dX6_back_7 : decode cX6_back 7 = .ok (.bipush (-3), 2) := by decide +kernel
theorem dX6_back_9 : decode cX6_back 9 = .ok (.ireturn, 1) := by decide +kernel
theorem dX6_back_10 : decode cX6_back 10 = .ok (.aload_n 0, 1) := by decide +kernel
theorem dX6_back_11 : decode cX6_back 11 = .ok (.aload_n 0, 1) := by decide +kernel
theorem dX6_back_12 : decode cX6_back 12 = .ok (.getfield 176, 3) := by decide +kernel
theorem dX6_back_15 : decode cX6_back 15 = .ok (.putfield 7, 3) := by decide +kernel
theorem dX6_back_18 : decode cX6_back 18 = .ok (.aload_n 0, 1) := by decide +kernel
theorem dX6_back_19 : decode cX6_back 19 = .ok (.aload_n 0, 1) := by decide +kernel
theorem dX6_back_20 : decode cX6_back 20 = .ok (.getfield 179, 3) := by decide +kernel
theorem dX6_back_23 : decode cX6_back 23 = .ok (.putfield 13, 3) := by decide +kernel
theorem dX6_back_26 : decode cX6_back 26 = .ok (.aload_n 0, 1) := by decide +kernel
theorem dX6_back_27 : decode cX6_back 27 = .ok (.aload_n 0, 1) := by decide +kernel
theorem dX6_back_28 : decode cX6_back 28 = .ok (.getfield 182, 3) := by decide +kernel
theorem dX6_back_31 : decode cX6_back 31 = .ok (.putfield 72, 3) := by decide +kernel
theorem dX6_back_34 : decode cX6_back 34 = .ok (.aload_n 0, 1) := by decide +kernel
theorem dX6_back_35 : decode cX6_back 35 = .ok (.aload_n 0, 1) := by decide +kernel
theorem dX6_back_36 : decode cX6_back 36 = .ok (.getfield 185, 3) := by decide +kernel
theorem dX6_back_39 : decode cX6_back 39 = .ok (.putfield 79, 3) := by decide +kernel
theorem dX6_back_42 : decode cX6_back 42 = .ok (.iconst 0, 1) := by decide +kernel
theorem dX6_back_43 : decode cX6_back 43 = .ok (.istore_n 1, 1) := by decide +kernel
theorem dX6_back_44 : decode cX6_back 44 = .ok (.iload_n 1, 1) := by decide +kernel
theorem dX6_back_45 : decode cX6_back 45 = .ok (.sipush 360, 3) := by decide +kernel
theorem dX6_back_48 : decode cX6_back 48 = .ok (.if_icmp .ge 21, 3) := by decide +kernel
theorem dX6_back_51 : decode cX6_back 51 = .ok (.aload_n 0, 1) := by decide +kernel
theorem dX6_back_52 : decode cX6_back 52 = .ok (.getfield 16, 3) := by decide +kernel
theorem dX6_back_55 : decode cX6_back 55 = .ok (.iload_n 1, 1) := by decide +kernel
theorem dX6_back_56 : decode cX6_back 56 = .ok (.aload_n 0, 1) := by decide +kernel
theorem dX6_back_57 : decode cX6_back 57 = .ok (.getfield 39, 3) := by decide +kernel
theorem dX6_back_60 : decode cX6_back 60 = .ok (.iload_n 1, 1) := by decide +kernel
theorem dX6_back_61 : decode cX6_back 61 = .ok (.iaload, 1) := by decide +kernel
theorem dX6_back_62 : decode cX6_back 62 = .ok (.iastore, 1) := by decide +kernel
theorem dX6_back_63 : decode cX6_back 63 = .ok (.iinc 1 1, 3) := by decide +kernel
theorem dX6_back_66 : decode cX6_back 66 = .ok (.goto (-22), 3) := by decide +kernel
theorem dX6_back_69 : decode cX6_back 69 = .ok (.iconst 0, 1) := by decide +kernel
theorem dX6_back_70 : decode cX6_back 70 = .ok (.istore_n 1, 1) := by decide +kernel
theorem dX6_back_71 : decode cX6_back 71 = .ok (.iload_n 1, 1) := by decide +kernel
theorem dX6_back_72 : decode cX6_back 72 = .ok (.bipush 12, 2) := by decide +kernel
theorem dX6_back_74 : decode cX6_back 74 = .ok (.if_icmp .ge 69, 3) := by decide +kernel
theorem dX6_back_77 : decode cX6_back 77 = .ok (.aload_n 0, 1) := by decide +kernel
theorem dX6_back_78 : decode cX6_back 78 = .ok (.getfield 20, 3) := by decide +kernel
theorem dX6_back_81 : decode cX6_back 81 = .ok (.iload_n 1, 1) := by decide +kernel
theorem dX6_back_82 : decode cX6_back 82 = .ok (.aload_n 0, 1) := by decide +kernel
theorem dX6_back_83 : decode cX6_back 83 = .ok (.getfield 42, 3) := by decide +kernel
theorem dX6_back_86 : decode cX6_back 86 = .ok (.iload_n 1, 1) := by decide +kernel
theorem dX6_back_87 : decode cX6_back 87 = .ok (.iaload, 1) := by decide +kernel
theorem dX6_back_88 : decode cX6_back 88 = .ok (.iastore, 1) := by decide +kernel
theorem dX6_back_89 : decode cX6_back 89 = .ok (.aload_n 0, 1) := by decide +kernel
theorem dX6_back_90 : decode cX6_back 90 = .ok (.getfield 23, 3) := by decide +kernel
theorem dX6_back_93 : decode cX6_back 93 = .ok (.iload_n 1, 1) := by decide +kernel
theorem dX6_back_94 : decode cX6_back 94 = .ok (.aload_n 0, 1) := by decide +kernel
theorem dX6_back_95 : decode cX6_back 95 = .ok (.getfield 45, 3) := by decide +kernel
theorem dX6_back_98 : decode cX6_back 98 = .ok (.iload_n 1, 1) := by decide +kernel
theorem dX6_back_99 : decode cX6_back 99 = .ok (.iaload, 1) := by decide +kernel
theorem dX6_back_100 : decode cX6_back 100 = .ok (.iastore, 1) := by decide +kernel
theorem dX6_back_101 : decode cX6_back 101 = .ok (.aload_n 0, 1) := by decide +kernel
theorem dX6_back_102 : decode cX6_back 102 = .ok (.getfield 26, 3) := by decide +kernel
theorem dX6_back_105 : decode cX6_back 105 = .ok (.iload_n 1, 1) := by decide +kernel
theorem dX6_back_106 : decode cX6_back 106 = .ok (.aload_n 0, 1) := by decide +kernel
theorem dX6_back_107 : decode cX6_back 107 = .ok (.getfield 48, 3) := by decide +kernel
theorem dX6_back_110 : decode cX6_back 110 = .ok (.iload_n 1, 1) := by decide +kernel
theorem dX6_back_111 : decode cX6_back 111 = .ok (.iaload, 1) := by decide +kernel
theorem dX6_back_112 : decode cX6_back 112 = .ok (.iastore, 1) := by decide +kernel
theorem dX6_back_113 : decode cX6_back 113 = .ok (.aload_n 0, 1) := by decide +kernel
theorem dX6_back_114 : decode cX6_back 114 = .ok (.getfield 29, 3) := by decide +kernel
theorem dX6_back_117 : decode cX6_back 117 = .ok (.iload_n 1, 1) := by decide +kernel
theorem dX6_back_118 : decode cX6_back 118 = .ok (.aload_n 0, 1) := by decide +kernel
theorem dX6_back_119 : decode cX6_back 119 = .ok (.getfield 51, 3) := by decide +kernel
theorem dX6_back_122 : decode cX6_back 122 = .ok (.iload_n 1, 1) := by decide +kernel
theorem dX6_back_123 : decode cX6_back 123 = .ok (.iaload, 1) := by decide +kernel
theorem dX6_back_124 : decode cX6_back 124 = .ok (.iastore, 1) := by decide +kernel
theorem dX6_back_125 : decode cX6_back 125 = .ok (.aload_n 0, 1) := by decide +kernel
theorem dX6_back_126 : decode cX6_back 126 = .ok (.getfield 32, 3) := by decide +kernel
theorem dX6_back_129 : decode cX6_back 129 = .ok (.iload_n 1, 1) := by decide +kernel
theorem dX6_back_130 : decode cX6_back 130 = .ok (.aload_n 0, 1) := by decide +kernel
theorem dX6_back_131 : decode cX6_back 131 = .ok (.getfield 54, 3) := by decide +kernel
theorem dX6_back_134 : decode cX6_back 134 = .ok (.iload_n 1, 1) := by decide +kernel
theorem dX6_back_135 : decode cX6_back 135 = .ok (.baload, 1) := by decide +kernel
theorem dX6_back_136 : decode cX6_back 136 = .ok (.bastore, 1) := by decide +kernel
theorem dX6_back_137 : decode cX6_back 137 = .ok (.iinc 1 1, 3) := by decide +kernel
theorem dX6_back_140 : decode cX6_back 140 = .ok (.goto (-69), 3) := by decide +kernel
theorem dX6_back_143 : decode cX6_back 143 = .ok (.iconst 1, 1) := by decide +kernel
theorem dX6_back_144 : decode cX6_back 144 = .ok (.ireturn, 1) := by decide +kernel
theorem dJ9_abs_0f7a4_0 : decode cJ9_abs_0f7a4 0 = .ok (.iload_n 0, 1) := by decide +kernel
theorem dJ9_abs_0f7a4_1 : decode cJ9_abs_0f7a4 1 = .ok (.ifCond .ge 8, 3) := by decide +kernel
theorem dJ9_abs_0f7a4_4 : decode cJ9_abs_0f7a4 4 = .ok (.iload_n 0, 1) := by decide +kernel
theorem dJ9_abs_0f7a4_5 : decode cJ9_abs_0f7a4 5 = .ok (.ineg, 1) := by decide +kernel
theorem dJ9_abs_0f7a4_6 : decode cJ9_abs_0f7a4 6 = .ok (.goto 4, 3) := by decide +kernel
theorem dJ9_abs_0f7a4_9 : decode cJ9_abs_0f7a4 9 = .ok (.iload_n 0, 1) := by decide +kernel
theorem dJ9_abs_0f7a4_10 : decode cJ9_abs_0f7a4 10 = .ok (.ireturn, 1) := by decide +kernel
theorem dJ9_max_7cf53_0 : decode cJ9_max_7cf53 0 = .ok (.iload_n 0, 1) := by decide +kernel
theorem dJ9_max_7cf53_1 : decode cJ9_max_7cf53 1 = .ok (.iload_n 1, 1) := by decide +kernel
theorem dJ9_max_7cf53_2 : decode cJ9_max_7cf53 2 = .ok (.if_icmp .lt 7, 3) := by decide +kernel
theorem dJ9_max_7cf53_5 : decode cJ9_max_7cf53 5 = .ok (.iload_n 0, 1) := by decide +kernel
theorem dJ9_max_7cf53_6 : decode cJ9_max_7cf53 6 = .ok (.goto 4, 3) := by decide +kernel
theorem dJ9_max_7cf53_9 : decode cJ9_max_7cf53 9 = .ok (.iload_n 1, 1) := by decide +kernel
theorem dJ9_max_7cf53_10 : decode cJ9_max_7cf53 10 = .ok (.ireturn, 1) := by decide +kernel
theorem dJ9_min_7cf53_0 : decode cJ9_min_7cf53 0 = .ok (.iload_n 0, 1) := by decide +kernel
theorem dJ9_min_7cf53_1 : decode cJ9_min_7cf53 1 = .ok (.iload_n 1, 1) := by decide +kernel
theorem dJ9_min_7cf53_2 : decode cJ9_min_7cf53 2 = .ok (.if_icmp .gt 7, 3) := by decide +kernel
theorem dJ9_min_7cf53_5 : decode cJ9_min_7cf53 5 = .ok (.iload_n 0, 1) := by decide +kernel
theorem dJ9_min_7cf53_6 : decode cJ9_min_7cf53 6 = .ok (.goto 4, 3) := by decide +kernel
theorem dJ9_min_7cf53_9 : decode cJ9_min_7cf53 9 = .ok (.iload_n 1, 1) := by decide +kernel
theorem dJ9_min_7cf53_10 : decode cJ9_min_7cf53 10 = .ok (.ireturn, 1) := by decide +kernel
